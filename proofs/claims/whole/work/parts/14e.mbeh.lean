/-! The reference: behind. -/
theorem m_beh_end (d : Nat) (h : xH) (M : Nat) {t : Nat → Int32} {n : Nat} {S0 S : gS} {i : Nat} {A P : List aT} (hop : isOp ((pcs t n).1 i) = false) (hP : ∀ x, x ∈ P → opN false x) (hb : bV t n S0 S i A (P ++ [])) (hl : A.length + (P ++ []).length ≤ 700) : ∃ S', xm (d + 3) 161 [.ref M] (oh 11 h M S) = some (some (.int (nI 0)), oh 11 h M S') ∧ bV t n S0 S' i (A ++ P) [] := by
  obtain ⟨S1, e1, b1⟩ := m_done d h M false (Or.inl rfl) hP hb hl
  refine ⟨S1, ?_, b1⟩
  have e0 := m_isOperator (d + 1) h M S
  rw [hb.1.2.2.2.1, hop, bI_f] at e0
  rw [bI_f] at e1
  have h56 : sI S1 56 = nI 0 := b1.2.2.2.1.1
  rw [E_161 _ _ _ rfl]
  simp (disch := omega) only [q_161_0, q_161_1, q_161_4, q_161_7, q_161_8, q_161_9, q_161_10, q_161_11, q_161_14, q_161_15, q_161_18, q_161_21, q_161_22, q_161_25, q_161_26, q_161_29, q_161_30, q_161_33, q_161_34, q_161_35, q_161_36, q_161_37, q_161_38, q_161_41, q_161_42, q_161_43, q_161_44, q_161_47, q_161_48, q_161_50, q_161_53, q_161_55, q_161_58, q_161_60, q_161_63, q_161_64, q_161_67, q_161_68, q_161_69, q_161_70, q_161_71, q_161_74, q_161_75, q_161_76, q_161_79, q_161_80, q_161_81, q_161_84, q_161_85, q_161_86, q_161_89, q_161_90, q_161_92, q_161_95, q_161_96, q_161_97, q_161_98, q_161_101, q_161_102, q_161_105, q_161_106, q_161_107, q_161_110, q_161_111, q_161_114, q_161_115, q_161_118, q_161_119, q_161_122, q_161_123, q_161_126, q_161_127, og_11_56, op_11_56, og_11_53, or_11_53, ow_11_53, og_11_31, og_11_57, op_11_57, og_11_54, or_11_54, ow_11_54, og_11_55, or_11_55, ow_11_55, o_is, o_ob, ofs_len11, ↓reduceIte, k_cr, k_ci, k_oR, k_oN, k_aR, k_aN, and_true, true_and, and_self, eq_self, Nat.reduceLT, Nat.reduceLeDiff, Nat.reduceEqDiff, Nat.reduceAdd, Nat.reduceMul, Bool.true_eq_false, Bool.false_eq_true, Nat.add_sub_cancel, Nat.not_lt_zero, Nat.zero_le, k_sub, k_sb1, k_r, k_n, k_ret, k_t1, k_t0, k_nr, k_nn, k_z0, k_z1, k_zb, x_okI, lit_nI, k_in, k_cl, k_lt, k_le, k_eq, k_neg, nI_add, nI_mul, k_clt, k_cgt, k_cle, k_cge, k_ceq, bI_0, k_sh8, ne_eq, Nat.add_eq_zero_iff, Nat.one_ne_zero, Nat.succ_ne_zero, and_false, false_and, not_false_eq_true, not_true_eq_false, ite_true, ite_false, if_true, if_false, sI_uI, sJ_uI, sA_uI, sL_uI, sR_uI, sQ_uI, sI_uJ, sJ_uJ, sA_uJ, sL_uJ, sR_uJ, sQ_uJ, sI_uA, sJ_uA, sA_uA, sL_uA, sR_uA, sQ_uA, sI_uL, sJ_uL, sA_uL, sL_uL, sR_uL, sQ_uL, sI_uR, sJ_uR, sA_uR, sL_uR, sR_uR, sQ_uR, sI_uQ, sJ_uQ, sA_uQ, sL_uQ, sR_uQ, sQ_uQ, e0, e1, h56]
theorem nst_in {x : aT} {H : List aT} (hx : nsW x.1 = true) : nst (x :: H) = nst H + 1 := by
  show (if nsW x.1 = true then nst H + 1 else nst H) = _
  rw [if_pos hx]
theorem nst_no {x : aT} {H : List aT} (hx : nsW x.1 = false) : nst (x :: H) = nst H := by
  show (if nsW x.1 = true then nst H + 1 else nst H) = _
  rw [hx]
  rfl
theorem m_beh_par (d : Nat) (h : xH) (M : Nat) {t : Nat → Int32} {n : Nat} {S0 S : gS} {i : Nat} {A P H : List aT} (v : Int64) (a : Nat) (h7 : n ≤ 700) (hop : isOp ((pcs t n).1 i) = false) (hP : ∀ x, x ∈ P → opN false x) (hb : bV t n S0 S i A (P ++ (nI 12, v, a) :: H)) (hl : A.length + (P ++ (nI 12, v, a) :: H).length ≤ 700) (hc : (pcs t n).1 i = nI 41) : ∃ S', xm (d + 3) 161 [.ref M] (oh 11 h M S) = some (some (.int (nI 1)), oh 11 h M S') ∧ bV t n S0 S' (i + 1) (whA H (A ++ P)) (whH H) := by
  obtain ⟨S1, e1, b1⟩ := m_done d h M false (Or.inr ⟨_, _, rfl, Or.inr (Or.inl rfl)⟩) hP hb hl
  rw [List.length_append, List.length_cons] at hl
  have b2 := b1.popN
  have e4 := m_readV d h M h7 b2
  obtain ⟨S', e5, b5⟩ := m_whole d h M b2.read (by rw [List.length_append]; omega)
  refine ⟨S', ?_, b5⟩
  have e0 := m_isOperator (d + 1) h M S
  rw [hb.1.2.2.2.1, hop, bI_f] at e0
  rw [bI_f] at e1
  have h56 : sI S1 56 = nI (H.length + 1) := b1.2.2.2.1.1
  have h53 : sA S1 53 H.length = nI 12 := b1.2.2.2.1.2.1.1
  have h57 : sI S1 57 = nI (nst H + 1) := b1.2.2.2.2.1.trans (by rw [nst_in (by show nsW (nI 12) = true; decide)])
  have h31 : sI S1 31 = nI 41 := b1.1.2.2.2.1.trans hc
  have hz : ¬ H.length + 1 = 0 := by omega
  have hn := nst_le H
  rw [E_161 _ _ _ rfl]
  simp (disch := omega) only [q_161_0, q_161_1, q_161_4, q_161_7, q_161_8, q_161_9, q_161_10, q_161_11, q_161_14, q_161_15, q_161_18, q_161_21, q_161_22, q_161_25, q_161_26, q_161_29, q_161_30, q_161_33, q_161_34, q_161_35, q_161_36, q_161_37, q_161_38, q_161_41, q_161_42, q_161_43, q_161_44, q_161_47, q_161_48, q_161_50, q_161_53, q_161_55, q_161_58, q_161_60, q_161_63, q_161_64, q_161_67, q_161_68, q_161_69, q_161_70, q_161_71, q_161_74, q_161_75, q_161_76, q_161_79, q_161_80, q_161_81, q_161_84, q_161_85, q_161_86, q_161_89, q_161_90, q_161_92, q_161_95, q_161_96, q_161_97, q_161_98, q_161_101, q_161_102, q_161_105, q_161_106, q_161_107, q_161_110, q_161_111, q_161_114, q_161_115, q_161_118, q_161_119, q_161_122, q_161_123, q_161_126, q_161_127, og_11_56, op_11_56, og_11_53, or_11_53, ow_11_53, og_11_31, og_11_57, op_11_57, og_11_54, or_11_54, ow_11_54, og_11_55, or_11_55, ow_11_55, o_is, o_ob, ofs_len11, ↓reduceIte, k_cr, k_ci, k_oR, k_oN, k_aR, k_aN, and_true, true_and, and_self, eq_self, Nat.reduceLT, Nat.reduceLeDiff, Nat.reduceEqDiff, Nat.reduceAdd, Nat.reduceMul, Bool.true_eq_false, Bool.false_eq_true, Nat.add_sub_cancel, Nat.not_lt_zero, Nat.zero_le, k_sub, k_sb1, k_r, k_n, k_ret, k_t1, k_t0, k_nr, k_nn, k_z0, k_z1, k_zb, x_okI, lit_nI, k_in, k_cl, k_lt, k_le, k_eq, k_neg, nI_add, nI_mul, k_clt, k_cgt, k_cle, k_cge, k_ceq, bI_0, k_sh8, ne_eq, Nat.add_eq_zero_iff, Nat.one_ne_zero, Nat.succ_ne_zero, and_false, false_and, not_false_eq_true, not_true_eq_false, ite_true, ite_false, if_true, if_false, sI_uI, sJ_uI, sA_uI, sL_uI, sR_uI, sQ_uI, sI_uJ, sJ_uJ, sA_uJ, sL_uJ, sR_uJ, sQ_uJ, sI_uA, sJ_uA, sA_uA, sL_uA, sR_uA, sQ_uA, sI_uL, sJ_uL, sA_uL, sL_uL, sR_uL, sQ_uL, sI_uR, sJ_uR, sA_uR, sL_uR, sR_uR, sQ_uR, sI_uQ, sJ_uQ, sA_uQ, sL_uQ, sR_uQ, sQ_uQ, e0, e1, h56, h53, h57, h31, hz, e4, e5]
theorem m_beh_brk (d : Nat) (h : xH) (M : Nat) {t : Nat → Int32} {n : Nat} {S0 S : gS} {i : Nat} {A P H : List aT} (v : Int64) (a : Nat) (h7 : n ≤ 700) (hop : isOp ((pcs t n).1 i) = false) (hP : ∀ x, x ∈ P → opN false x) (hb : bV t n S0 S i A (P ++ (nI 13, v, a) :: H)) (hl : A.length + (P ++ (nI 13, v, a) :: H).length ≤ 700) (hc : (pcs t n).1 i = nI 93) : ∃ S', xm (d + 3) 161 [.ref M] (oh 11 h M S) = some (some (.int (nI 1)), oh 11 h M S') ∧ bV t n S0 S' (i + 1) (whA H (A ++ P ++ [(nI 4, v, a)])) (whH H) := by
  obtain ⟨S1, e1, b1⟩ := m_done d h M false (Or.inr ⟨_, _, rfl, Or.inr (Or.inr (Or.inl rfl))⟩) hP hb hl
  rw [List.length_append, List.length_cons] at hl
  have b2 := b1.popN
  have b3 := b2.emit (nI 4) v a
  have e3 := m_emit (d + 1) h M (A ++ P).length (uI (uI S1 56 (nI H.length)) 57 (nI (nst H))) (nI 4) v (nI a) b2.2.2.1.1 (by rw [List.length_append]; omega)
  have e4 := m_readV d h M h7 b3
  obtain ⟨S', e5, b5⟩ := m_whole d h M b3.read (by rw [List.length_append, List.length_append, List.length_singleton]; omega)
  refine ⟨S', ?_, b5⟩
  have e0 := m_isOperator (d + 1) h M S
  rw [hb.1.2.2.2.1, hop, bI_f] at e0
  rw [bI_f] at e1
  have h56 : sI S1 56 = nI (H.length + 1) := b1.2.2.2.1.1
  have h53 : sA S1 53 H.length = nI 13 := b1.2.2.2.1.2.1.1
  have h54 : sL S1 54 H.length = v := b1.2.2.2.1.2.1.2.1
  have h55 : sA S1 55 H.length = nI a := b1.2.2.2.1.2.1.2.2
  have h57 : sI S1 57 = nI (nst H + 1) := b1.2.2.2.2.1.trans (by rw [nst_in (by show nsW (nI 13) = true; decide)])
  have h31 : sI S1 31 = nI 93 := b1.1.2.2.2.1.trans hc
  have hz : ¬ H.length + 1 = 0 := by omega
  have hn := nst_le H
  rw [E_161 _ _ _ rfl]
  unfold emM at e4 e5
  simp (disch := omega) only [q_161_0, q_161_1, q_161_4, q_161_7, q_161_8, q_161_9, q_161_10, q_161_11, q_161_14, q_161_15, q_161_18, q_161_21, q_161_22, q_161_25, q_161_26, q_161_29, q_161_30, q_161_33, q_161_34, q_161_35, q_161_36, q_161_37, q_161_38, q_161_41, q_161_42, q_161_43, q_161_44, q_161_47, q_161_48, q_161_50, q_161_53, q_161_55, q_161_58, q_161_60, q_161_63, q_161_64, q_161_67, q_161_68, q_161_69, q_161_70, q_161_71, q_161_74, q_161_75, q_161_76, q_161_79, q_161_80, q_161_81, q_161_84, q_161_85, q_161_86, q_161_89, q_161_90, q_161_92, q_161_95, q_161_96, q_161_97, q_161_98, q_161_101, q_161_102, q_161_105, q_161_106, q_161_107, q_161_110, q_161_111, q_161_114, q_161_115, q_161_118, q_161_119, q_161_122, q_161_123, q_161_126, q_161_127, og_11_56, op_11_56, og_11_53, or_11_53, ow_11_53, og_11_31, og_11_57, op_11_57, og_11_54, or_11_54, ow_11_54, og_11_55, or_11_55, ow_11_55, o_is, o_ob, ofs_len11, ↓reduceIte, k_cr, k_ci, k_oR, k_oN, k_aR, k_aN, and_true, true_and, and_self, eq_self, Nat.reduceLT, Nat.reduceLeDiff, Nat.reduceEqDiff, Nat.reduceAdd, Nat.reduceMul, Bool.true_eq_false, Bool.false_eq_true, Nat.add_sub_cancel, Nat.not_lt_zero, Nat.zero_le, k_sub, k_sb1, k_r, k_n, k_ret, k_t1, k_t0, k_nr, k_nn, k_z0, k_z1, k_zb, x_okI, lit_nI, k_in, k_cl, k_lt, k_le, k_eq, k_neg, nI_add, nI_mul, k_clt, k_cgt, k_cle, k_cge, k_ceq, bI_0, k_sh8, ne_eq, Nat.add_eq_zero_iff, Nat.one_ne_zero, Nat.succ_ne_zero, and_false, false_and, not_false_eq_true, not_true_eq_false, ite_true, ite_false, if_true, if_false, sI_uI, sJ_uI, sA_uI, sL_uI, sR_uI, sQ_uI, sI_uJ, sJ_uJ, sA_uJ, sL_uJ, sR_uJ, sQ_uJ, sI_uA, sJ_uA, sA_uA, sL_uA, sR_uA, sQ_uA, sI_uL, sJ_uL, sA_uL, sL_uL, sR_uL, sQ_uL, sI_uR, sJ_uR, sA_uR, sL_uR, sR_uR, sQ_uR, sI_uQ, sJ_uQ, sA_uQ, sL_uQ, sR_uQ, sQ_uQ, e0, e1, h56, h53, h54, h55, h57, h31, hz, e3, e4, e5]
theorem m_beh_X (d : Nat) (h : xH) (M : Nat) {t : Nat → Int32} {n : Nat} {S0 S : gS} {i : Nat} {A P H : List aT} (w c : Int32) (v : Int64) (a : Nat) (h7 : n ≤ 700) (hw : w = nI 12 ∧ c = nI 41 ∨ w = nI 13 ∧ c = nI 93) (hop : isOp ((pcs t n).1 i) = false) (hP : ∀ x, x ∈ P → opN false x) (hb : bV t n S0 S i A (P ++ (w, v, a) :: H)) (hl : A.length + (P ++ (w, v, a) :: H).length ≤ 700) (hc : ¬ (pcs t n).1 i = c) : ∃ S', xm (d + 3) 161 [.ref M] (oh 11 h M S) = some (some (.int (nI 0)), oh 11 h M S') ∧ bdV t n S0 S' i := by
  obtain ⟨S1, e1, b1⟩ := m_done d h M false (Or.inr ⟨_, _, rfl, by rcases hw with q | q; exact Or.inr (Or.inl q.1); exact Or.inr (Or.inr (Or.inl q.1))⟩) hP hb hl
  rw [List.length_append, List.length_cons] at hl
  have bx := b1.bad
  have ef := m_fail (d + 1) h M S1
  refine ⟨_, ?_, bx⟩
  have e0 := m_isOperator (d + 1) h M S
  rw [hb.1.2.2.2.1, hop, bI_f] at e0
  rw [bI_f] at e1
  have h56 : sI S1 56 = nI (H.length + 1) := b1.2.2.2.1.1
  have h53 : sA S1 53 H.length = w := b1.2.2.2.1.2.1.1
  have h31 : ¬ sI S1 31 = c := by rw [b1.1.2.2.2.1]; exact hc
  have hz : ¬ H.length + 1 = 0 := by omega
  rw [E_161 _ _ _ rfl]
  rcases hw with ⟨q1, q2⟩ | ⟨q1, q2⟩
  · subst q1
    subst q2
    simp (disch := omega) only [q_161_0, q_161_1, q_161_4, q_161_7, q_161_8, q_161_9, q_161_10, q_161_11, q_161_14, q_161_15, q_161_18, q_161_21, q_161_22, q_161_25, q_161_26, q_161_29, q_161_30, q_161_33, q_161_34, q_161_35, q_161_36, q_161_37, q_161_38, q_161_41, q_161_42, q_161_43, q_161_44, q_161_47, q_161_48, q_161_50, q_161_53, q_161_55, q_161_58, q_161_60, q_161_63, q_161_64, q_161_67, q_161_68, q_161_69, q_161_70, q_161_71, q_161_74, q_161_75, q_161_76, q_161_79, q_161_80, q_161_81, q_161_84, q_161_85, q_161_86, q_161_89, q_161_90, q_161_92, q_161_95, q_161_96, q_161_97, q_161_98, q_161_101, q_161_102, q_161_105, q_161_106, q_161_107, q_161_110, q_161_111, q_161_114, q_161_115, q_161_118, q_161_119, q_161_122, q_161_123, q_161_126, q_161_127, og_11_56, op_11_56, og_11_53, or_11_53, ow_11_53, og_11_31, og_11_57, op_11_57, og_11_54, or_11_54, ow_11_54, og_11_55, or_11_55, ow_11_55, o_is, o_ob, ofs_len11, ↓reduceIte, k_cr, k_ci, k_oR, k_oN, k_aR, k_aN, and_true, true_and, and_self, eq_self, Nat.reduceLT, Nat.reduceLeDiff, Nat.reduceEqDiff, Nat.reduceAdd, Nat.reduceMul, Bool.true_eq_false, Bool.false_eq_true, Nat.add_sub_cancel, Nat.not_lt_zero, Nat.zero_le, k_sub, k_sb1, k_r, k_n, k_ret, k_t1, k_t0, k_nr, k_nn, k_z0, k_z1, k_zb, x_okI, lit_nI, k_in, k_cl, k_lt, k_le, k_eq, k_neg, nI_add, nI_mul, k_clt, k_cgt, k_cle, k_cge, k_ceq, bI_0, k_sh8, ne_eq, Nat.add_eq_zero_iff, Nat.one_ne_zero, Nat.succ_ne_zero, and_false, false_and, not_false_eq_true, not_true_eq_false, ite_true, ite_false, if_true, if_false, sI_uI, sJ_uI, sA_uI, sL_uI, sR_uI, sQ_uI, sI_uJ, sJ_uJ, sA_uJ, sL_uJ, sR_uJ, sQ_uJ, sI_uA, sJ_uA, sA_uA, sL_uA, sR_uA, sQ_uA, sI_uL, sJ_uL, sA_uL, sL_uL, sR_uL, sQ_uL, sI_uR, sJ_uR, sA_uR, sL_uR, sR_uR, sQ_uR, sI_uQ, sJ_uQ, sA_uQ, sL_uQ, sR_uQ, sQ_uQ, e0, e1, ef, h56, h53, h31, hz]
  · subst q1
    subst q2
    simp (disch := omega) only [q_161_0, q_161_1, q_161_4, q_161_7, q_161_8, q_161_9, q_161_10, q_161_11, q_161_14, q_161_15, q_161_18, q_161_21, q_161_22, q_161_25, q_161_26, q_161_29, q_161_30, q_161_33, q_161_34, q_161_35, q_161_36, q_161_37, q_161_38, q_161_41, q_161_42, q_161_43, q_161_44, q_161_47, q_161_48, q_161_50, q_161_53, q_161_55, q_161_58, q_161_60, q_161_63, q_161_64, q_161_67, q_161_68, q_161_69, q_161_70, q_161_71, q_161_74, q_161_75, q_161_76, q_161_79, q_161_80, q_161_81, q_161_84, q_161_85, q_161_86, q_161_89, q_161_90, q_161_92, q_161_95, q_161_96, q_161_97, q_161_98, q_161_101, q_161_102, q_161_105, q_161_106, q_161_107, q_161_110, q_161_111, q_161_114, q_161_115, q_161_118, q_161_119, q_161_122, q_161_123, q_161_126, q_161_127, og_11_56, op_11_56, og_11_53, or_11_53, ow_11_53, og_11_31, og_11_57, op_11_57, og_11_54, or_11_54, ow_11_54, og_11_55, or_11_55, ow_11_55, o_is, o_ob, ofs_len11, ↓reduceIte, k_cr, k_ci, k_oR, k_oN, k_aR, k_aN, and_true, true_and, and_self, eq_self, Nat.reduceLT, Nat.reduceLeDiff, Nat.reduceEqDiff, Nat.reduceAdd, Nat.reduceMul, Bool.true_eq_false, Bool.false_eq_true, Nat.add_sub_cancel, Nat.not_lt_zero, Nat.zero_le, k_sub, k_sb1, k_r, k_n, k_ret, k_t1, k_t0, k_nr, k_nn, k_z0, k_z1, k_zb, x_okI, lit_nI, k_in, k_cl, k_lt, k_le, k_eq, k_neg, nI_add, nI_mul, k_clt, k_cgt, k_cle, k_cge, k_ceq, bI_0, k_sh8, ne_eq, Nat.add_eq_zero_iff, Nat.one_ne_zero, Nat.succ_ne_zero, and_false, false_and, not_false_eq_true, not_true_eq_false, ite_true, ite_false, if_true, if_false, sI_uI, sJ_uI, sA_uI, sL_uI, sR_uI, sQ_uI, sI_uJ, sJ_uJ, sA_uJ, sL_uJ, sR_uJ, sQ_uJ, sI_uA, sJ_uA, sA_uA, sL_uA, sR_uA, sQ_uA, sI_uL, sJ_uL, sA_uL, sL_uL, sR_uL, sQ_uL, sI_uR, sJ_uR, sA_uR, sL_uR, sR_uR, sQ_uR, sI_uQ, sJ_uQ, sA_uQ, sL_uQ, sR_uQ, sQ_uQ, e0, e1, ef, h56, h53, h31, hz]
