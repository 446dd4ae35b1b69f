/-! The reference: whole, done, operator. -/
def whA : List aT → List aT → List aT
  | [], A => A
  | x :: H, A => if x.1 = nI 6 then whA H (A ++ [(nI 6, 0, 0)]) else A
def whH : List aT → List aT
  | [] => []
  | x :: H => if x.1 = nI 6 then whH H else x :: H
theorem wh_len : ∀ (H A : List aT), (whA H A).length + (whH H).length = A.length + H.length
  | [], A => rfl
  | x :: H, A => by
    unfold whA whH
    by_cases h : x.1 = nI 6
    · rw [if_pos h, if_pos h, wh_len H, List.length_append, List.length_singleton]
      show A.length + 1 + H.length = A.length + (H.length + 1)
      omega
    · rw [if_neg h, if_neg h]
theorem m_whole_loop (d : Nat) (h : xH) (M : Nat) {wr : Int32} {t : Nat → Int32} {n : Nat} {S0 : gS} {i : Nat} : ∀ (H : List aT) (S : gS) (A : List aT), bU wr t n S0 S i A H → A.length + H.length ≤ 700 → ∃ S', xrun (d + 1) 160 0 [(1, .ref M)] [] (oh 11 h M S) = some (none, oh 11 h M S') ∧ bU wr t n S0 S' i (whA H A) (whH H)
  | [], S, A, hb, hl => by
    refine ⟨S, ?_, hb⟩
    have h56 : sI S 56 = nI 0 := hb.2.2.2.1.1
    rw [q_160_0]
    simp (disch := omega) only [q_160_1, q_160_4, q_160_7, q_160_8, q_160_11, q_160_12, q_160_15, q_160_16, q_160_17, q_160_18, q_160_20, q_160_23, q_160_24, q_160_25, q_160_28, q_160_29, q_160_30, q_160_33, q_160_34, q_160_35, q_160_38, q_160_39, q_160_40, q_160_43, q_160_44, q_160_46, q_160_47, q_160_48, q_160_51, q_160_54, og_11_56, op_11_56, og_11_53, or_11_53, ow_11_53, og_11_57, op_11_57, o_is, o_ob, ofs_len11, ↓reduceIte, k_cr, k_ci, k_oR, k_oN, k_aR, k_aN, and_true, true_and, and_self, eq_self, Nat.reduceLT, Nat.reduceLeDiff, Nat.reduceEqDiff, Nat.reduceAdd, Nat.reduceMul, Bool.true_eq_false, Bool.false_eq_true, Nat.add_sub_cancel, Nat.not_lt_zero, Nat.zero_le, k_sub, k_sb1, k_r, k_n, k_ret, k_t1, k_t0, k_nr, k_nn, k_z0, k_z1, k_zb, x_okI, lit_nI, k_in, k_cl, k_lt, k_le, k_eq, k_neg, nI_add, nI_mul, k_clt, k_cgt, k_cle, k_cge, k_ceq, bI_0, k_sh8, ne_eq, Nat.add_eq_zero_iff, Nat.one_ne_zero, Nat.succ_ne_zero, and_false, false_and, not_false_eq_true, not_true_eq_false, ite_true, ite_false, if_true, if_false, h56]
  | x :: H, S, A, hb, hl => by
    have hl2 : A.length + (H.length + 1) ≤ 700 := hl
    have h56 : sI S 56 = nI (H.length + 1) := hb.2.2.2.1.1
    have h53 : sA S 53 H.length = x.1 := hb.2.2.2.1.2.1.1
    have hp : 0 < H.length + 1 := by omega
    have hp2 : ¬ H.length + 1 ≤ 0 := by omega
    unfold whA whH
    by_cases hx : x.1 = nI 6
    · have h7 : sI S 57 = nI (nst H + 1) := by
        have := hb.2.2.2.2.1
        unfold nst at this
        rw [if_pos (show nsW x.1 = true by rw [hx]; decide)] at this
        exact this
      rw [if_pos hx, if_pos hx]
      have hb1 := hb.popN
      have hb2 := hb1.emit (nI 6) 0 0
      have hE := m_emit d h M A.length (uI (uI S 56 (nI H.length)) 57 (nI (nst H))) (nI 6) 0 (nI 0) hb1.2.2.1.1 (by omega)
      obtain ⟨S', e, v⟩ := m_whole_loop d h M H _ (A ++ [(nI 6, 0, 0)]) hb2 (by rw [List.length_append, List.length_singleton]; omega)
      refine ⟨S', ?_, v⟩
      unfold emM at e
      rw [q_160_0]
      simp (disch := omega) only [q_160_1, q_160_4, q_160_7, q_160_8, q_160_11, q_160_12, q_160_15, q_160_16, q_160_17, q_160_18, q_160_20, q_160_23, q_160_24, q_160_25, q_160_28, q_160_29, q_160_30, q_160_33, q_160_34, q_160_35, q_160_38, q_160_39, q_160_40, q_160_43, q_160_44, q_160_46, q_160_47, q_160_48, q_160_51, q_160_54, og_11_56, op_11_56, og_11_53, or_11_53, ow_11_53, og_11_57, op_11_57, o_is, o_ob, ofs_len11, ↓reduceIte, k_cr, k_ci, k_oR, k_oN, k_aR, k_aN, and_true, true_and, and_self, eq_self, Nat.reduceLT, Nat.reduceLeDiff, Nat.reduceEqDiff, Nat.reduceAdd, Nat.reduceMul, Bool.true_eq_false, Bool.false_eq_true, Nat.add_sub_cancel, Nat.not_lt_zero, Nat.zero_le, k_sub, k_sb1, k_r, k_n, k_ret, k_t1, k_t0, k_nr, k_nn, k_z0, k_z1, k_zb, x_okI, lit_nI, k_in, k_cl, k_lt, k_le, k_eq, k_neg, nI_add, nI_mul, k_clt, k_cgt, k_cle, k_cge, k_ceq, bI_0, k_sh8, ne_eq, Nat.add_eq_zero_iff, Nat.one_ne_zero, Nat.succ_ne_zero, and_false, false_and, not_false_eq_true, not_true_eq_false, ite_true, ite_false, if_true, if_false, sI_uI, sJ_uI, sA_uI, sL_uI, sR_uI, sQ_uI, sI_uJ, sJ_uJ, sA_uJ, sL_uJ, sR_uJ, sQ_uJ, sI_uA, sJ_uA, sA_uA, sL_uA, sR_uA, sQ_uA, sI_uL, sJ_uL, sA_uL, sL_uL, sR_uL, sQ_uL, sI_uR, sJ_uR, sA_uR, sL_uR, sR_uR, sQ_uR, sI_uQ, sJ_uQ, sA_uQ, sL_uQ, sR_uQ, sQ_uQ, h56, h53, h7, hx, hp, hp2, hE, e]
    · rw [if_neg hx, if_neg hx]
      refine ⟨S, ?_, hb⟩
      rw [q_160_0]
      simp (disch := omega) only [q_160_1, q_160_4, q_160_7, q_160_8, q_160_11, q_160_12, q_160_15, q_160_16, q_160_17, q_160_18, q_160_20, q_160_23, q_160_24, q_160_25, q_160_28, q_160_29, q_160_30, q_160_33, q_160_34, q_160_35, q_160_38, q_160_39, q_160_40, q_160_43, q_160_44, q_160_46, q_160_47, q_160_48, q_160_51, q_160_54, og_11_56, op_11_56, og_11_53, or_11_53, ow_11_53, og_11_57, op_11_57, o_is, o_ob, ofs_len11, ↓reduceIte, k_cr, k_ci, k_oR, k_oN, k_aR, k_aN, and_true, true_and, and_self, eq_self, Nat.reduceLT, Nat.reduceLeDiff, Nat.reduceEqDiff, Nat.reduceAdd, Nat.reduceMul, Bool.true_eq_false, Bool.false_eq_true, Nat.add_sub_cancel, Nat.not_lt_zero, Nat.zero_le, k_sub, k_sb1, k_r, k_n, k_ret, k_t1, k_t0, k_nr, k_nn, k_z0, k_z1, k_zb, x_okI, lit_nI, k_in, k_cl, k_lt, k_le, k_eq, k_neg, nI_add, nI_mul, k_clt, k_cgt, k_cle, k_cge, k_ceq, bI_0, k_sh8, ne_eq, Nat.add_eq_zero_iff, Nat.one_ne_zero, Nat.succ_ne_zero, and_false, false_and, not_false_eq_true, not_true_eq_false, ite_true, ite_false, if_true, if_false, h56, h53, hx, hp, hp2]
theorem m_whole (d : Nat) (h : xH) (M : Nat) {wr : Int32} {t : Nat → Int32} {n : Nat} {S0 S : gS} {i : Nat} {A H : List aT} (hb : bU wr t n S0 S i A H) (hl : A.length + H.length ≤ 700) : ∃ S', xm (d + 2) 160 [.ref M] (oh 11 h M S) = some (none, oh 11 h M S') ∧ bU wr t n S0 S' i (whA H A) (whH H) := by
  rw [E_160 _ _ _ rfl]
  exact m_whole_loop d h M H S A hb hl
def opN (pr : Bool) (x : aT) : Prop := x = (nI 9, 0, 0) ∨ x = (nI 10, 0, 0) ∨ x = (nI 11, 0, 0) ∨ (pr = false ∧ (x = (nI 7, 0, 0) ∨ x = (nI 8, 0, 0)))
def stN (pr : Bool) (H : List aT) : Prop := H = [] ∨ ∃ x H', H = x :: H' ∧ (x.1 = nI 6 ∨ x.1 = nI 12 ∨ x.1 = nI 13 ∨ (pr = true ∧ (x.1 = nI 7 ∨ x.1 = nI 8)))
theorem m_done_loop (d : Nat) (h : xH) (M : Nat) {wr : Int32} {t : Nat → Int32} {n : Nat} {S0 : gS} {i : Nat} (pr : Bool) (H : List aT) (hs : stN pr H) : ∀ (P : List aT) (S : gS) (A : List aT) (u : Nat × Value), (∀ x, x ∈ P → opN pr x) → bU wr t n S0 S i A (P ++ H) → A.length + (P ++ H).length ≤ 700 → ∃ S', xrun (d + 1) 163 2 [(1, .ref M), (1, .int (bI pr)), (1, .int (nI 1)), u] [] (oh 11 h M S) = some (none, oh 11 h M S') ∧ bU wr t n S0 S' i (A ++ P) H
  | [], S, A, u, hP, hb, hl => by
    rw [List.append_nil]
    refine ⟨S, ?_, hb⟩
    rcases hs with hH | ⟨x, H', hH, hx⟩
    · subst hH
      have h56 : sI S 56 = nI 0 := hb.2.2.2.1.1
      rw [q_163_2]
      simp (disch := omega) only [q_163_0, q_163_1, q_163_3, q_163_6, q_163_7, q_163_10, q_163_13, q_163_14, q_163_17, q_163_18, q_163_21, q_163_22, q_163_23, q_163_24, q_163_25, q_163_26, q_163_28, q_163_31, q_163_32, q_163_34, q_163_37, q_163_38, q_163_41, q_163_42, q_163_44, q_163_47, q_163_48, q_163_50, q_163_53, q_163_54, q_163_57, q_163_58, q_163_59, q_163_60, q_163_63, q_163_64, q_163_65, q_163_66, q_163_69, q_163_70, q_163_71, q_163_74, q_163_75, q_163_76, q_163_77, q_163_78, q_163_81, q_163_84, og_11_56, op_11_56, og_11_53, or_11_53, ow_11_53, o_is, o_ob, ofs_len11, ↓reduceIte, k_cr, k_ci, k_oR, k_oN, k_aR, k_aN, and_true, true_and, and_self, eq_self, Nat.reduceLT, Nat.reduceLeDiff, Nat.reduceEqDiff, Nat.reduceAdd, Nat.reduceMul, Bool.true_eq_false, Bool.false_eq_true, Nat.add_sub_cancel, Nat.not_lt_zero, Nat.zero_le, k_sub, k_sb1, k_r, k_n, k_ret, k_t1, k_t0, k_nr, k_nn, k_z0, k_z1, k_zb, x_okI, lit_nI, k_in, k_cl, k_lt, k_le, k_eq, k_neg, nI_add, nI_mul, k_clt, k_cgt, k_cle, k_cge, k_ceq, bI_0, k_sh8, ne_eq, Nat.add_eq_zero_iff, Nat.one_ne_zero, Nat.succ_ne_zero, and_false, false_and, not_false_eq_true, not_true_eq_false, ite_true, ite_false, if_true, if_false, h56]
    · subst hH
      have h56 : sI S 56 = nI (H'.length + 1) := hb.2.2.2.1.1
      have h53 : sA S 53 H'.length = x.1 := hb.2.2.2.1.2.1.1
      have hp2 : ¬ H'.length + 1 ≤ 0 := by omega
      have hl2 : A.length + (H'.length + 1) ≤ 700 := hl
      rw [q_163_2]
      rcases hx with hx | hx | hx | ⟨hx, hy | hy⟩
      · cases pr <;> simp (disch := omega) only [q_163_0, q_163_1, q_163_3, q_163_6, q_163_7, q_163_10, q_163_13, q_163_14, q_163_17, q_163_18, q_163_21, q_163_22, q_163_23, q_163_24, q_163_25, q_163_26, q_163_28, q_163_31, q_163_32, q_163_34, q_163_37, q_163_38, q_163_41, q_163_42, q_163_44, q_163_47, q_163_48, q_163_50, q_163_53, q_163_54, q_163_57, q_163_58, q_163_59, q_163_60, q_163_63, q_163_64, q_163_65, q_163_66, q_163_69, q_163_70, q_163_71, q_163_74, q_163_75, q_163_76, q_163_77, q_163_78, q_163_81, q_163_84, og_11_56, op_11_56, og_11_53, or_11_53, ow_11_53, o_is, o_ob, ofs_len11, ↓reduceIte, k_cr, k_ci, k_oR, k_oN, k_aR, k_aN, and_true, true_and, and_self, eq_self, Nat.reduceLT, Nat.reduceLeDiff, Nat.reduceEqDiff, Nat.reduceAdd, Nat.reduceMul, Bool.true_eq_false, Bool.false_eq_true, Nat.add_sub_cancel, Nat.not_lt_zero, Nat.zero_le, k_sub, k_sb1, k_r, k_n, k_ret, k_t1, k_t0, k_nr, k_nn, k_z0, k_z1, k_zb, x_okI, lit_nI, k_in, k_cl, k_lt, k_le, k_eq, k_neg, nI_add, nI_mul, k_clt, k_cgt, k_cle, k_cge, k_ceq, bI_0, k_sh8, ne_eq, Nat.add_eq_zero_iff, Nat.one_ne_zero, Nat.succ_ne_zero, and_false, false_and, not_false_eq_true, not_true_eq_false, ite_true, ite_false, if_true, if_false, bI, h56, h53, hx, hp2]
      · cases pr <;> simp (disch := omega) only [q_163_0, q_163_1, q_163_3, q_163_6, q_163_7, q_163_10, q_163_13, q_163_14, q_163_17, q_163_18, q_163_21, q_163_22, q_163_23, q_163_24, q_163_25, q_163_26, q_163_28, q_163_31, q_163_32, q_163_34, q_163_37, q_163_38, q_163_41, q_163_42, q_163_44, q_163_47, q_163_48, q_163_50, q_163_53, q_163_54, q_163_57, q_163_58, q_163_59, q_163_60, q_163_63, q_163_64, q_163_65, q_163_66, q_163_69, q_163_70, q_163_71, q_163_74, q_163_75, q_163_76, q_163_77, q_163_78, q_163_81, q_163_84, og_11_56, op_11_56, og_11_53, or_11_53, ow_11_53, o_is, o_ob, ofs_len11, ↓reduceIte, k_cr, k_ci, k_oR, k_oN, k_aR, k_aN, and_true, true_and, and_self, eq_self, Nat.reduceLT, Nat.reduceLeDiff, Nat.reduceEqDiff, Nat.reduceAdd, Nat.reduceMul, Bool.true_eq_false, Bool.false_eq_true, Nat.add_sub_cancel, Nat.not_lt_zero, Nat.zero_le, k_sub, k_sb1, k_r, k_n, k_ret, k_t1, k_t0, k_nr, k_nn, k_z0, k_z1, k_zb, x_okI, lit_nI, k_in, k_cl, k_lt, k_le, k_eq, k_neg, nI_add, nI_mul, k_clt, k_cgt, k_cle, k_cge, k_ceq, bI_0, k_sh8, ne_eq, Nat.add_eq_zero_iff, Nat.one_ne_zero, Nat.succ_ne_zero, and_false, false_and, not_false_eq_true, not_true_eq_false, ite_true, ite_false, if_true, if_false, bI, h56, h53, hx, hp2]
      · cases pr <;> simp (disch := omega) only [q_163_0, q_163_1, q_163_3, q_163_6, q_163_7, q_163_10, q_163_13, q_163_14, q_163_17, q_163_18, q_163_21, q_163_22, q_163_23, q_163_24, q_163_25, q_163_26, q_163_28, q_163_31, q_163_32, q_163_34, q_163_37, q_163_38, q_163_41, q_163_42, q_163_44, q_163_47, q_163_48, q_163_50, q_163_53, q_163_54, q_163_57, q_163_58, q_163_59, q_163_60, q_163_63, q_163_64, q_163_65, q_163_66, q_163_69, q_163_70, q_163_71, q_163_74, q_163_75, q_163_76, q_163_77, q_163_78, q_163_81, q_163_84, og_11_56, op_11_56, og_11_53, or_11_53, ow_11_53, o_is, o_ob, ofs_len11, ↓reduceIte, k_cr, k_ci, k_oR, k_oN, k_aR, k_aN, and_true, true_and, and_self, eq_self, Nat.reduceLT, Nat.reduceLeDiff, Nat.reduceEqDiff, Nat.reduceAdd, Nat.reduceMul, Bool.true_eq_false, Bool.false_eq_true, Nat.add_sub_cancel, Nat.not_lt_zero, Nat.zero_le, k_sub, k_sb1, k_r, k_n, k_ret, k_t1, k_t0, k_nr, k_nn, k_z0, k_z1, k_zb, x_okI, lit_nI, k_in, k_cl, k_lt, k_le, k_eq, k_neg, nI_add, nI_mul, k_clt, k_cgt, k_cle, k_cge, k_ceq, bI_0, k_sh8, ne_eq, Nat.add_eq_zero_iff, Nat.one_ne_zero, Nat.succ_ne_zero, and_false, false_and, not_false_eq_true, not_true_eq_false, ite_true, ite_false, if_true, if_false, bI, h56, h53, hx, hp2]
      · subst hx
        simp (disch := omega) only [q_163_0, q_163_1, q_163_3, q_163_6, q_163_7, q_163_10, q_163_13, q_163_14, q_163_17, q_163_18, q_163_21, q_163_22, q_163_23, q_163_24, q_163_25, q_163_26, q_163_28, q_163_31, q_163_32, q_163_34, q_163_37, q_163_38, q_163_41, q_163_42, q_163_44, q_163_47, q_163_48, q_163_50, q_163_53, q_163_54, q_163_57, q_163_58, q_163_59, q_163_60, q_163_63, q_163_64, q_163_65, q_163_66, q_163_69, q_163_70, q_163_71, q_163_74, q_163_75, q_163_76, q_163_77, q_163_78, q_163_81, q_163_84, og_11_56, op_11_56, og_11_53, or_11_53, ow_11_53, o_is, o_ob, ofs_len11, ↓reduceIte, k_cr, k_ci, k_oR, k_oN, k_aR, k_aN, and_true, true_and, and_self, eq_self, Nat.reduceLT, Nat.reduceLeDiff, Nat.reduceEqDiff, Nat.reduceAdd, Nat.reduceMul, Bool.true_eq_false, Bool.false_eq_true, Nat.add_sub_cancel, Nat.not_lt_zero, Nat.zero_le, k_sub, k_sb1, k_r, k_n, k_ret, k_t1, k_t0, k_nr, k_nn, k_z0, k_z1, k_zb, x_okI, lit_nI, k_in, k_cl, k_lt, k_le, k_eq, k_neg, nI_add, nI_mul, k_clt, k_cgt, k_cle, k_cge, k_ceq, bI_0, k_sh8, ne_eq, Nat.add_eq_zero_iff, Nat.one_ne_zero, Nat.succ_ne_zero, and_false, false_and, not_false_eq_true, not_true_eq_false, ite_true, ite_false, if_true, if_false, bI, h56, h53, hy, hp2]
      · subst hx
        simp (disch := omega) only [q_163_0, q_163_1, q_163_3, q_163_6, q_163_7, q_163_10, q_163_13, q_163_14, q_163_17, q_163_18, q_163_21, q_163_22, q_163_23, q_163_24, q_163_25, q_163_26, q_163_28, q_163_31, q_163_32, q_163_34, q_163_37, q_163_38, q_163_41, q_163_42, q_163_44, q_163_47, q_163_48, q_163_50, q_163_53, q_163_54, q_163_57, q_163_58, q_163_59, q_163_60, q_163_63, q_163_64, q_163_65, q_163_66, q_163_69, q_163_70, q_163_71, q_163_74, q_163_75, q_163_76, q_163_77, q_163_78, q_163_81, q_163_84, og_11_56, op_11_56, og_11_53, or_11_53, ow_11_53, o_is, o_ob, ofs_len11, ↓reduceIte, k_cr, k_ci, k_oR, k_oN, k_aR, k_aN, and_true, true_and, and_self, eq_self, Nat.reduceLT, Nat.reduceLeDiff, Nat.reduceEqDiff, Nat.reduceAdd, Nat.reduceMul, Bool.true_eq_false, Bool.false_eq_true, Nat.add_sub_cancel, Nat.not_lt_zero, Nat.zero_le, k_sub, k_sb1, k_r, k_n, k_ret, k_t1, k_t0, k_nr, k_nn, k_z0, k_z1, k_zb, x_okI, lit_nI, k_in, k_cl, k_lt, k_le, k_eq, k_neg, nI_add, nI_mul, k_clt, k_cgt, k_cle, k_cge, k_ceq, bI_0, k_sh8, ne_eq, Nat.add_eq_zero_iff, Nat.one_ne_zero, Nat.succ_ne_zero, and_false, false_and, not_false_eq_true, not_true_eq_false, ite_true, ite_false, if_true, if_false, bI, h56, h53, hy, hp2]
  | x :: P, S, A, u, hP, hb, hl => by
    have hl2 : A.length + ((P ++ H).length + 1) ≤ 700 := hl
    have h56 : sI S 56 = nI ((P ++ H).length + 1) := hb.2.2.2.1.1
    have h53 : sA S 53 (P ++ H).length = x.1 := hb.2.2.2.1.2.1.1
    have hp2 : ¬ (P ++ H).length + 1 ≤ 0 := by omega
    have ho := hP x List.mem_cons_self
    have hns : nsW x.1 = false := by
      rcases ho with q | q | q | ⟨_, q | q⟩ <;> (rw [q]; decide)
    have hx0 : x = (x.1, 0, 0) := by
      rcases ho with q | q | q | ⟨_, q | q⟩ <;> rw [q]
    have hb1 := bU.pop (H := P ++ H) hb hns
    have hb2 := hb1.emit x.1 0 0
    rw [← hx0] at hb2
    have hE := m_emit d h M A.length (uI S 56 (nI (P ++ H).length)) x.1 0 (nI 0) hb1.2.2.1.1 (by omega)
    have ih := fun u => m_done_loop d h M pr H hs P _ (A ++ [x]) u (fun y hy => hP y (List.mem_cons_of_mem _ hy)) hb2 (by rw [List.length_append, List.length_singleton]; omega)
    obtain ⟨S', e, v⟩ := ih (1, .int x.1)
    rw [List.append_assoc] at v
    refine ⟨S', ?_, v⟩
    unfold emM at e
    rw [q_163_2]
    generalize (P ++ H).length = z at h56 h53 hp2 hE e hl2
    rcases ho with q | q | q | ⟨q0, q | q⟩
    · have q1 : x.1 = nI 9 := by rw [q]
      rw [q1] at hE e h53
      simp (disch := omega) only [q_163_0, q_163_1, q_163_3, q_163_6, q_163_7, q_163_10, q_163_13, q_163_14, q_163_17, q_163_18, q_163_21, q_163_22, q_163_23, q_163_24, q_163_25, q_163_26, q_163_28, q_163_31, q_163_32, q_163_34, q_163_37, q_163_38, q_163_41, q_163_42, q_163_44, q_163_47, q_163_48, q_163_50, q_163_53, q_163_54, q_163_57, q_163_58, q_163_59, q_163_60, q_163_63, q_163_64, q_163_65, q_163_66, q_163_69, q_163_70, q_163_71, q_163_74, q_163_75, q_163_76, q_163_77, q_163_78, q_163_81, q_163_84, og_11_56, op_11_56, og_11_53, or_11_53, ow_11_53, o_is, o_ob, ofs_len11, ↓reduceIte, k_cr, k_ci, k_oR, k_oN, k_aR, k_aN, and_true, true_and, and_self, eq_self, Nat.reduceLT, Nat.reduceLeDiff, Nat.reduceEqDiff, Nat.reduceAdd, Nat.reduceMul, Bool.true_eq_false, Bool.false_eq_true, Nat.add_sub_cancel, Nat.not_lt_zero, Nat.zero_le, k_sub, k_sb1, k_r, k_n, k_ret, k_t1, k_t0, k_nr, k_nn, k_z0, k_z1, k_zb, x_okI, lit_nI, k_in, k_cl, k_lt, k_le, k_eq, k_neg, nI_add, nI_mul, k_clt, k_cgt, k_cle, k_cge, k_ceq, bI_0, k_sh8, ne_eq, Nat.add_eq_zero_iff, Nat.one_ne_zero, Nat.succ_ne_zero, and_false, false_and, not_false_eq_true, not_true_eq_false, ite_true, ite_false, if_true, if_false, sI_uI, sJ_uI, sA_uI, sL_uI, sR_uI, sQ_uI, sI_uJ, sJ_uJ, sA_uJ, sL_uJ, sR_uJ, sQ_uJ, sI_uA, sJ_uA, sA_uA, sL_uA, sR_uA, sQ_uA, sI_uL, sJ_uL, sA_uL, sL_uL, sR_uL, sQ_uL, sI_uR, sJ_uR, sA_uR, sL_uR, sR_uR, sQ_uR, sI_uQ, sJ_uQ, sA_uQ, sL_uQ, sR_uQ, sQ_uQ, h56, h53, hp2, hE, e]
    · have q1 : x.1 = nI 10 := by rw [q]
      rw [q1] at hE e h53
      simp (disch := omega) only [q_163_0, q_163_1, q_163_3, q_163_6, q_163_7, q_163_10, q_163_13, q_163_14, q_163_17, q_163_18, q_163_21, q_163_22, q_163_23, q_163_24, q_163_25, q_163_26, q_163_28, q_163_31, q_163_32, q_163_34, q_163_37, q_163_38, q_163_41, q_163_42, q_163_44, q_163_47, q_163_48, q_163_50, q_163_53, q_163_54, q_163_57, q_163_58, q_163_59, q_163_60, q_163_63, q_163_64, q_163_65, q_163_66, q_163_69, q_163_70, q_163_71, q_163_74, q_163_75, q_163_76, q_163_77, q_163_78, q_163_81, q_163_84, og_11_56, op_11_56, og_11_53, or_11_53, ow_11_53, o_is, o_ob, ofs_len11, ↓reduceIte, k_cr, k_ci, k_oR, k_oN, k_aR, k_aN, and_true, true_and, and_self, eq_self, Nat.reduceLT, Nat.reduceLeDiff, Nat.reduceEqDiff, Nat.reduceAdd, Nat.reduceMul, Bool.true_eq_false, Bool.false_eq_true, Nat.add_sub_cancel, Nat.not_lt_zero, Nat.zero_le, k_sub, k_sb1, k_r, k_n, k_ret, k_t1, k_t0, k_nr, k_nn, k_z0, k_z1, k_zb, x_okI, lit_nI, k_in, k_cl, k_lt, k_le, k_eq, k_neg, nI_add, nI_mul, k_clt, k_cgt, k_cle, k_cge, k_ceq, bI_0, k_sh8, ne_eq, Nat.add_eq_zero_iff, Nat.one_ne_zero, Nat.succ_ne_zero, and_false, false_and, not_false_eq_true, not_true_eq_false, ite_true, ite_false, if_true, if_false, sI_uI, sJ_uI, sA_uI, sL_uI, sR_uI, sQ_uI, sI_uJ, sJ_uJ, sA_uJ, sL_uJ, sR_uJ, sQ_uJ, sI_uA, sJ_uA, sA_uA, sL_uA, sR_uA, sQ_uA, sI_uL, sJ_uL, sA_uL, sL_uL, sR_uL, sQ_uL, sI_uR, sJ_uR, sA_uR, sL_uR, sR_uR, sQ_uR, sI_uQ, sJ_uQ, sA_uQ, sL_uQ, sR_uQ, sQ_uQ, h56, h53, hp2, hE, e]
    · have q1 : x.1 = nI 11 := by rw [q]
      rw [q1] at hE e h53
      simp (disch := omega) only [q_163_0, q_163_1, q_163_3, q_163_6, q_163_7, q_163_10, q_163_13, q_163_14, q_163_17, q_163_18, q_163_21, q_163_22, q_163_23, q_163_24, q_163_25, q_163_26, q_163_28, q_163_31, q_163_32, q_163_34, q_163_37, q_163_38, q_163_41, q_163_42, q_163_44, q_163_47, q_163_48, q_163_50, q_163_53, q_163_54, q_163_57, q_163_58, q_163_59, q_163_60, q_163_63, q_163_64, q_163_65, q_163_66, q_163_69, q_163_70, q_163_71, q_163_74, q_163_75, q_163_76, q_163_77, q_163_78, q_163_81, q_163_84, og_11_56, op_11_56, og_11_53, or_11_53, ow_11_53, o_is, o_ob, ofs_len11, ↓reduceIte, k_cr, k_ci, k_oR, k_oN, k_aR, k_aN, and_true, true_and, and_self, eq_self, Nat.reduceLT, Nat.reduceLeDiff, Nat.reduceEqDiff, Nat.reduceAdd, Nat.reduceMul, Bool.true_eq_false, Bool.false_eq_true, Nat.add_sub_cancel, Nat.not_lt_zero, Nat.zero_le, k_sub, k_sb1, k_r, k_n, k_ret, k_t1, k_t0, k_nr, k_nn, k_z0, k_z1, k_zb, x_okI, lit_nI, k_in, k_cl, k_lt, k_le, k_eq, k_neg, nI_add, nI_mul, k_clt, k_cgt, k_cle, k_cge, k_ceq, bI_0, k_sh8, ne_eq, Nat.add_eq_zero_iff, Nat.one_ne_zero, Nat.succ_ne_zero, and_false, false_and, not_false_eq_true, not_true_eq_false, ite_true, ite_false, if_true, if_false, sI_uI, sJ_uI, sA_uI, sL_uI, sR_uI, sQ_uI, sI_uJ, sJ_uJ, sA_uJ, sL_uJ, sR_uJ, sQ_uJ, sI_uA, sJ_uA, sA_uA, sL_uA, sR_uA, sQ_uA, sI_uL, sJ_uL, sA_uL, sL_uL, sR_uL, sQ_uL, sI_uR, sJ_uR, sA_uR, sL_uR, sR_uR, sQ_uR, sI_uQ, sJ_uQ, sA_uQ, sL_uQ, sR_uQ, sQ_uQ, h56, h53, hp2, hE, e]
    · have q1 : x.1 = nI 7 := by rw [q]
      rw [q1] at hE e h53
      rw [q0] at e ⊢
      simp (disch := omega) only [q_163_0, q_163_1, q_163_3, q_163_6, q_163_7, q_163_10, q_163_13, q_163_14, q_163_17, q_163_18, q_163_21, q_163_22, q_163_23, q_163_24, q_163_25, q_163_26, q_163_28, q_163_31, q_163_32, q_163_34, q_163_37, q_163_38, q_163_41, q_163_42, q_163_44, q_163_47, q_163_48, q_163_50, q_163_53, q_163_54, q_163_57, q_163_58, q_163_59, q_163_60, q_163_63, q_163_64, q_163_65, q_163_66, q_163_69, q_163_70, q_163_71, q_163_74, q_163_75, q_163_76, q_163_77, q_163_78, q_163_81, q_163_84, og_11_56, op_11_56, og_11_53, or_11_53, ow_11_53, o_is, o_ob, ofs_len11, ↓reduceIte, k_cr, k_ci, k_oR, k_oN, k_aR, k_aN, and_true, true_and, and_self, eq_self, Nat.reduceLT, Nat.reduceLeDiff, Nat.reduceEqDiff, Nat.reduceAdd, Nat.reduceMul, Bool.true_eq_false, Bool.false_eq_true, Nat.add_sub_cancel, Nat.not_lt_zero, Nat.zero_le, k_sub, k_sb1, k_r, k_n, k_ret, k_t1, k_t0, k_nr, k_nn, k_z0, k_z1, k_zb, x_okI, lit_nI, k_in, k_cl, k_lt, k_le, k_eq, k_neg, nI_add, nI_mul, k_clt, k_cgt, k_cle, k_cge, k_ceq, bI_0, k_sh8, ne_eq, Nat.add_eq_zero_iff, Nat.one_ne_zero, Nat.succ_ne_zero, and_false, false_and, not_false_eq_true, not_true_eq_false, ite_true, ite_false, if_true, if_false, sI_uI, sJ_uI, sA_uI, sL_uI, sR_uI, sQ_uI, sI_uJ, sJ_uJ, sA_uJ, sL_uJ, sR_uJ, sQ_uJ, sI_uA, sJ_uA, sA_uA, sL_uA, sR_uA, sQ_uA, sI_uL, sJ_uL, sA_uL, sL_uL, sR_uL, sQ_uL, sI_uR, sJ_uR, sA_uR, sL_uR, sR_uR, sQ_uR, sI_uQ, sJ_uQ, sA_uQ, sL_uQ, sR_uQ, sQ_uQ, h56, h53, hp2, hE, e]
    · have q1 : x.1 = nI 8 := by rw [q]
      rw [q1] at hE e h53
      rw [q0] at e ⊢
      simp (disch := omega) only [q_163_0, q_163_1, q_163_3, q_163_6, q_163_7, q_163_10, q_163_13, q_163_14, q_163_17, q_163_18, q_163_21, q_163_22, q_163_23, q_163_24, q_163_25, q_163_26, q_163_28, q_163_31, q_163_32, q_163_34, q_163_37, q_163_38, q_163_41, q_163_42, q_163_44, q_163_47, q_163_48, q_163_50, q_163_53, q_163_54, q_163_57, q_163_58, q_163_59, q_163_60, q_163_63, q_163_64, q_163_65, q_163_66, q_163_69, q_163_70, q_163_71, q_163_74, q_163_75, q_163_76, q_163_77, q_163_78, q_163_81, q_163_84, og_11_56, op_11_56, og_11_53, or_11_53, ow_11_53, o_is, o_ob, ofs_len11, ↓reduceIte, k_cr, k_ci, k_oR, k_oN, k_aR, k_aN, and_true, true_and, and_self, eq_self, Nat.reduceLT, Nat.reduceLeDiff, Nat.reduceEqDiff, Nat.reduceAdd, Nat.reduceMul, Bool.true_eq_false, Bool.false_eq_true, Nat.add_sub_cancel, Nat.not_lt_zero, Nat.zero_le, k_sub, k_sb1, k_r, k_n, k_ret, k_t1, k_t0, k_nr, k_nn, k_z0, k_z1, k_zb, x_okI, lit_nI, k_in, k_cl, k_lt, k_le, k_eq, k_neg, nI_add, nI_mul, k_clt, k_cgt, k_cle, k_cge, k_ceq, bI_0, k_sh8, ne_eq, Nat.add_eq_zero_iff, Nat.one_ne_zero, Nat.succ_ne_zero, and_false, false_and, not_false_eq_true, not_true_eq_false, ite_true, ite_false, if_true, if_false, sI_uI, sJ_uI, sA_uI, sL_uI, sR_uI, sQ_uI, sI_uJ, sJ_uJ, sA_uJ, sL_uJ, sR_uJ, sQ_uJ, sI_uA, sJ_uA, sA_uA, sL_uA, sR_uA, sQ_uA, sI_uL, sJ_uL, sA_uL, sL_uL, sR_uL, sQ_uL, sI_uR, sJ_uR, sA_uR, sL_uR, sR_uR, sQ_uR, sI_uQ, sJ_uQ, sA_uQ, sL_uQ, sR_uQ, sQ_uQ, h56, h53, hp2, hE, e]
theorem m_done (d : Nat) (h : xH) (M : Nat) {wr : Int32} {t : Nat → Int32} {n : Nat} {S0 S : gS} {i : Nat} {A P H : List aT} (pr : Bool) (hs : stN pr H) (hP : ∀ x, x ∈ P → opN pr x) (hb : bU wr t n S0 S i A (P ++ H)) (hl : A.length + (P ++ H).length ≤ 700) : ∃ S', xm (d + 2) 163 [.ref M, .int (bI pr)] (oh 11 h M S) = some (none, oh 11 h M S') ∧ bU wr t n S0 S' i (A ++ P) H := by
  obtain ⟨S', e, v⟩ := m_done_loop d h M pr H hs P S A (0, .null) hP hb hl
  refine ⟨S', ?_, v⟩
  rw [E_163 _ _ _ _ rfl]
  simp (disch := omega) only [q_163_0, q_163_1, og_11_56, op_11_56, og_11_53, or_11_53, ow_11_53, o_is, o_ob, ofs_len11, ↓reduceIte, k_cr, k_ci, k_oR, k_oN, k_aR, k_aN, and_true, true_and, and_self, eq_self, Nat.reduceLT, Nat.reduceLeDiff, Nat.reduceEqDiff, Nat.reduceAdd, Nat.reduceMul, Bool.true_eq_false, Bool.false_eq_true, Nat.add_sub_cancel, Nat.not_lt_zero, Nat.zero_le, k_sub, k_sb1, k_r, k_n, k_ret, k_t1, k_t0, k_nr, k_nn, k_z0, k_z1, k_zb, x_okI, lit_nI, k_in, k_cl, k_lt, k_le, k_eq, k_neg, nI_add, nI_mul, k_clt, k_cgt, k_cle, k_cge, k_ceq, bI_0, k_sh8, ne_eq, Nat.add_eq_zero_iff, Nat.one_ne_zero, Nat.succ_ne_zero, and_false, false_and, not_false_eq_true, not_true_eq_false, ite_true, ite_false, if_true, if_false, e]
theorem opW_ns (c : Int32) : nsW (opW c) = false := by
  unfold opW
  split
  · decide
  · split
    · decide
    · split
      · decide
      · split <;> decide
theorem m_operator (d : Nat) (h : xH) (M : Nat) {wr : Int32} {t : Nat → Int32} {n : Nat} {S0 S : gS} {i : Nat} {A P H : List aT} (h7 : n ≤ 700) (hop : isOp ((pcs t n).1 i) = true) (hs : stN (isTm ((pcs t n).1 i)) H) (hP : ∀ x, x ∈ P → opN (isTm ((pcs t n).1 i)) x) (hb : bU wr t n S0 S i A (P ++ H)) (hl : A.length + (P ++ H).length ≤ 699) : ∃ S', xm (d + 3) 164 [.ref M] (oh 11 h M S) = some (none, oh 11 h M S') ∧ bU wr t n S0 S' (i + 1) (A ++ P) (opA ((pcs t n).1 i) :: H) := by
  obtain ⟨S1, e1, b1⟩ := m_done d h M _ hs hP hb (by omega)
  have hlp : H.length ≤ (P ++ H).length := by rw [List.length_append]; omega
  have b2 := b1.hold (opW ((pcs t n).1 i)) 0 0 (opW_ns _)
  have e2 := fun w => m_hold (d + 1) h M H.length S1 w 0 (nI 0) b1.2.2.2.1.1 (by omega)
  have b3 := b2.read
  have e3 := m_readV d h M h7 b2
  refine ⟨_, ?_, b3⟩
  have hc : sI S 31 = (pcs t n).1 i := hb.1.2.2.2.1
  have hc1 : sI S1 31 = (pcs t n).1 i := b1.1.2.2.2.1
  rw [E_164 _ _ _ rfl]
  unfold hoM at e3 ⊢
  generalize rdN (uI (uA (uL (uA S1 53 H.length (opW ((pcs t n).1 i))) 54 H.length 0) 55 H.length (nI 0)) 56 (nI (H.length + 1))) n (psF t n (i + 1)) = S3 at e3 ⊢
  generalize (pcs t n).1 i = c at *
  unfold opW at e3
  by_cases c0 : c = nI 43
  · subst c0
    rw [if_pos rfl] at e3
    rw [show isTm (nI 43) = false by decide, bI_f] at e1
    simp (disch := omega) only [q_164_0, q_164_1, q_164_4, q_164_6, q_164_9, q_164_10, q_164_13, q_164_15, q_164_18, q_164_19, q_164_22, q_164_23, q_164_24, q_164_25, q_164_26, q_164_29, q_164_30, q_164_31, q_164_34, q_164_36, q_164_39, q_164_41, q_164_44, q_164_45, q_164_48, q_164_50, q_164_53, q_164_55, q_164_58, q_164_59, q_164_62, q_164_64, q_164_67, q_164_69, q_164_72, q_164_73, q_164_76, q_164_78, q_164_81, q_164_83, q_164_86, q_164_88, q_164_89, q_164_90, q_164_93, q_164_94, q_164_97, og_11_31, o_is, o_ob, ofs_len11, ↓reduceIte, k_cr, k_ci, k_oR, k_oN, k_aR, k_aN, and_true, true_and, and_self, eq_self, Nat.reduceLT, Nat.reduceLeDiff, Nat.reduceEqDiff, Nat.reduceAdd, Nat.reduceMul, Bool.true_eq_false, Bool.false_eq_true, Nat.add_sub_cancel, Nat.not_lt_zero, Nat.zero_le, k_sub, k_sb1, k_r, k_n, k_ret, k_t1, k_t0, k_nr, k_nn, k_z0, k_z1, k_zb, x_okI, lit_nI, k_in, k_cl, k_lt, k_le, k_eq, k_neg, nI_add, nI_mul, k_clt, k_cgt, k_cle, k_cge, k_ceq, bI_0, k_sh8, ne_eq, Nat.add_eq_zero_iff, Nat.one_ne_zero, Nat.succ_ne_zero, and_false, false_and, not_false_eq_true, not_true_eq_false, ite_true, ite_false, if_true, if_false, hc, hc1, bI_f, e1, e2, e3]
  by_cases c1 : c = nI 45
  · subst c1
    rw [show (if nI 45 = nI 43 then nI 7 else if nI 45 = nI 45 then nI 8 else if nI 45 = nI 42 then nI 9 else if nI 45 = nI 47 then nI 10 else nI 11) = nI 8 by decide] at e3
    rw [show isTm (nI 45) = false by decide, bI_f] at e1
    simp (disch := omega) only [q_164_0, q_164_1, q_164_4, q_164_6, q_164_9, q_164_10, q_164_13, q_164_15, q_164_18, q_164_19, q_164_22, q_164_23, q_164_24, q_164_25, q_164_26, q_164_29, q_164_30, q_164_31, q_164_34, q_164_36, q_164_39, q_164_41, q_164_44, q_164_45, q_164_48, q_164_50, q_164_53, q_164_55, q_164_58, q_164_59, q_164_62, q_164_64, q_164_67, q_164_69, q_164_72, q_164_73, q_164_76, q_164_78, q_164_81, q_164_83, q_164_86, q_164_88, q_164_89, q_164_90, q_164_93, q_164_94, q_164_97, og_11_31, o_is, o_ob, ofs_len11, ↓reduceIte, k_cr, k_ci, k_oR, k_oN, k_aR, k_aN, and_true, true_and, and_self, eq_self, Nat.reduceLT, Nat.reduceLeDiff, Nat.reduceEqDiff, Nat.reduceAdd, Nat.reduceMul, Bool.true_eq_false, Bool.false_eq_true, Nat.add_sub_cancel, Nat.not_lt_zero, Nat.zero_le, k_sub, k_sb1, k_r, k_n, k_ret, k_t1, k_t0, k_nr, k_nn, k_z0, k_z1, k_zb, x_okI, lit_nI, k_in, k_cl, k_lt, k_le, k_eq, k_neg, nI_add, nI_mul, k_clt, k_cgt, k_cle, k_cge, k_ceq, bI_0, k_sh8, ne_eq, Nat.add_eq_zero_iff, Nat.one_ne_zero, Nat.succ_ne_zero, and_false, false_and, not_false_eq_true, not_true_eq_false, ite_true, ite_false, if_true, if_false, hc, hc1, bI_f, e1, e2, e3]
  by_cases c2 : c = nI 42
  · subst c2
    rw [show (if nI 42 = nI 43 then nI 7 else if nI 42 = nI 45 then nI 8 else if nI 42 = nI 42 then nI 9 else if nI 42 = nI 47 then nI 10 else nI 11) = nI 9 by decide] at e3
    rw [show isTm (nI 42) = true by decide, bI_t] at e1
    simp (disch := omega) only [q_164_0, q_164_1, q_164_4, q_164_6, q_164_9, q_164_10, q_164_13, q_164_15, q_164_18, q_164_19, q_164_22, q_164_23, q_164_24, q_164_25, q_164_26, q_164_29, q_164_30, q_164_31, q_164_34, q_164_36, q_164_39, q_164_41, q_164_44, q_164_45, q_164_48, q_164_50, q_164_53, q_164_55, q_164_58, q_164_59, q_164_62, q_164_64, q_164_67, q_164_69, q_164_72, q_164_73, q_164_76, q_164_78, q_164_81, q_164_83, q_164_86, q_164_88, q_164_89, q_164_90, q_164_93, q_164_94, q_164_97, og_11_31, o_is, o_ob, ofs_len11, ↓reduceIte, k_cr, k_ci, k_oR, k_oN, k_aR, k_aN, and_true, true_and, and_self, eq_self, Nat.reduceLT, Nat.reduceLeDiff, Nat.reduceEqDiff, Nat.reduceAdd, Nat.reduceMul, Bool.true_eq_false, Bool.false_eq_true, Nat.add_sub_cancel, Nat.not_lt_zero, Nat.zero_le, k_sub, k_sb1, k_r, k_n, k_ret, k_t1, k_t0, k_nr, k_nn, k_z0, k_z1, k_zb, x_okI, lit_nI, k_in, k_cl, k_lt, k_le, k_eq, k_neg, nI_add, nI_mul, k_clt, k_cgt, k_cle, k_cge, k_ceq, bI_0, k_sh8, ne_eq, Nat.add_eq_zero_iff, Nat.one_ne_zero, Nat.succ_ne_zero, and_false, false_and, not_false_eq_true, not_true_eq_false, ite_true, ite_false, if_true, if_false, hc, hc1, bI_t, e1, e2, e3]
  by_cases c3 : c = nI 47
  · subst c3
    rw [show (if nI 47 = nI 43 then nI 7 else if nI 47 = nI 45 then nI 8 else if nI 47 = nI 42 then nI 9 else if nI 47 = nI 47 then nI 10 else nI 11) = nI 10 by decide] at e3
    rw [show isTm (nI 47) = true by decide, bI_t] at e1
    simp (disch := omega) only [q_164_0, q_164_1, q_164_4, q_164_6, q_164_9, q_164_10, q_164_13, q_164_15, q_164_18, q_164_19, q_164_22, q_164_23, q_164_24, q_164_25, q_164_26, q_164_29, q_164_30, q_164_31, q_164_34, q_164_36, q_164_39, q_164_41, q_164_44, q_164_45, q_164_48, q_164_50, q_164_53, q_164_55, q_164_58, q_164_59, q_164_62, q_164_64, q_164_67, q_164_69, q_164_72, q_164_73, q_164_76, q_164_78, q_164_81, q_164_83, q_164_86, q_164_88, q_164_89, q_164_90, q_164_93, q_164_94, q_164_97, og_11_31, o_is, o_ob, ofs_len11, ↓reduceIte, k_cr, k_ci, k_oR, k_oN, k_aR, k_aN, and_true, true_and, and_self, eq_self, Nat.reduceLT, Nat.reduceLeDiff, Nat.reduceEqDiff, Nat.reduceAdd, Nat.reduceMul, Bool.true_eq_false, Bool.false_eq_true, Nat.add_sub_cancel, Nat.not_lt_zero, Nat.zero_le, k_sub, k_sb1, k_r, k_n, k_ret, k_t1, k_t0, k_nr, k_nn, k_z0, k_z1, k_zb, x_okI, lit_nI, k_in, k_cl, k_lt, k_le, k_eq, k_neg, nI_add, nI_mul, k_clt, k_cgt, k_cle, k_cge, k_ceq, bI_0, k_sh8, ne_eq, Nat.add_eq_zero_iff, Nat.one_ne_zero, Nat.succ_ne_zero, and_false, false_and, not_false_eq_true, not_true_eq_false, ite_true, ite_false, if_true, if_false, hc, hc1, bI_t, e1, e2, e3]
  by_cases c4 : c = nI 37
  · subst c4
    rw [show (if nI 37 = nI 43 then nI 7 else if nI 37 = nI 45 then nI 8 else if nI 37 = nI 42 then nI 9 else if nI 37 = nI 47 then nI 10 else nI 11) = nI 11 by decide] at e3
    rw [show isTm (nI 37) = true by decide, bI_t] at e1
    simp (disch := omega) only [q_164_0, q_164_1, q_164_4, q_164_6, q_164_9, q_164_10, q_164_13, q_164_15, q_164_18, q_164_19, q_164_22, q_164_23, q_164_24, q_164_25, q_164_26, q_164_29, q_164_30, q_164_31, q_164_34, q_164_36, q_164_39, q_164_41, q_164_44, q_164_45, q_164_48, q_164_50, q_164_53, q_164_55, q_164_58, q_164_59, q_164_62, q_164_64, q_164_67, q_164_69, q_164_72, q_164_73, q_164_76, q_164_78, q_164_81, q_164_83, q_164_86, q_164_88, q_164_89, q_164_90, q_164_93, q_164_94, q_164_97, og_11_31, o_is, o_ob, ofs_len11, ↓reduceIte, k_cr, k_ci, k_oR, k_oN, k_aR, k_aN, and_true, true_and, and_self, eq_self, Nat.reduceLT, Nat.reduceLeDiff, Nat.reduceEqDiff, Nat.reduceAdd, Nat.reduceMul, Bool.true_eq_false, Bool.false_eq_true, Nat.add_sub_cancel, Nat.not_lt_zero, Nat.zero_le, k_sub, k_sb1, k_r, k_n, k_ret, k_t1, k_t0, k_nr, k_nn, k_z0, k_z1, k_zb, x_okI, lit_nI, k_in, k_cl, k_lt, k_le, k_eq, k_neg, nI_add, nI_mul, k_clt, k_cgt, k_cle, k_cge, k_ceq, bI_0, k_sh8, ne_eq, Nat.add_eq_zero_iff, Nat.one_ne_zero, Nat.succ_ne_zero, and_false, false_and, not_false_eq_true, not_true_eq_false, ite_true, ite_false, if_true, if_false, hc, hc1, bI_t, e1, e2, e3]
  · exfalso
    unfold isOp at hop
    rw [decide_eq_false c0, decide_eq_false c1, decide_eq_false c2, decide_eq_false c3, decide_eq_false c4] at hop
    cases hop
