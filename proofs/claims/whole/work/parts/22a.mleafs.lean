/-! The reference, while it carries: moveOf, ruleOf, isToldIn, sameOf, refuse. -/
theorem m_moveOf_loop (d : Nat) (h : xH) (M : Nat) (S : gS) (b c n : Nat) (hb : b < 8) (hc : c < 6) (hn : sI S 35 = nI n) (h7 : n ≤ 700) : ∀ (k i : Nat), i + k = n → xrun d 174 2 [(1, .ref M), (1, .int (nI b)), (1, .int (nI c)), (1, .int (nI i))] [] (oh 11 h M S) = some (some (.int (oI (fndF (sL S 37) (sL S 1 (6 * b + c)) k i))), oh 11 h M S)
  | 0, i, hi => by
    have hle : n ≤ i := by omega
    rw [q_174_2]
    simp (disch := omega) only [q_174_0, q_174_1, q_174_3, q_174_4, q_174_7, q_174_10, q_174_11, q_174_14, q_174_15, q_174_16, q_174_17, q_174_20, q_174_22, q_174_23, q_174_24, q_174_25, q_174_26, q_174_27, q_174_28, q_174_31, q_174_32, q_174_33, q_174_36, q_174_39, q_174_40, og_11_35, og_11_37, or_11_37, ow_11_37, og_11_1, or_11_1, ow_11_1, o_is, o_ob, ofs_len11, ↓reduceIte, k_cr, k_ci, k_oR, k_oN, k_aR, k_aN, and_true, true_and, and_self, eq_self, Nat.reduceLT, Nat.reduceLeDiff, Nat.reduceEqDiff, Nat.reduceAdd, Nat.reduceMul, Bool.true_eq_false, Bool.false_eq_true, Nat.add_sub_cancel, Nat.not_lt_zero, Nat.zero_le, k_sub, k_sb1, k_r, k_n, k_ret, k_t1, k_t0, k_nr, k_nn, k_z0, k_z1, k_zb, x_okI, lit_nI, k_in, k_cl, k_lt, k_le, k_eq, k_neg, nI_add, nI_mul, k_clt, k_cgt, k_cle, k_cge, k_ceq, bI_0, k_sh8, ne_eq, Nat.add_eq_zero_iff, Nat.one_ne_zero, Nat.succ_ne_zero, and_false, false_and, not_false_eq_true, not_true_eq_false, ite_true, ite_false, if_true, if_false, hn, hle]
    rfl
  | k + 1, i, hi => by
    have hle : ¬ n ≤ i := by omega
    have ih := m_moveOf_loop d h M S b c n hb hc hn h7 k (i + 1) (by omega)
    rw [q_174_2, fndF_s]
    by_cases h1 : sL S 37 i = sL S 1 (6 * b + c)
    · rw [if_pos h1]
      simp (disch := omega) only [q_174_0, q_174_1, q_174_3, q_174_4, q_174_7, q_174_10, q_174_11, q_174_14, q_174_15, q_174_16, q_174_17, q_174_20, q_174_22, q_174_23, q_174_24, q_174_25, q_174_26, q_174_27, q_174_28, q_174_31, q_174_32, q_174_33, q_174_36, q_174_39, q_174_40, og_11_35, og_11_37, or_11_37, ow_11_37, og_11_1, or_11_1, ow_11_1, o_is, o_ob, ofs_len11, ↓reduceIte, k_cr, k_ci, k_oR, k_oN, k_aR, k_aN, and_true, true_and, and_self, eq_self, Nat.reduceLT, Nat.reduceLeDiff, Nat.reduceEqDiff, Nat.reduceAdd, Nat.reduceMul, Bool.true_eq_false, Bool.false_eq_true, Nat.add_sub_cancel, Nat.not_lt_zero, Nat.zero_le, k_sub, k_sb1, k_r, k_n, k_ret, k_t1, k_t0, k_nr, k_nn, k_z0, k_z1, k_zb, x_okI, lit_nI, k_in, k_cl, k_lt, k_le, k_eq, k_neg, nI_add, nI_mul, k_clt, k_cgt, k_cle, k_cge, k_ceq, bI_0, k_sh8, ne_eq, Nat.add_eq_zero_iff, Nat.one_ne_zero, Nat.succ_ne_zero, and_false, false_and, not_false_eq_true, not_true_eq_false, ite_true, ite_false, if_true, if_false, hn, hle, h1]
      rfl
    · rw [if_neg h1]
      simp (disch := omega) only [q_174_0, q_174_1, q_174_3, q_174_4, q_174_7, q_174_10, q_174_11, q_174_14, q_174_15, q_174_16, q_174_17, q_174_20, q_174_22, q_174_23, q_174_24, q_174_25, q_174_26, q_174_27, q_174_28, q_174_31, q_174_32, q_174_33, q_174_36, q_174_39, q_174_40, og_11_35, og_11_37, or_11_37, ow_11_37, og_11_1, or_11_1, ow_11_1, o_is, o_ob, ofs_len11, ↓reduceIte, k_cr, k_ci, k_oR, k_oN, k_aR, k_aN, and_true, true_and, and_self, eq_self, Nat.reduceLT, Nat.reduceLeDiff, Nat.reduceEqDiff, Nat.reduceAdd, Nat.reduceMul, Bool.true_eq_false, Bool.false_eq_true, Nat.add_sub_cancel, Nat.not_lt_zero, Nat.zero_le, k_sub, k_sb1, k_r, k_n, k_ret, k_t1, k_t0, k_nr, k_nn, k_z0, k_z1, k_zb, x_okI, lit_nI, k_in, k_cl, k_lt, k_le, k_eq, k_neg, nI_add, nI_mul, k_clt, k_cgt, k_cle, k_cge, k_ceq, bI_0, k_sh8, ne_eq, Nat.add_eq_zero_iff, Nat.one_ne_zero, Nat.succ_ne_zero, and_false, false_and, not_false_eq_true, not_true_eq_false, ite_true, ite_false, if_true, if_false, hn, hle, h1]
      exact ih
theorem m_moveOf (d : Nat) (h : xH) (M : Nat) (S : gS) (b c n : Nat) (hb : b < 8) (hc : c < 6) (hn : sI S 35 = nI n) (h7 : n ≤ 700) : xm (d + 1) 174 [.ref M, .int (nI b), .int (nI c)] (oh 11 h M S) = some (some (.int (oI (fnd (sL S 37) (sL S 1 (6 * b + c)) n))), oh 11 h M S) := by
  have e := m_moveOf_loop d h M S b c n hb hc hn h7 n 0 (by omega)
  rw [E_174 _ _ _ _ _ rfl]
  simp (disch := omega) only [q_174_0, q_174_1, q_174_3, q_174_4, q_174_7, q_174_10, q_174_11, q_174_14, q_174_15, q_174_16, q_174_17, q_174_20, q_174_22, q_174_23, q_174_24, q_174_25, q_174_26, q_174_27, q_174_28, q_174_31, q_174_32, q_174_33, q_174_36, q_174_39, q_174_40, og_11_35, og_11_37, or_11_37, ow_11_37, og_11_1, or_11_1, ow_11_1, o_is, o_ob, ofs_len11, ↓reduceIte, k_cr, k_ci, k_oR, k_oN, k_aR, k_aN, and_true, true_and, and_self, eq_self, Nat.reduceLT, Nat.reduceLeDiff, Nat.reduceEqDiff, Nat.reduceAdd, Nat.reduceMul, Bool.true_eq_false, Bool.false_eq_true, Nat.add_sub_cancel, Nat.not_lt_zero, Nat.zero_le, k_sub, k_sb1, k_r, k_n, k_ret, k_t1, k_t0, k_nr, k_nn, k_z0, k_z1, k_zb, x_okI, lit_nI, k_in, k_cl, k_lt, k_le, k_eq, k_neg, nI_add, nI_mul, k_clt, k_cgt, k_cle, k_cge, k_ceq, bI_0, k_sh8, ne_eq, Nat.add_eq_zero_iff, Nat.one_ne_zero, Nat.succ_ne_zero, and_false, false_and, not_false_eq_true, not_true_eq_false, ite_true, ite_false, if_true, if_false, e]
  rfl
/-- the first RULE of a kind and a NAME -/
def fnR (kd : Nat) (w : Int64) : List rT → Nat → Option Nat
  | [], _ => none
  | r :: R, i => if r.1 = kd ∧ r.2.1 = w then some i else fnR kd w R (i + 1)
/-- RULES R of a MOVE stand at b0 on, their acts where af says -/
def rkM (S : gS) (b0 : Nat) (af : Nat → Nat) (R : List rT) : Prop := b0 + R.length ≤ 699 ∧ (∀ q, q ≤ R.length → sA S 48 (b0 + q) = nI (af q) ∧ af q ≤ 700) ∧ ∀ q r, R[q]? = some r → rAt S (b0 + q) r ∧ r.1 ≤ 2 ∧ af (q + 1) = af q + r.2.2.2.2.2.length ∧ ∀ x a, r.2.2.2.2.2[x]? = some a → sA S 50 (af q + x) = a.1 ∧ sL S 51 (af q + x) = a.2.1
/-- a MOVE, or none of it -/
def rkO (S : gS) (k : Option Nat) (b0 : Nat) (af : Nat → Nat) (R : List rT) : Prop := match k with
  | none => R = []
  | some k => k < 699 ∧ sA S 41 k = nI b0 ∧ sA S 41 (k + 1) = nI (b0 + R.length) ∧ rkM S b0 af R
theorem m_ruleOf_loop (d : Nat) (h : xH) (M : Nat) (S : gS) (k e kd : Nat) (w : Int64) (hk : k < 699) (he : sA S 41 (k + 1) = nI e) (he7 : e ≤ 699) (hkd : kd ≤ 2) : ∀ (R : List rT) (i : Nat), i + R.length = e → (∀ q r, R[q]? = some r → rAt S (i + q) r ∧ r.1 ≤ 2) → xrun d 177 15 [(1, .ref M), (1, .int (nI k)), (1, .int (nI kd)), (2, .long w), (0, .null), (1, .int (nI i))] [] (oh 11 h M S) = some (some (.int (oI (fnR kd w R i))), oh 11 h M S)
  | [], i, hi, hR => by
    have hle : e ≤ i := by
      have : i = e := hi
      omega
    rw [q_177_15]
    simp (disch := omega) only [q_177_0, q_177_1, q_177_2, q_177_5, q_177_6, q_177_7, q_177_8, q_177_11, q_177_12, q_177_13, q_177_17, q_177_18, q_177_21, q_177_22, q_177_23, q_177_24, q_177_25, q_177_28, q_177_29, q_177_32, q_177_34, q_177_35, q_177_36, q_177_39, q_177_40, q_177_43, q_177_45, q_177_46, q_177_47, q_177_48, q_177_51, q_177_53, q_177_54, q_177_57, q_177_60, q_177_61, og_11_41, or_11_41, ow_11_41, og_11_43, or_11_43, ow_11_43, og_11_44, or_11_44, ow_11_44, o_is, o_ob, ofs_len11, ↓reduceIte, k_cr, k_ci, k_oR, k_oN, k_aR, k_aN, and_true, true_and, and_self, eq_self, Nat.reduceLT, Nat.reduceLeDiff, Nat.reduceEqDiff, Nat.reduceAdd, Nat.reduceMul, Bool.true_eq_false, Bool.false_eq_true, Nat.add_sub_cancel, Nat.not_lt_zero, Nat.zero_le, k_sub, k_sb1, k_r, k_n, k_ret, k_t1, k_t0, k_nr, k_nn, k_z0, k_z1, k_zb, x_okI, lit_nI, k_in, k_cl, k_lt, k_le, k_eq, k_neg, nI_add, nI_mul, k_clt, k_cgt, k_cle, k_cge, k_ceq, bI_0, k_sh8, ne_eq, Nat.add_eq_zero_iff, Nat.one_ne_zero, Nat.succ_ne_zero, and_false, false_and, not_false_eq_true, not_true_eq_false, ite_true, ite_false, if_true, if_false, he, hle]
    rfl
  | r :: R, i, hi, hR => by
    have hi : i + (R.length + 1) = e := hi
    have hle : ¬ e ≤ i := by omega
    have h0 := hR 0 r rfl
    rw [Nat.add_zero] at h0
    have g1 := h0.1.1
    have g2 := h0.1.2.1
    have g3 := h0.2
    have ih := m_ruleOf_loop d h M S k e kd w hk he he7 hkd R (i + 1) (by omega) (fun q r2 hq => by
      have := hR (q + 1) r2 hq
      rw [show i + 1 + q = i + (q + 1) by omega]
      exact this)
    show _ = some (some (Value.int (oI (if r.1 = kd ∧ r.2.1 = w then some i else fnR kd w R (i + 1)))), oh 11 h M S)
    rw [q_177_15]
    by_cases c1 : r.1 = kd
    · by_cases c2 : r.2.1 = w
      · rw [if_pos ⟨c1, c2⟩]
        simp (disch := omega) only [q_177_0, q_177_1, q_177_2, q_177_5, q_177_6, q_177_7, q_177_8, q_177_11, q_177_12, q_177_13, q_177_17, q_177_18, q_177_21, q_177_22, q_177_23, q_177_24, q_177_25, q_177_28, q_177_29, q_177_32, q_177_34, q_177_35, q_177_36, q_177_39, q_177_40, q_177_43, q_177_45, q_177_46, q_177_47, q_177_48, q_177_51, q_177_53, q_177_54, q_177_57, q_177_60, q_177_61, og_11_41, or_11_41, ow_11_41, og_11_43, or_11_43, ow_11_43, og_11_44, or_11_44, ow_11_44, o_is, o_ob, ofs_len11, ↓reduceIte, k_cr, k_ci, k_oR, k_oN, k_aR, k_aN, and_true, true_and, and_self, eq_self, Nat.reduceLT, Nat.reduceLeDiff, Nat.reduceEqDiff, Nat.reduceAdd, Nat.reduceMul, Bool.true_eq_false, Bool.false_eq_true, Nat.add_sub_cancel, Nat.not_lt_zero, Nat.zero_le, k_sub, k_sb1, k_r, k_n, k_ret, k_t1, k_t0, k_nr, k_nn, k_z0, k_z1, k_zb, x_okI, lit_nI, k_in, k_cl, k_lt, k_le, k_eq, k_neg, nI_add, nI_mul, k_clt, k_cgt, k_cle, k_cge, k_ceq, bI_0, k_sh8, ne_eq, Nat.add_eq_zero_iff, Nat.one_ne_zero, Nat.succ_ne_zero, and_false, false_and, not_false_eq_true, not_true_eq_false, ite_true, ite_false, if_true, if_false, he, hle, g1, g2, c1, c2]
        rfl
      · rw [if_neg (fun z => c2 z.2)]
        simp (disch := omega) only [q_177_0, q_177_1, q_177_2, q_177_5, q_177_6, q_177_7, q_177_8, q_177_11, q_177_12, q_177_13, q_177_17, q_177_18, q_177_21, q_177_22, q_177_23, q_177_24, q_177_25, q_177_28, q_177_29, q_177_32, q_177_34, q_177_35, q_177_36, q_177_39, q_177_40, q_177_43, q_177_45, q_177_46, q_177_47, q_177_48, q_177_51, q_177_53, q_177_54, q_177_57, q_177_60, q_177_61, og_11_41, or_11_41, ow_11_41, og_11_43, or_11_43, ow_11_43, og_11_44, or_11_44, ow_11_44, o_is, o_ob, ofs_len11, ↓reduceIte, k_cr, k_ci, k_oR, k_oN, k_aR, k_aN, and_true, true_and, and_self, eq_self, Nat.reduceLT, Nat.reduceLeDiff, Nat.reduceEqDiff, Nat.reduceAdd, Nat.reduceMul, Bool.true_eq_false, Bool.false_eq_true, Nat.add_sub_cancel, Nat.not_lt_zero, Nat.zero_le, k_sub, k_sb1, k_r, k_n, k_ret, k_t1, k_t0, k_nr, k_nn, k_z0, k_z1, k_zb, x_okI, lit_nI, k_in, k_cl, k_lt, k_le, k_eq, k_neg, nI_add, nI_mul, k_clt, k_cgt, k_cle, k_cge, k_ceq, bI_0, k_sh8, ne_eq, Nat.add_eq_zero_iff, Nat.one_ne_zero, Nat.succ_ne_zero, and_false, false_and, not_false_eq_true, not_true_eq_false, ite_true, ite_false, if_true, if_false, he, hle, g1, g2, c1, c2]
        exact ih
    · rw [if_neg (fun z => c1 z.1)]
      simp (disch := omega) only [q_177_0, q_177_1, q_177_2, q_177_5, q_177_6, q_177_7, q_177_8, q_177_11, q_177_12, q_177_13, q_177_17, q_177_18, q_177_21, q_177_22, q_177_23, q_177_24, q_177_25, q_177_28, q_177_29, q_177_32, q_177_34, q_177_35, q_177_36, q_177_39, q_177_40, q_177_43, q_177_45, q_177_46, q_177_47, q_177_48, q_177_51, q_177_53, q_177_54, q_177_57, q_177_60, q_177_61, og_11_41, or_11_41, ow_11_41, og_11_43, or_11_43, ow_11_43, og_11_44, or_11_44, ow_11_44, o_is, o_ob, ofs_len11, ↓reduceIte, k_cr, k_ci, k_oR, k_oN, k_aR, k_aN, and_true, true_and, and_self, eq_self, Nat.reduceLT, Nat.reduceLeDiff, Nat.reduceEqDiff, Nat.reduceAdd, Nat.reduceMul, Bool.true_eq_false, Bool.false_eq_true, Nat.add_sub_cancel, Nat.not_lt_zero, Nat.zero_le, k_sub, k_sb1, k_r, k_n, k_ret, k_t1, k_t0, k_nr, k_nn, k_z0, k_z1, k_zb, x_okI, lit_nI, k_in, k_cl, k_lt, k_le, k_eq, k_neg, nI_add, nI_mul, k_clt, k_cgt, k_cle, k_cge, k_ceq, bI_0, k_sh8, ne_eq, Nat.add_eq_zero_iff, Nat.one_ne_zero, Nat.succ_ne_zero, and_false, false_and, not_false_eq_true, not_true_eq_false, ite_true, ite_false, if_true, if_false, he, hle, g1, c1]
      exact ih
theorem m_ruleOf (d : Nat) (h : xH) (M : Nat) (S : gS) {k : Option Nat} {b0 : Nat} {af : Nat → Nat} {R : List rT} (kd : Nat) (w : Int64) (hk : rkO S k b0 af R) (hkd : kd ≤ 2) : xm (d + 1) 177 [.ref M, .int (oI k), .int (nI kd), .long w] (oh 11 h M S) = some (some (.int (oI (fnR kd w R b0))), oh 11 h M S) := by
  rw [E_177 _ _ _ _ _ _ rfl]
  cases k with
  | none =>
    have hk : R = [] := hk
    subst hk
    show xrun d 177 0 [(1, .ref M), (1, .int (-nI 1)), (1, .int (nI kd)), (2, .long w), (0, .null), (0, .null)] [] (oh 11 h M S) = some (some (.int (-nI 1)), oh 11 h M S)
    simp (disch := omega) only [q_177_0, q_177_1, q_177_2, q_177_5, q_177_6, q_177_7, q_177_8, q_177_11, q_177_12, q_177_13, q_177_17, q_177_18, q_177_21, q_177_22, q_177_23, q_177_24, q_177_25, q_177_28, q_177_29, q_177_32, q_177_34, q_177_35, q_177_36, q_177_39, q_177_40, q_177_43, q_177_45, q_177_46, q_177_47, q_177_48, q_177_51, q_177_53, q_177_54, q_177_57, q_177_60, q_177_61, og_11_41, or_11_41, ow_11_41, og_11_43, or_11_43, ow_11_43, og_11_44, or_11_44, ow_11_44, o_is, o_ob, ofs_len11, ↓reduceIte, k_cr, k_ci, k_oR, k_oN, k_aR, k_aN, and_true, true_and, and_self, eq_self, Nat.reduceLT, Nat.reduceLeDiff, Nat.reduceEqDiff, Nat.reduceAdd, Nat.reduceMul, Bool.true_eq_false, Bool.false_eq_true, Nat.add_sub_cancel, Nat.not_lt_zero, Nat.zero_le, k_sub, k_sb1, k_r, k_n, k_ret, k_t1, k_t0, k_nr, k_nn, k_z0, k_z1, k_zb, x_okI, lit_nI, k_in, k_cl, k_lt, k_le, k_eq, k_neg, nI_add, nI_mul, k_clt, k_cgt, k_cle, k_cge, k_ceq, bI_0, k_sh8, ne_eq, Nat.add_eq_zero_iff, Nat.one_ne_zero, Nat.succ_ne_zero, and_false, false_and, not_false_eq_true, not_true_eq_false, ite_true, ite_false, if_true, if_false]
  | some k =>
    obtain ⟨h1, h2, h3, h4⟩ := hk
    have e := m_ruleOf_loop d h M S k (b0 + R.length) kd w h1 h3 h4.1 hkd R b0 rfl (fun q r hq => ⟨(h4.2.2 q r hq).1, (h4.2.2 q r hq).2.1⟩)
    show xrun d 177 0 [(1, .ref M), (1, .int (nI k)), (1, .int (nI kd)), (2, .long w), (0, .null), (0, .null)] [] (oh 11 h M S) = _
    simp (disch := omega) only [q_177_0, q_177_1, q_177_2, q_177_5, q_177_6, q_177_7, q_177_8, q_177_11, q_177_12, q_177_13, q_177_17, q_177_18, q_177_21, q_177_22, q_177_23, q_177_24, q_177_25, q_177_28, q_177_29, q_177_32, q_177_34, q_177_35, q_177_36, q_177_39, q_177_40, q_177_43, q_177_45, q_177_46, q_177_47, q_177_48, q_177_51, q_177_53, q_177_54, q_177_57, q_177_60, q_177_61, og_11_41, or_11_41, ow_11_41, og_11_43, or_11_43, ow_11_43, og_11_44, or_11_44, ow_11_44, o_is, o_ob, ofs_len11, ↓reduceIte, k_cr, k_ci, k_oR, k_oN, k_aR, k_aN, and_true, true_and, and_self, eq_self, Nat.reduceLT, Nat.reduceLeDiff, Nat.reduceEqDiff, Nat.reduceAdd, Nat.reduceMul, Bool.true_eq_false, Bool.false_eq_true, Nat.add_sub_cancel, Nat.not_lt_zero, Nat.zero_le, k_sub, k_sb1, k_r, k_n, k_ret, k_t1, k_t0, k_nr, k_nn, k_z0, k_z1, k_zb, x_okI, lit_nI, k_in, k_cl, k_lt, k_le, k_eq, k_neg, nI_add, nI_mul, k_clt, k_cgt, k_cle, k_cge, k_ceq, bI_0, k_sh8, ne_eq, Nat.add_eq_zero_iff, Nat.one_ne_zero, Nat.succ_ne_zero, and_false, false_and, not_false_eq_true, not_true_eq_false, ite_true, ite_false, if_true, if_false, h2, e]
/-- acts that tell of NAME w -/
def tA (w : Int64) (a : aT) : Bool := !decide (a.1 < nI 3) && (!decide (nI 5 < a.1) && decide (a.2.1 = w))
def tR (w : Int64) (r : rT) : Bool := !decide (r.1 = 2) && r.2.2.2.2.2.any (tA w)
theorem m_tin_in (d : Nat) (h : xH) (M : Nat) (S : gS) (k r e : Nat) (w : Int64) (hr : r < 699) (he : sA S 48 (r + 1) = nI e) (he7 : e ≤ 700) {res : xR} : ∀ (B : List aT) (i : Nat), i + B.length = e → (∀ x a, B[x]? = some a → sA S 50 (i + x) = a.1 ∧ sL S 51 (i + x) = a.2.1) → (∀ l5, xrun d 190 15 [(1, .ref M), (1, .int (nI k)), (2, .long w), (0, .null), (1, .int (nI (r + 1))), l5] [] (oh 11 h M S) = some res) → xrun d 190 51 [(1, .ref M), (1, .int (nI k)), (2, .long w), (0, .null), (1, .int (nI r)), (1, .int (nI i))] [] (oh 11 h M S) = some (if B.any (tA w) = true then (some (.int (nI 1)), oh 11 h M S) else res)
  | [], i, hi, hB, hn => by
    have hle : e ≤ i := by
      have : i = e := hi
      omega
    have hn := hn (1, .int (nI i))
    rw [q_190_51]
    simp (disch := omega) only [q_190_0, q_190_1, q_190_2, q_190_5, q_190_6, q_190_7, q_190_8, q_190_11, q_190_12, q_190_13, q_190_17, q_190_18, q_190_21, q_190_22, q_190_23, q_190_24, q_190_25, q_190_28, q_190_29, q_190_32, q_190_34, q_190_35, q_190_36, q_190_39, q_190_42, q_190_43, q_190_46, q_190_48, q_190_49, q_190_53, q_190_54, q_190_57, q_190_59, q_190_60, q_190_61, q_190_62, q_190_65, q_190_66, q_190_69, q_190_71, q_190_72, q_190_73, q_190_76, q_190_77, q_190_80, q_190_82, q_190_83, q_190_84, q_190_87, q_190_88, q_190_91, q_190_93, q_190_94, q_190_95, q_190_96, q_190_99, q_190_100, q_190_101, q_190_104, q_190_107, q_190_110, q_190_113, q_190_114, og_11_41, or_11_41, ow_11_41, og_11_43, or_11_43, ow_11_43, og_11_48, or_11_48, ow_11_48, og_11_50, or_11_50, ow_11_50, og_11_51, or_11_51, ow_11_51, o_is, o_ob, ofs_len11, ↓reduceIte, k_cr, k_ci, k_oR, k_oN, k_aR, k_aN, and_true, true_and, and_self, eq_self, Nat.reduceLT, Nat.reduceLeDiff, Nat.reduceEqDiff, Nat.reduceAdd, Nat.reduceMul, Bool.true_eq_false, Bool.false_eq_true, Nat.add_sub_cancel, Nat.not_lt_zero, Nat.zero_le, k_sub, k_sb1, k_r, k_n, k_ret, k_t1, k_t0, k_nr, k_nn, k_z0, k_z1, k_zb, x_okI, lit_nI, k_in, k_cl, k_lt, k_le, k_eq, k_neg, nI_add, nI_mul, k_clt, k_cgt, k_cle, k_cge, k_ceq, bI_0, k_sh8, ne_eq, Nat.add_eq_zero_iff, Nat.one_ne_zero, Nat.succ_ne_zero, and_false, false_and, not_false_eq_true, not_true_eq_false, ite_true, ite_false, if_true, if_false, he, hle]
    rw [hn]
    rfl
  | a :: B, i, hi, hB, hn => by
    have hi : i + (B.length + 1) = e := hi
    have hle : ¬ e ≤ i := by omega
    have h0 := hB 0 a rfl
    rw [Nat.add_zero] at h0
    obtain ⟨g1, g2⟩ := h0
    have ih := m_tin_in d h M S k r e w hr he he7 B (i + 1) (by omega) (fun x a2 hx => by
      have := hB (x + 1) a2 hx
      rw [show i + 1 + x = i + (x + 1) by omega]
      exact this) hn
    rw [List.any_cons, q_190_51]
    unfold tA
    generalize a.1 = aw at *
    by_cases c1 : aw < nI 3
    · rw [decide_eq_true c1]
      simp (disch := omega) only [q_190_0, q_190_1, q_190_2, q_190_5, q_190_6, q_190_7, q_190_8, q_190_11, q_190_12, q_190_13, q_190_17, q_190_18, q_190_21, q_190_22, q_190_23, q_190_24, q_190_25, q_190_28, q_190_29, q_190_32, q_190_34, q_190_35, q_190_36, q_190_39, q_190_42, q_190_43, q_190_46, q_190_48, q_190_49, q_190_53, q_190_54, q_190_57, q_190_59, q_190_60, q_190_61, q_190_62, q_190_65, q_190_66, q_190_69, q_190_71, q_190_72, q_190_73, q_190_76, q_190_77, q_190_80, q_190_82, q_190_83, q_190_84, q_190_87, q_190_88, q_190_91, q_190_93, q_190_94, q_190_95, q_190_96, q_190_99, q_190_100, q_190_101, q_190_104, q_190_107, q_190_110, q_190_113, q_190_114, og_11_41, or_11_41, ow_11_41, og_11_43, or_11_43, ow_11_43, og_11_48, or_11_48, ow_11_48, og_11_50, or_11_50, ow_11_50, og_11_51, or_11_51, ow_11_51, o_is, o_ob, ofs_len11, ↓reduceIte, k_cr, k_ci, k_oR, k_oN, k_aR, k_aN, and_true, true_and, and_self, eq_self, Nat.reduceLT, Nat.reduceLeDiff, Nat.reduceEqDiff, Nat.reduceAdd, Nat.reduceMul, Bool.true_eq_false, Bool.false_eq_true, Nat.add_sub_cancel, Nat.not_lt_zero, Nat.zero_le, k_sub, k_sb1, k_r, k_n, k_ret, k_t1, k_t0, k_nr, k_nn, k_z0, k_z1, k_zb, x_okI, lit_nI, k_in, k_cl, k_lt, k_le, k_eq, k_neg, nI_add, nI_mul, k_clt, k_cgt, k_cle, k_cge, k_ceq, bI_0, k_sh8, ne_eq, Nat.add_eq_zero_iff, Nat.one_ne_zero, Nat.succ_ne_zero, and_false, false_and, not_false_eq_true, not_true_eq_false, ite_true, ite_false, if_true, if_false, he, hle, g1, c1]
      exact ih
    · rw [decide_eq_false c1]
      by_cases c2 : nI 5 < aw
      · rw [decide_eq_true c2]
        simp (disch := omega) only [q_190_0, q_190_1, q_190_2, q_190_5, q_190_6, q_190_7, q_190_8, q_190_11, q_190_12, q_190_13, q_190_17, q_190_18, q_190_21, q_190_22, q_190_23, q_190_24, q_190_25, q_190_28, q_190_29, q_190_32, q_190_34, q_190_35, q_190_36, q_190_39, q_190_42, q_190_43, q_190_46, q_190_48, q_190_49, q_190_53, q_190_54, q_190_57, q_190_59, q_190_60, q_190_61, q_190_62, q_190_65, q_190_66, q_190_69, q_190_71, q_190_72, q_190_73, q_190_76, q_190_77, q_190_80, q_190_82, q_190_83, q_190_84, q_190_87, q_190_88, q_190_91, q_190_93, q_190_94, q_190_95, q_190_96, q_190_99, q_190_100, q_190_101, q_190_104, q_190_107, q_190_110, q_190_113, q_190_114, og_11_41, or_11_41, ow_11_41, og_11_43, or_11_43, ow_11_43, og_11_48, or_11_48, ow_11_48, og_11_50, or_11_50, ow_11_50, og_11_51, or_11_51, ow_11_51, o_is, o_ob, ofs_len11, ↓reduceIte, k_cr, k_ci, k_oR, k_oN, k_aR, k_aN, and_true, true_and, and_self, eq_self, Nat.reduceLT, Nat.reduceLeDiff, Nat.reduceEqDiff, Nat.reduceAdd, Nat.reduceMul, Bool.true_eq_false, Bool.false_eq_true, Nat.add_sub_cancel, Nat.not_lt_zero, Nat.zero_le, k_sub, k_sb1, k_r, k_n, k_ret, k_t1, k_t0, k_nr, k_nn, k_z0, k_z1, k_zb, x_okI, lit_nI, k_in, k_cl, k_lt, k_le, k_eq, k_neg, nI_add, nI_mul, k_clt, k_cgt, k_cle, k_cge, k_ceq, bI_0, k_sh8, ne_eq, Nat.add_eq_zero_iff, Nat.one_ne_zero, Nat.succ_ne_zero, and_false, false_and, not_false_eq_true, not_true_eq_false, ite_true, ite_false, if_true, if_false, he, hle, g1, c1, c2]
        exact ih
      · rw [decide_eq_false c2]
        by_cases c3 : a.2.1 = w
        · rw [decide_eq_true c3]
          simp (disch := omega) only [q_190_0, q_190_1, q_190_2, q_190_5, q_190_6, q_190_7, q_190_8, q_190_11, q_190_12, q_190_13, q_190_17, q_190_18, q_190_21, q_190_22, q_190_23, q_190_24, q_190_25, q_190_28, q_190_29, q_190_32, q_190_34, q_190_35, q_190_36, q_190_39, q_190_42, q_190_43, q_190_46, q_190_48, q_190_49, q_190_53, q_190_54, q_190_57, q_190_59, q_190_60, q_190_61, q_190_62, q_190_65, q_190_66, q_190_69, q_190_71, q_190_72, q_190_73, q_190_76, q_190_77, q_190_80, q_190_82, q_190_83, q_190_84, q_190_87, q_190_88, q_190_91, q_190_93, q_190_94, q_190_95, q_190_96, q_190_99, q_190_100, q_190_101, q_190_104, q_190_107, q_190_110, q_190_113, q_190_114, og_11_41, or_11_41, ow_11_41, og_11_43, or_11_43, ow_11_43, og_11_48, or_11_48, ow_11_48, og_11_50, or_11_50, ow_11_50, og_11_51, or_11_51, ow_11_51, o_is, o_ob, ofs_len11, ↓reduceIte, k_cr, k_ci, k_oR, k_oN, k_aR, k_aN, and_true, true_and, and_self, eq_self, Nat.reduceLT, Nat.reduceLeDiff, Nat.reduceEqDiff, Nat.reduceAdd, Nat.reduceMul, Bool.true_eq_false, Bool.false_eq_true, Nat.add_sub_cancel, Nat.not_lt_zero, Nat.zero_le, k_sub, k_sb1, k_r, k_n, k_ret, k_t1, k_t0, k_nr, k_nn, k_z0, k_z1, k_zb, x_okI, lit_nI, k_in, k_cl, k_lt, k_le, k_eq, k_neg, nI_add, nI_mul, k_clt, k_cgt, k_cle, k_cge, k_ceq, bI_0, k_sh8, ne_eq, Nat.add_eq_zero_iff, Nat.one_ne_zero, Nat.succ_ne_zero, and_false, false_and, not_false_eq_true, not_true_eq_false, ite_true, ite_false, if_true, if_false, he, hle, g1, g2, c1, c2, c3]
          rfl
        · rw [decide_eq_false c3]
          simp (disch := omega) only [q_190_0, q_190_1, q_190_2, q_190_5, q_190_6, q_190_7, q_190_8, q_190_11, q_190_12, q_190_13, q_190_17, q_190_18, q_190_21, q_190_22, q_190_23, q_190_24, q_190_25, q_190_28, q_190_29, q_190_32, q_190_34, q_190_35, q_190_36, q_190_39, q_190_42, q_190_43, q_190_46, q_190_48, q_190_49, q_190_53, q_190_54, q_190_57, q_190_59, q_190_60, q_190_61, q_190_62, q_190_65, q_190_66, q_190_69, q_190_71, q_190_72, q_190_73, q_190_76, q_190_77, q_190_80, q_190_82, q_190_83, q_190_84, q_190_87, q_190_88, q_190_91, q_190_93, q_190_94, q_190_95, q_190_96, q_190_99, q_190_100, q_190_101, q_190_104, q_190_107, q_190_110, q_190_113, q_190_114, og_11_41, or_11_41, ow_11_41, og_11_43, or_11_43, ow_11_43, og_11_48, or_11_48, ow_11_48, og_11_50, or_11_50, ow_11_50, og_11_51, or_11_51, ow_11_51, o_is, o_ob, ofs_len11, ↓reduceIte, k_cr, k_ci, k_oR, k_oN, k_aR, k_aN, and_true, true_and, and_self, eq_self, Nat.reduceLT, Nat.reduceLeDiff, Nat.reduceEqDiff, Nat.reduceAdd, Nat.reduceMul, Bool.true_eq_false, Bool.false_eq_true, Nat.add_sub_cancel, Nat.not_lt_zero, Nat.zero_le, k_sub, k_sb1, k_r, k_n, k_ret, k_t1, k_t0, k_nr, k_nn, k_z0, k_z1, k_zb, x_okI, lit_nI, k_in, k_cl, k_lt, k_le, k_eq, k_neg, nI_add, nI_mul, k_clt, k_cgt, k_cle, k_cge, k_ceq, bI_0, k_sh8, ne_eq, Nat.add_eq_zero_iff, Nat.one_ne_zero, Nat.succ_ne_zero, and_false, false_and, not_false_eq_true, not_true_eq_false, ite_true, ite_false, if_true, if_false, he, hle, g1, g2, c1, c2, c3]
          exact ih
theorem m_tin_loop (d : Nat) (h : xH) (M : Nat) (S : gS) (k e : Nat) (w : Int64) (af : Nat → Nat) (b0 : Nat) (hk : k < 699) (he : sA S 41 (k + 1) = nI e) (he7 : e ≤ 699) : ∀ (R : List rT) (i : Nat) (l5 : Nat × Value), b0 + i + R.length = e → (∀ q, q ≤ R.length → sA S 48 (b0 + (i + q)) = nI (af (i + q)) ∧ af (i + q) ≤ 700) → (∀ q r, R[q]? = some r → rAt S (b0 + (i + q)) r ∧ r.1 ≤ 2 ∧ af (i + q + 1) = af (i + q) + r.2.2.2.2.2.length ∧ ∀ x a, r.2.2.2.2.2[x]? = some a → sA S 50 (af (i + q) + x) = a.1 ∧ sL S 51 (af (i + q) + x) = a.2.1) → xrun d 190 15 [(1, .ref M), (1, .int (nI k)), (2, .long w), (0, .null), (1, .int (nI (b0 + i))), l5] [] (oh 11 h M S) = some (some (.int (bI (R.any (tR w)))), oh 11 h M S)
  | [], i, l5, hi, hq, hR => by
    have hle : e ≤ b0 + i := by
      have : b0 + i = e := hi
      omega
    rw [q_190_15]
    simp (disch := omega) only [q_190_0, q_190_1, q_190_2, q_190_5, q_190_6, q_190_7, q_190_8, q_190_11, q_190_12, q_190_13, q_190_17, q_190_18, q_190_21, q_190_22, q_190_23, q_190_24, q_190_25, q_190_28, q_190_29, q_190_32, q_190_34, q_190_35, q_190_36, q_190_39, q_190_42, q_190_43, q_190_46, q_190_48, q_190_49, q_190_53, q_190_54, q_190_57, q_190_59, q_190_60, q_190_61, q_190_62, q_190_65, q_190_66, q_190_69, q_190_71, q_190_72, q_190_73, q_190_76, q_190_77, q_190_80, q_190_82, q_190_83, q_190_84, q_190_87, q_190_88, q_190_91, q_190_93, q_190_94, q_190_95, q_190_96, q_190_99, q_190_100, q_190_101, q_190_104, q_190_107, q_190_110, q_190_113, q_190_114, og_11_41, or_11_41, ow_11_41, og_11_43, or_11_43, ow_11_43, og_11_48, or_11_48, ow_11_48, og_11_50, or_11_50, ow_11_50, og_11_51, or_11_51, ow_11_51, o_is, o_ob, ofs_len11, ↓reduceIte, k_cr, k_ci, k_oR, k_oN, k_aR, k_aN, and_true, true_and, and_self, eq_self, Nat.reduceLT, Nat.reduceLeDiff, Nat.reduceEqDiff, Nat.reduceAdd, Nat.reduceMul, Bool.true_eq_false, Bool.false_eq_true, Nat.add_sub_cancel, Nat.not_lt_zero, Nat.zero_le, k_sub, k_sb1, k_r, k_n, k_ret, k_t1, k_t0, k_nr, k_nn, k_z0, k_z1, k_zb, x_okI, lit_nI, k_in, k_cl, k_lt, k_le, k_eq, k_neg, nI_add, nI_mul, k_clt, k_cgt, k_cle, k_cge, k_ceq, bI_0, k_sh8, ne_eq, Nat.add_eq_zero_iff, Nat.one_ne_zero, Nat.succ_ne_zero, and_false, false_and, not_false_eq_true, not_true_eq_false, ite_true, ite_false, if_true, if_false, he, hle]
    rfl
  | r :: R, i, l5, hi, hq, hR => by
    have hi : b0 + i + (R.length + 1) = e := hi
    have hle : ¬ e ≤ b0 + i := by omega
    have h0 := hR 0 r rfl
    rw [Nat.add_zero] at h0
    obtain ⟨g1, g2, g3, g4⟩ := h0
    have q0 := hq 0 (Nat.zero_le _)
    rw [Nat.add_zero] at q0
    have q1 := hq 1 (by show 1 ≤ R.length + 1; omega)
    have ih := fun l5 => m_tin_loop d h M S k e w af b0 hk he he7 R (i + 1) l5 (by omega) (fun q hq2 => by
      have := hq (q + 1) (by show q + 1 ≤ R.length + 1; omega)
      rw [show i + 1 + q = i + (q + 1) by omega]
      exact this) (fun q r2 hq2 => by
      have := hR (q + 1) r2 hq2
      rw [show i + 1 + q = i + (q + 1) by omega]
      exact this)
    have k43 := g1.1
    rw [List.any_cons]
    by_cases c1 : r.1 = 2
    · have et : tR w r = false := by
        unfold tR
        rw [decide_eq_true c1]
        rfl
      rw [et, Bool.false_or, q_190_15]
      simp (disch := omega) only [q_190_0, q_190_1, q_190_2, q_190_5, q_190_6, q_190_7, q_190_8, q_190_11, q_190_12, q_190_13, q_190_17, q_190_18, q_190_21, q_190_22, q_190_23, q_190_24, q_190_25, q_190_28, q_190_29, q_190_32, q_190_34, q_190_35, q_190_36, q_190_39, q_190_42, q_190_43, q_190_46, q_190_48, q_190_49, q_190_53, q_190_54, q_190_57, q_190_59, q_190_60, q_190_61, q_190_62, q_190_65, q_190_66, q_190_69, q_190_71, q_190_72, q_190_73, q_190_76, q_190_77, q_190_80, q_190_82, q_190_83, q_190_84, q_190_87, q_190_88, q_190_91, q_190_93, q_190_94, q_190_95, q_190_96, q_190_99, q_190_100, q_190_101, q_190_104, q_190_107, q_190_110, q_190_113, q_190_114, og_11_41, or_11_41, ow_11_41, og_11_43, or_11_43, ow_11_43, og_11_48, or_11_48, ow_11_48, og_11_50, or_11_50, ow_11_50, og_11_51, or_11_51, ow_11_51, o_is, o_ob, ofs_len11, ↓reduceIte, k_cr, k_ci, k_oR, k_oN, k_aR, k_aN, and_true, true_and, and_self, eq_self, Nat.reduceLT, Nat.reduceLeDiff, Nat.reduceEqDiff, Nat.reduceAdd, Nat.reduceMul, Bool.true_eq_false, Bool.false_eq_true, Nat.add_sub_cancel, Nat.not_lt_zero, Nat.zero_le, k_sub, k_sb1, k_r, k_n, k_ret, k_t1, k_t0, k_nr, k_nn, k_z0, k_z1, k_zb, x_okI, lit_nI, k_in, k_cl, k_lt, k_le, k_eq, k_neg, nI_add, nI_mul, k_clt, k_cgt, k_cle, k_cge, k_ceq, bI_0, k_sh8, ne_eq, Nat.add_eq_zero_iff, Nat.one_ne_zero, Nat.succ_ne_zero, and_false, false_and, not_false_eq_true, not_true_eq_false, ite_true, ite_false, if_true, if_false, he, hle, k43, c1]
      exact ih _
    · have et : tR w r = r.2.2.2.2.2.any (tA w) := by
        unfold tR
        rw [decide_eq_false c1]
        rfl
      have e1 := m_tin_in d h M S k (b0 + i) (af (i + 1)) w (by omega) (by rw [show b0 + i + 1 = b0 + (i + 1) by omega]; exact q1.1) q1.2 r.2.2.2.2.2 (af i) (by omega) g4 (fun l5 => by
        rw [show b0 + i + 1 = b0 + (i + 1) by omega]
        exact ih l5)
      have q00 := q0.1
      rw [et, q_190_15]
      simp (disch := omega) only [q_190_0, q_190_1, q_190_2, q_190_5, q_190_6, q_190_7, q_190_8, q_190_11, q_190_12, q_190_13, q_190_17, q_190_18, q_190_21, q_190_22, q_190_23, q_190_24, q_190_25, q_190_28, q_190_29, q_190_32, q_190_34, q_190_35, q_190_36, q_190_39, q_190_42, q_190_43, q_190_46, q_190_48, q_190_49, q_190_53, q_190_54, q_190_57, q_190_59, q_190_60, q_190_61, q_190_62, q_190_65, q_190_66, q_190_69, q_190_71, q_190_72, q_190_73, q_190_76, q_190_77, q_190_80, q_190_82, q_190_83, q_190_84, q_190_87, q_190_88, q_190_91, q_190_93, q_190_94, q_190_95, q_190_96, q_190_99, q_190_100, q_190_101, q_190_104, q_190_107, q_190_110, q_190_113, q_190_114, og_11_41, or_11_41, ow_11_41, og_11_43, or_11_43, ow_11_43, og_11_48, or_11_48, ow_11_48, og_11_50, or_11_50, ow_11_50, og_11_51, or_11_51, ow_11_51, o_is, o_ob, ofs_len11, ↓reduceIte, k_cr, k_ci, k_oR, k_oN, k_aR, k_aN, and_true, true_and, and_self, eq_self, Nat.reduceLT, Nat.reduceLeDiff, Nat.reduceEqDiff, Nat.reduceAdd, Nat.reduceMul, Bool.true_eq_false, Bool.false_eq_true, Nat.add_sub_cancel, Nat.not_lt_zero, Nat.zero_le, k_sub, k_sb1, k_r, k_n, k_ret, k_t1, k_t0, k_nr, k_nn, k_z0, k_z1, k_zb, x_okI, lit_nI, k_in, k_cl, k_lt, k_le, k_eq, k_neg, nI_add, nI_mul, k_clt, k_cgt, k_cle, k_cge, k_ceq, bI_0, k_sh8, ne_eq, Nat.add_eq_zero_iff, Nat.one_ne_zero, Nat.succ_ne_zero, and_false, false_and, not_false_eq_true, not_true_eq_false, ite_true, ite_false, if_true, if_false, he, hle, k43, c1, q00]
      rw [e1]
      by_cases c2 : r.2.2.2.2.2.any (tA w) = true
      · rw [if_pos c2, c2]
        rfl
      · rw [if_neg c2, Bool.eq_false_iff.mpr c2, Bool.false_or]
theorem m_isToldIn (d : Nat) (h : xH) (M : Nat) (S : gS) {k : Option Nat} {b0 : Nat} {af : Nat → Nat} {R : List rT} (w : Int64) (hk : rkO S k b0 af R) : xm (d + 1) 190 [.ref M, .int (oI k), .long w] (oh 11 h M S) = some (some (.int (bI (R.any (tR w)))), oh 11 h M S) := by
  rw [E_190 _ _ _ _ _ rfl]
  cases k with
  | none =>
    have hk : R = [] := hk
    subst hk
    show xrun d 190 0 [(1, .ref M), (1, .int (-nI 1)), (2, .long w), (0, .null), (0, .null), (0, .null)] [] (oh 11 h M S) = some (some (.int (nI 0)), oh 11 h M S)
    simp (disch := omega) only [q_190_0, q_190_1, q_190_2, q_190_5, q_190_6, q_190_7, q_190_8, q_190_11, q_190_12, q_190_13, q_190_17, q_190_18, q_190_21, q_190_22, q_190_23, q_190_24, q_190_25, q_190_28, q_190_29, q_190_32, q_190_34, q_190_35, q_190_36, q_190_39, q_190_42, q_190_43, q_190_46, q_190_48, q_190_49, q_190_53, q_190_54, q_190_57, q_190_59, q_190_60, q_190_61, q_190_62, q_190_65, q_190_66, q_190_69, q_190_71, q_190_72, q_190_73, q_190_76, q_190_77, q_190_80, q_190_82, q_190_83, q_190_84, q_190_87, q_190_88, q_190_91, q_190_93, q_190_94, q_190_95, q_190_96, q_190_99, q_190_100, q_190_101, q_190_104, q_190_107, q_190_110, q_190_113, q_190_114, og_11_41, or_11_41, ow_11_41, og_11_43, or_11_43, ow_11_43, og_11_48, or_11_48, ow_11_48, og_11_50, or_11_50, ow_11_50, og_11_51, or_11_51, ow_11_51, o_is, o_ob, ofs_len11, ↓reduceIte, k_cr, k_ci, k_oR, k_oN, k_aR, k_aN, and_true, true_and, and_self, eq_self, Nat.reduceLT, Nat.reduceLeDiff, Nat.reduceEqDiff, Nat.reduceAdd, Nat.reduceMul, Bool.true_eq_false, Bool.false_eq_true, Nat.add_sub_cancel, Nat.not_lt_zero, Nat.zero_le, k_sub, k_sb1, k_r, k_n, k_ret, k_t1, k_t0, k_nr, k_nn, k_z0, k_z1, k_zb, x_okI, lit_nI, k_in, k_cl, k_lt, k_le, k_eq, k_neg, nI_add, nI_mul, k_clt, k_cgt, k_cle, k_cge, k_ceq, bI_0, k_sh8, ne_eq, Nat.add_eq_zero_iff, Nat.one_ne_zero, Nat.succ_ne_zero, and_false, false_and, not_false_eq_true, not_true_eq_false, ite_true, ite_false, if_true, if_false]
  | some k =>
    obtain ⟨h1, h2, h3, h4⟩ := hk
    have e := m_tin_loop d h M S k (b0 + R.length) w af b0 h1 h3 h4.1 R 0 (0, .null) rfl (fun q hq => by
      rw [Nat.zero_add]
      exact h4.2.1 q hq) (fun q r hq => by
      rw [Nat.zero_add]
      exact h4.2.2 q r hq)
    rw [Nat.add_zero] at e
    show xrun d 190 0 [(1, .ref M), (1, .int (nI k)), (2, .long w), (0, .null), (0, .null), (0, .null)] [] (oh 11 h M S) = _
    simp (disch := omega) only [q_190_0, q_190_1, q_190_2, q_190_5, q_190_6, q_190_7, q_190_8, q_190_11, q_190_12, q_190_13, q_190_17, q_190_18, q_190_21, q_190_22, q_190_23, q_190_24, q_190_25, q_190_28, q_190_29, q_190_32, q_190_34, q_190_35, q_190_36, q_190_39, q_190_42, q_190_43, q_190_46, q_190_48, q_190_49, q_190_53, q_190_54, q_190_57, q_190_59, q_190_60, q_190_61, q_190_62, q_190_65, q_190_66, q_190_69, q_190_71, q_190_72, q_190_73, q_190_76, q_190_77, q_190_80, q_190_82, q_190_83, q_190_84, q_190_87, q_190_88, q_190_91, q_190_93, q_190_94, q_190_95, q_190_96, q_190_99, q_190_100, q_190_101, q_190_104, q_190_107, q_190_110, q_190_113, q_190_114, og_11_41, or_11_41, ow_11_41, og_11_43, or_11_43, ow_11_43, og_11_48, or_11_48, ow_11_48, og_11_50, or_11_50, ow_11_50, og_11_51, or_11_51, ow_11_51, o_is, o_ob, ofs_len11, ↓reduceIte, k_cr, k_ci, k_oR, k_oN, k_aR, k_aN, and_true, true_and, and_self, eq_self, Nat.reduceLT, Nat.reduceLeDiff, Nat.reduceEqDiff, Nat.reduceAdd, Nat.reduceMul, Bool.true_eq_false, Bool.false_eq_true, Nat.add_sub_cancel, Nat.not_lt_zero, Nat.zero_le, k_sub, k_sb1, k_r, k_n, k_ret, k_t1, k_t0, k_nr, k_nn, k_z0, k_z1, k_zb, x_okI, lit_nI, k_in, k_cl, k_lt, k_le, k_eq, k_neg, nI_add, nI_mul, k_clt, k_cgt, k_cle, k_cge, k_ceq, bI_0, k_sh8, ne_eq, Nat.add_eq_zero_iff, Nat.one_ne_zero, Nat.succ_ne_zero, and_false, false_and, not_false_eq_true, not_true_eq_false, ite_true, ite_false, if_true, if_false, h2, e]
/-- the old MEMBER that a new one takes by its NAME, of the reference -/
def smO (o : Option Nat) (ro : Nat → Bool) (rn : Bool) (R : List rT) (w : Int64) : Option Nat := match o with
  | none => none
  | some q => if ro q = rn ∧ fnR 2 w R 0 = none ∧ fnR 1 w R 0 = none then some q else none
theorem fnR_b (kd : Nat) (w : Int64) : ∀ (R : List rT) (i j : Nat), fnR kd w R i = none ↔ fnR kd w R j = none
  | [], i, j => ⟨fun _ => rfl, fun _ => rfl⟩
  | r :: R, i, j => by
    show (if r.1 = kd ∧ r.2.1 = w then some i else fnR kd w R (i + 1)) = none ↔ (if r.1 = kd ∧ r.2.1 = w then some j else fnR kd w R (j + 1)) = none
    by_cases c : r.1 = kd ∧ r.2.1 = w
    · rw [if_pos c, if_pos c]
      exact ⟨fun z => (by cases z), fun z => by cases z⟩
    · rw [if_neg c, if_neg c]
      exact fnR_b kd w R (i + 1) (j + 1)
theorem fnR_lt (kd : Nat) (w : Int64) : ∀ (R : List rT) (i j : Nat), fnR kd w R i = some j → i ≤ j ∧ j < i + R.length
  | [], i, j, h => by cases h
  | r :: R, i, j, h => by
    have h : (if r.1 = kd ∧ r.2.1 = w then some i else fnR kd w R (i + 1)) = some j := h
    show i ≤ j ∧ j < i + (R.length + 1)
    split at h
    · cases h
      omega
    · have := fnR_lt kd w R (i + 1) j h
      omega
theorem oI_neg {o : Option Nat} (h : ∀ i, o = some i → i < 2147483648) : (oI o = -nI 1) = (o = none) := oI_n o h
theorem m_sameOf (d : Nat) (h : xH) (M : Nat) (S : gS) {f t c e m nO : Nat} {k : Option Nat} {b0 : Nat} {af : Nat → Nat} {R : List rT} {ro : Nat → Bool} {rn : Bool} (hf : f < 8) (ht : t < 8) (hc : c < 6) (he : e < 6) (hm : m < 8) (hn : sA S 2 (6 * f + c) = nI nO) (h8 : nO ≤ 8) (hro : ∀ q, q < 8 → sA S 5 (8 * (6 * f + c) + q) = bI (ro q)) (hrn : sA S 5 (8 * (6 * t + e) + m) = bI rn) (hk : rkO S k b0 af R) (hb : b0 + R.length ≤ 699) : xm (d + 2) 188 [.ref M, .int (nI f), .int (nI t), .int (nI c), .int (nI e), .int (nI m), .int (oI k)] (oh 11 h M S) = some (some (.int (oI (smO (eMs S f c nO (sL S 3 (8 * (6 * t + e) + m))) ro rn R (sL S 3 (8 * (6 * t + e) + m))))), oh 11 h M S) := by
  generalize hw : sL S 3 (8 * (6 * t + e) + m) = w at *
  have eF := m_findMember d h M S f c nO w hf hc hn h8
  have e2 := m_ruleOf d h M S 2 w hk (by omega)
  have e1 := m_ruleOf d h M S 1 w hk (by omega)
  have eR := m_rowOf d h M S t e m ht he hm rn hrn
  rw [E_188 _ _ _ _ _ _ _ _ _ rfl]
  rw [show fnd (fun i => sL S 3 (8 * (6 * f + c) + i)) w nO = eMs S f c nO w from rfl] at eF
  generalize oI k = kv at *
  cases hq : eMs S f c nO w with
  | none =>
    rw [hq] at eF
    have eF : xm (d + 1) 133 [.ref M, .int (nI f), .int (nI c), .long w] (oh 11 h M S) = some (some (.int (-nI 1)), oh 11 h M S) := eF
    show _ = some (some (Value.int (-nI 1)), oh 11 h M S)
    simp (disch := omega) only [q_188_0, q_188_1, q_188_4, q_188_6, q_188_8, q_188_9, q_188_10, q_188_12, q_188_13, q_188_14, q_188_16, q_188_17, q_188_18, q_188_20, q_188_21, q_188_22, q_188_23, q_188_25, q_188_28, q_188_30, q_188_32, q_188_33, q_188_36, q_188_37, q_188_38, q_188_39, q_188_41, q_188_44, q_188_45, q_188_46, q_188_48, q_188_50, q_188_53, q_188_56, q_188_57, q_188_59, q_188_60, q_188_62, q_188_65, q_188_66, q_188_69, q_188_70, q_188_72, q_188_73, q_188_75, q_188_78, q_188_79, q_188_82, q_188_83, q_188_84, q_188_86, og_11_3, or_11_3, ow_11_3, o_is, o_ob, ofs_len11, ↓reduceIte, k_cr, k_ci, k_oR, k_oN, k_aR, k_aN, and_true, true_and, and_self, eq_self, Nat.reduceLT, Nat.reduceLeDiff, Nat.reduceEqDiff, Nat.reduceAdd, Nat.reduceMul, Bool.true_eq_false, Bool.false_eq_true, Nat.add_sub_cancel, Nat.not_lt_zero, Nat.zero_le, k_sub, k_sb1, k_r, k_n, k_ret, k_t1, k_t0, k_nr, k_nn, k_z0, k_z1, k_zb, x_okI, lit_nI, k_in, k_cl, k_lt, k_le, k_eq, k_neg, nI_add, nI_mul, k_clt, k_cgt, k_cle, k_cge, k_ceq, bI_0, k_sh8, ne_eq, Nat.add_eq_zero_iff, Nat.one_ne_zero, Nat.succ_ne_zero, and_false, false_and, not_false_eq_true, not_true_eq_false, ite_true, ite_false, if_true, if_false, hw, eF]
  | some q =>
    have hq8 : q < nO := (fnd_lt (f := fun i => sL S 3 (8 * (6 * f + c) + i)) hq).1
    rw [hq] at eF
    have eF : xm (d + 1) 133 [.ref M, .int (nI f), .int (nI c), .long w] (oh 11 h M S) = some (some (.int (nI q)), oh 11 h M S) := eF
    have eO := m_rowOf d h M S f c q hf hc (by omega) (ro q) (hro q (by omega))
    have nq : ¬ nI q = -nI 1 := by
      rw [k_neg (by omega)]
      exact fun z => z
    show _ = some (some (Value.int (oI (if ro q = rn ∧ fnR 2 w R 0 = none ∧ fnR 1 w R 0 = none then some q else none))), oh 11 h M S)
    have hb2 := fnR_b 2 w R b0 0
    have hb1 := fnR_b 1 w R b0 0
    have neg1 : ∀ (kd : Nat) (o : Option Nat), fnR kd w R b0 = o → (oI o = -nI 1) = (o = none) := fun kd o ho => oI_neg (fun i hi => by
      have := fnR_lt kd w R b0 i (ho.trans hi)
      omega)
    by_cases c1 : ro q = rn
    · have b1 : bI (ro q) = bI rn := by rw [c1]
      cases h2 : fnR 2 w R b0 with
      | some x =>
        have := neg1 2 _ h2
        rw [h2] at e2
        have n2 : ¬ oI (some x) = -nI 1 := by
          rw [this]
          exact fun z => by cases z
        rw [if_neg (fun z => by
          have := hb2.mpr z.2.1
          rw [h2] at this
          cases this)]
        generalize oI (some x) = ox at *
        show _ = some (some (Value.int (-nI 1)), oh 11 h M S)
        simp (disch := omega) only [q_188_0, q_188_1, q_188_4, q_188_6, q_188_8, q_188_9, q_188_10, q_188_12, q_188_13, q_188_14, q_188_16, q_188_17, q_188_18, q_188_20, q_188_21, q_188_22, q_188_23, q_188_25, q_188_28, q_188_30, q_188_32, q_188_33, q_188_36, q_188_37, q_188_38, q_188_39, q_188_41, q_188_44, q_188_45, q_188_46, q_188_48, q_188_50, q_188_53, q_188_56, q_188_57, q_188_59, q_188_60, q_188_62, q_188_65, q_188_66, q_188_69, q_188_70, q_188_72, q_188_73, q_188_75, q_188_78, q_188_79, q_188_82, q_188_83, q_188_84, q_188_86, og_11_3, or_11_3, ow_11_3, o_is, o_ob, ofs_len11, ↓reduceIte, k_cr, k_ci, k_oR, k_oN, k_aR, k_aN, and_true, true_and, and_self, eq_self, Nat.reduceLT, Nat.reduceLeDiff, Nat.reduceEqDiff, Nat.reduceAdd, Nat.reduceMul, Bool.true_eq_false, Bool.false_eq_true, Nat.add_sub_cancel, Nat.not_lt_zero, Nat.zero_le, k_sub, k_sb1, k_r, k_n, k_ret, k_t1, k_t0, k_nr, k_nn, k_z0, k_z1, k_zb, x_okI, lit_nI, k_in, k_cl, k_lt, k_le, k_eq, k_neg, nI_add, nI_mul, k_clt, k_cgt, k_cle, k_cge, k_ceq, bI_0, k_sh8, ne_eq, Nat.add_eq_zero_iff, Nat.one_ne_zero, Nat.succ_ne_zero, and_false, false_and, not_false_eq_true, not_true_eq_false, ite_true, ite_false, if_true, if_false, hw, eF, nq, eO, eR, b1, e2, n2]
      | none =>
        rw [h2] at e2
        have e2 : xm (d + 1) 177 [.ref M, .int kv, .int (nI 2), .long w] (oh 11 h M S) = some (some (.int (-nI 1)), oh 11 h M S) := e2
        cases h1 : fnR 1 w R b0 with
        | some x =>
          have := neg1 1 _ h1
          rw [h1] at e1
          have n1 : ¬ oI (some x) = -nI 1 := by
            rw [this]
            exact fun z => by cases z
          rw [if_neg (fun z => by
            have := hb1.mpr z.2.2
            rw [h1] at this
            cases this)]
          generalize oI (some x) = ox at *
          show _ = some (some (Value.int (-nI 1)), oh 11 h M S)
          simp (disch := omega) only [q_188_0, q_188_1, q_188_4, q_188_6, q_188_8, q_188_9, q_188_10, q_188_12, q_188_13, q_188_14, q_188_16, q_188_17, q_188_18, q_188_20, q_188_21, q_188_22, q_188_23, q_188_25, q_188_28, q_188_30, q_188_32, q_188_33, q_188_36, q_188_37, q_188_38, q_188_39, q_188_41, q_188_44, q_188_45, q_188_46, q_188_48, q_188_50, q_188_53, q_188_56, q_188_57, q_188_59, q_188_60, q_188_62, q_188_65, q_188_66, q_188_69, q_188_70, q_188_72, q_188_73, q_188_75, q_188_78, q_188_79, q_188_82, q_188_83, q_188_84, q_188_86, og_11_3, or_11_3, ow_11_3, o_is, o_ob, ofs_len11, ↓reduceIte, k_cr, k_ci, k_oR, k_oN, k_aR, k_aN, and_true, true_and, and_self, eq_self, Nat.reduceLT, Nat.reduceLeDiff, Nat.reduceEqDiff, Nat.reduceAdd, Nat.reduceMul, Bool.true_eq_false, Bool.false_eq_true, Nat.add_sub_cancel, Nat.not_lt_zero, Nat.zero_le, k_sub, k_sb1, k_r, k_n, k_ret, k_t1, k_t0, k_nr, k_nn, k_z0, k_z1, k_zb, x_okI, lit_nI, k_in, k_cl, k_lt, k_le, k_eq, k_neg, nI_add, nI_mul, k_clt, k_cgt, k_cle, k_cge, k_ceq, bI_0, k_sh8, ne_eq, Nat.add_eq_zero_iff, Nat.one_ne_zero, Nat.succ_ne_zero, and_false, false_and, not_false_eq_true, not_true_eq_false, ite_true, ite_false, if_true, if_false, hw, eF, nq, eO, eR, b1, e2, e1, n1]
        | none =>
          rw [h1] at e1
          have e1 : xm (d + 1) 177 [.ref M, .int kv, .int (nI 1), .long w] (oh 11 h M S) = some (some (.int (-nI 1)), oh 11 h M S) := e1
          rw [if_pos ⟨c1, hb2.mp h2, hb1.mp h1⟩]
          show _ = some (some (Value.int (nI q)), oh 11 h M S)
          simp (disch := omega) only [q_188_0, q_188_1, q_188_4, q_188_6, q_188_8, q_188_9, q_188_10, q_188_12, q_188_13, q_188_14, q_188_16, q_188_17, q_188_18, q_188_20, q_188_21, q_188_22, q_188_23, q_188_25, q_188_28, q_188_30, q_188_32, q_188_33, q_188_36, q_188_37, q_188_38, q_188_39, q_188_41, q_188_44, q_188_45, q_188_46, q_188_48, q_188_50, q_188_53, q_188_56, q_188_57, q_188_59, q_188_60, q_188_62, q_188_65, q_188_66, q_188_69, q_188_70, q_188_72, q_188_73, q_188_75, q_188_78, q_188_79, q_188_82, q_188_83, q_188_84, q_188_86, og_11_3, or_11_3, ow_11_3, o_is, o_ob, ofs_len11, ↓reduceIte, k_cr, k_ci, k_oR, k_oN, k_aR, k_aN, and_true, true_and, and_self, eq_self, Nat.reduceLT, Nat.reduceLeDiff, Nat.reduceEqDiff, Nat.reduceAdd, Nat.reduceMul, Bool.true_eq_false, Bool.false_eq_true, Nat.add_sub_cancel, Nat.not_lt_zero, Nat.zero_le, k_sub, k_sb1, k_r, k_n, k_ret, k_t1, k_t0, k_nr, k_nn, k_z0, k_z1, k_zb, x_okI, lit_nI, k_in, k_cl, k_lt, k_le, k_eq, k_neg, nI_add, nI_mul, k_clt, k_cgt, k_cle, k_cge, k_ceq, bI_0, k_sh8, ne_eq, Nat.add_eq_zero_iff, Nat.one_ne_zero, Nat.succ_ne_zero, and_false, false_and, not_false_eq_true, not_true_eq_false, ite_true, ite_false, if_true, if_false, hw, eF, nq, eO, eR, b1, e2, e1]
    · have b1 : ¬ bI (ro q) = bI rn := by
        intro z
        apply c1
        cases hx : ro q <;> cases hy : rn <;> rw [hx, hy] at z <;> first | rfl | exact absurd z (by decide)
      rw [if_neg (fun z => c1 z.1)]
      show _ = some (some (Value.int (-nI 1)), oh 11 h M S)
      simp (disch := omega) only [q_188_0, q_188_1, q_188_4, q_188_6, q_188_8, q_188_9, q_188_10, q_188_12, q_188_13, q_188_14, q_188_16, q_188_17, q_188_18, q_188_20, q_188_21, q_188_22, q_188_23, q_188_25, q_188_28, q_188_30, q_188_32, q_188_33, q_188_36, q_188_37, q_188_38, q_188_39, q_188_41, q_188_44, q_188_45, q_188_46, q_188_48, q_188_50, q_188_53, q_188_56, q_188_57, q_188_59, q_188_60, q_188_62, q_188_65, q_188_66, q_188_69, q_188_70, q_188_72, q_188_73, q_188_75, q_188_78, q_188_79, q_188_82, q_188_83, q_188_84, q_188_86, og_11_3, or_11_3, ow_11_3, o_is, o_ob, ofs_len11, ↓reduceIte, k_cr, k_ci, k_oR, k_oN, k_aR, k_aN, and_true, true_and, and_self, eq_self, Nat.reduceLT, Nat.reduceLeDiff, Nat.reduceEqDiff, Nat.reduceAdd, Nat.reduceMul, Bool.true_eq_false, Bool.false_eq_true, Nat.add_sub_cancel, Nat.not_lt_zero, Nat.zero_le, k_sub, k_sb1, k_r, k_n, k_ret, k_t1, k_t0, k_nr, k_nn, k_z0, k_z1, k_zb, x_okI, lit_nI, k_in, k_cl, k_lt, k_le, k_eq, k_neg, nI_add, nI_mul, k_clt, k_cgt, k_cle, k_cge, k_ceq, bI_0, k_sh8, ne_eq, Nat.add_eq_zero_iff, Nat.one_ne_zero, Nat.succ_ne_zero, and_false, false_and, not_false_eq_true, not_true_eq_false, ite_true, ite_false, if_true, if_false, hw, eF, nq, eO, eR, b1]
def rfS (S : gS) (why : Nat) (cl mb st : Int32) (key : Int64) : gS := uJ (uJ (uI (uI (uI (uI (uI S 24 (nI 1)) 18 (nI why)) 19 cl) 20 mb) 21 st) 22 key) 23 0
theorem m_refuse (d : Nat) (h : xH) (M : Nat) (S : gS) {why v : Nat} {mb st : Int32} (hw : why < 100) (hv : v < 180) : xm (d + 1) 175 [.ref M, .int (nI why), .int (nI v), .int mb, .int st] (oh 11 h M S) = some (some (.int (nI 0)), oh 11 h M (rfS S why (if why = 3 then -nI 1 else sA S 9 v) mb st (sL S 8 v))) := by
  rw [E_175 _ _ _ _ _ _ _ rfl]
  unfold rfS
  by_cases c : why = 3
  · rw [if_pos c]
    simp (disch := omega) only [q_175_0, q_175_1, q_175_2, q_175_5, q_175_6, q_175_7, q_175_10, q_175_11, q_175_12, q_175_13, q_175_16, q_175_17, q_175_20, q_175_21, q_175_24, q_175_25, q_175_26, q_175_29, q_175_30, q_175_31, q_175_34, q_175_35, q_175_37, q_175_40, q_175_41, q_175_42, q_175_45, q_175_46, q_175_47, q_175_50, q_175_51, q_175_52, q_175_55, q_175_56, og_11_24, op_11_24, og_11_18, op_11_18, og_11_9, or_11_9, ow_11_9, og_11_19, op_11_19, og_11_20, op_11_20, og_11_21, op_11_21, og_11_8, or_11_8, ow_11_8, og_11_22, op_11_22, og_11_23, op_11_23, o_is, o_ob, ofs_len11, ↓reduceIte, k_cr, k_ci, k_oR, k_oN, k_aR, k_aN, and_true, true_and, and_self, eq_self, Nat.reduceLT, Nat.reduceLeDiff, Nat.reduceEqDiff, Nat.reduceAdd, Nat.reduceMul, Bool.true_eq_false, Bool.false_eq_true, Nat.add_sub_cancel, Nat.not_lt_zero, Nat.zero_le, k_sub, k_sb1, k_r, k_n, k_ret, k_t1, k_t0, k_nr, k_nn, k_z0, k_z1, k_zb, x_okI, lit_nI, k_in, k_cl, k_lt, k_le, k_eq, k_neg, nI_add, nI_mul, k_clt, k_cgt, k_cle, k_cge, k_ceq, bI_0, k_sh8, ne_eq, Nat.add_eq_zero_iff, Nat.one_ne_zero, Nat.succ_ne_zero, and_false, false_and, not_false_eq_true, not_true_eq_false, ite_true, ite_false, if_true, if_false, sI_uI, sJ_uI, sA_uI, sL_uI, sR_uI, sQ_uI, sI_uJ, sJ_uJ, sA_uJ, sL_uJ, sR_uJ, sQ_uJ, sI_uA, sJ_uA, sA_uA, sL_uA, sR_uA, sQ_uA, sI_uL, sJ_uL, sA_uL, sL_uL, sR_uL, sQ_uL, sI_uR, sJ_uR, sA_uR, sL_uR, sR_uR, sQ_uR, sI_uQ, sJ_uQ, sA_uQ, sL_uQ, sR_uQ, sQ_uQ, x_okJ, c]
  · rw [if_neg c]
    simp (disch := omega) only [q_175_0, q_175_1, q_175_2, q_175_5, q_175_6, q_175_7, q_175_10, q_175_11, q_175_12, q_175_13, q_175_16, q_175_17, q_175_20, q_175_21, q_175_24, q_175_25, q_175_26, q_175_29, q_175_30, q_175_31, q_175_34, q_175_35, q_175_37, q_175_40, q_175_41, q_175_42, q_175_45, q_175_46, q_175_47, q_175_50, q_175_51, q_175_52, q_175_55, q_175_56, og_11_24, op_11_24, og_11_18, op_11_18, og_11_9, or_11_9, ow_11_9, og_11_19, op_11_19, og_11_20, op_11_20, og_11_21, op_11_21, og_11_8, or_11_8, ow_11_8, og_11_22, op_11_22, og_11_23, op_11_23, o_is, o_ob, ofs_len11, ↓reduceIte, k_cr, k_ci, k_oR, k_oN, k_aR, k_aN, and_true, true_and, and_self, eq_self, Nat.reduceLT, Nat.reduceLeDiff, Nat.reduceEqDiff, Nat.reduceAdd, Nat.reduceMul, Bool.true_eq_false, Bool.false_eq_true, Nat.add_sub_cancel, Nat.not_lt_zero, Nat.zero_le, k_sub, k_sb1, k_r, k_n, k_ret, k_t1, k_t0, k_nr, k_nn, k_z0, k_z1, k_zb, x_okI, lit_nI, k_in, k_cl, k_lt, k_le, k_eq, k_neg, nI_add, nI_mul, k_clt, k_cgt, k_cle, k_cge, k_ceq, bI_0, k_sh8, ne_eq, Nat.add_eq_zero_iff, Nat.one_ne_zero, Nat.succ_ne_zero, and_false, false_and, not_false_eq_true, not_true_eq_false, ite_true, ite_false, if_true, if_false, sI_uI, sJ_uI, sA_uI, sL_uI, sR_uI, sQ_uI, sI_uJ, sJ_uJ, sA_uJ, sL_uJ, sR_uJ, sQ_uJ, sI_uA, sJ_uA, sA_uA, sL_uA, sR_uA, sQ_uA, sI_uL, sJ_uL, sA_uL, sL_uL, sR_uL, sQ_uL, sI_uR, sJ_uR, sA_uR, sL_uR, sR_uR, sQ_uR, sI_uQ, sJ_uQ, sA_uQ, sL_uQ, sR_uQ, sQ_uQ, x_okJ, c]
