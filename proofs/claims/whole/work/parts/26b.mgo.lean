/-! The reference: leads and go. -/
theorem ld_u (d : Nat) (h : xH) (M : Nat) (S : gS) {f t : Nat} (hh : hzOK S) (hft : f < t) (ht : t < 8) : ∀ (k a : Nat) (l4 : Nat × Value), a + k = t → xrun d 172 18 [(1, .ref M), (1, .int (nI f)), (1, .int (nI t)), (1, .int (nI a)), l4] [] (oh 11 h M S) = some (some (.int (bI (alH (hz S) a (pU k a)))), oh 11 h M S)
  | 0, a, l4, ha => by
    have ha : a = t := ha
    subst ha
    show _ = some (some (Value.int (bI true)), oh 11 h M S)
    rw [q_172_18, bI_t]
    simp (disch := omega) only [q_172_19, q_172_20, q_172_23, q_172_24, q_172_25, q_172_28, q_172_29, q_172_30, q_172_31, q_172_34, q_172_35, q_172_36, q_172_37, q_172_39, q_172_40, q_172_43, q_172_45, q_172_46, q_172_47, q_172_49, q_172_50, q_172_51, q_172_54, q_172_55, q_172_56, q_172_58, q_172_59, q_172_62, q_172_63, og_11_12, or_11_12, ow_11_12, o_is, o_ob, ofs_len11, ↓reduceIte, k_cr, k_ci, k_oR, k_oN, k_aR, k_aN, and_true, true_and, and_self, eq_self, Nat.reduceLT, Nat.reduceLeDiff, Nat.reduceEqDiff, Nat.reduceAdd, Nat.reduceMul, Bool.true_eq_false, Bool.false_eq_true, Nat.add_sub_cancel, Nat.not_lt_zero, Nat.zero_le, k_sub, k_sb1, k_r, k_n, k_ret, k_t1, k_t0, k_nr, k_nn, k_z0, k_z1, k_zb, x_okI, lit_nI, k_in, k_cl, k_lt, k_le, k_eq, k_neg, nI_add, nI_mul, k_clt, k_cgt, k_cle, k_cge, k_ceq, bI_0, k_sh8, ne_eq, Nat.add_eq_zero_iff, Nat.one_ne_zero, Nat.succ_ne_zero, and_false, false_and, not_false_eq_true, not_true_eq_false, ite_true, ite_false, if_true, if_false]
  | k + 1, a, l4, ha => by
    have hne : ¬ a = t := by omega
    have hle : ¬ t ≤ f := by omega
    have e12 := hh (8 * a + (a + 1))
    show _ = some (some (Value.int (bI (hz S (8 * a + (a + 1)) && alH (hz S) (a + 1) (pU k (a + 1))))), oh 11 h M S)
    cases hq : hz S (8 * a + (a + 1)) with
    | false =>
      rw [hq, bI_f] at e12
      rw [Bool.false_and, bI_f, q_172_18]
      simp (disch := omega) only [q_172_19, q_172_20, q_172_23, q_172_24, q_172_25, q_172_28, q_172_29, q_172_30, q_172_31, q_172_34, q_172_35, q_172_36, q_172_37, q_172_39, q_172_40, q_172_43, q_172_45, q_172_46, q_172_47, q_172_49, q_172_50, q_172_51, q_172_54, q_172_55, q_172_56, q_172_58, q_172_59, q_172_62, q_172_63, og_11_12, or_11_12, ow_11_12, o_is, o_ob, ofs_len11, ↓reduceIte, k_cr, k_ci, k_oR, k_oN, k_aR, k_aN, and_true, true_and, and_self, eq_self, Nat.reduceLT, Nat.reduceLeDiff, Nat.reduceEqDiff, Nat.reduceAdd, Nat.reduceMul, Bool.true_eq_false, Bool.false_eq_true, Nat.add_sub_cancel, Nat.not_lt_zero, Nat.zero_le, k_sub, k_sb1, k_r, k_n, k_ret, k_t1, k_t0, k_nr, k_nn, k_z0, k_z1, k_zb, x_okI, lit_nI, k_in, k_cl, k_lt, k_le, k_eq, k_neg, nI_add, nI_mul, k_clt, k_cgt, k_cle, k_cge, k_ceq, bI_0, k_sh8, ne_eq, Nat.add_eq_zero_iff, Nat.one_ne_zero, Nat.succ_ne_zero, and_false, false_and, not_false_eq_true, not_true_eq_false, ite_true, ite_false, if_true, if_false, hne, hle, e12]
    | true =>
      rw [hq, bI_t] at e12
      rw [Bool.true_and, ← ld_u d h M S (f := f) hh hft ht k (a + 1) (1, .int (nI (a + 1))) (by omega), q_172_18]
      simp (disch := omega) only [q_172_19, q_172_20, q_172_23, q_172_24, q_172_25, q_172_28, q_172_29, q_172_30, q_172_31, q_172_34, q_172_35, q_172_36, q_172_37, q_172_39, q_172_40, q_172_43, q_172_45, q_172_46, q_172_47, q_172_49, q_172_50, q_172_51, q_172_54, q_172_55, q_172_56, q_172_58, q_172_59, q_172_62, q_172_63, og_11_12, or_11_12, ow_11_12, o_is, o_ob, ofs_len11, ↓reduceIte, k_cr, k_ci, k_oR, k_oN, k_aR, k_aN, and_true, true_and, and_self, eq_self, Nat.reduceLT, Nat.reduceLeDiff, Nat.reduceEqDiff, Nat.reduceAdd, Nat.reduceMul, Bool.true_eq_false, Bool.false_eq_true, Nat.add_sub_cancel, Nat.not_lt_zero, Nat.zero_le, k_sub, k_sb1, k_r, k_n, k_ret, k_t1, k_t0, k_nr, k_nn, k_z0, k_z1, k_zb, x_okI, lit_nI, k_in, k_cl, k_lt, k_le, k_eq, k_neg, nI_add, nI_mul, k_clt, k_cgt, k_cle, k_cge, k_ceq, bI_0, k_sh8, ne_eq, Nat.add_eq_zero_iff, Nat.one_ne_zero, Nat.succ_ne_zero, and_false, false_and, not_false_eq_true, not_true_eq_false, ite_true, ite_false, if_true, if_false, hne, hle, e12]
theorem ld_d (d : Nat) (h : xH) (M : Nat) (S : gS) {f t : Nat} (hh : hzOK S) (hft : t < f) (hf : f < 8) : ∀ (k a : Nat) (l4 : Nat × Value), a = t + k → a ≤ f → xrun d 172 18 [(1, .ref M), (1, .int (nI f)), (1, .int (nI t)), (1, .int (nI a)), l4] [] (oh 11 h M S) = some (some (.int (bI (alH (hz S) a (pD k a)))), oh 11 h M S)
  | 0, a, l4, ha, hf2 => by
    have ha : a = t := ha
    subst ha
    show _ = some (some (Value.int (bI true)), oh 11 h M S)
    rw [q_172_18, bI_t]
    simp (disch := omega) only [q_172_19, q_172_20, q_172_23, q_172_24, q_172_25, q_172_28, q_172_29, q_172_30, q_172_31, q_172_34, q_172_35, q_172_36, q_172_37, q_172_39, q_172_40, q_172_43, q_172_45, q_172_46, q_172_47, q_172_49, q_172_50, q_172_51, q_172_54, q_172_55, q_172_56, q_172_58, q_172_59, q_172_62, q_172_63, og_11_12, or_11_12, ow_11_12, o_is, o_ob, ofs_len11, ↓reduceIte, k_cr, k_ci, k_oR, k_oN, k_aR, k_aN, and_true, true_and, and_self, eq_self, Nat.reduceLT, Nat.reduceLeDiff, Nat.reduceEqDiff, Nat.reduceAdd, Nat.reduceMul, Bool.true_eq_false, Bool.false_eq_true, Nat.add_sub_cancel, Nat.not_lt_zero, Nat.zero_le, k_sub, k_sb1, k_r, k_n, k_ret, k_t1, k_t0, k_nr, k_nn, k_z0, k_z1, k_zb, x_okI, lit_nI, k_in, k_cl, k_lt, k_le, k_eq, k_neg, nI_add, nI_mul, k_clt, k_cgt, k_cle, k_cge, k_ceq, bI_0, k_sh8, ne_eq, Nat.add_eq_zero_iff, Nat.one_ne_zero, Nat.succ_ne_zero, and_false, false_and, not_false_eq_true, not_true_eq_false, ite_true, ite_false, if_true, if_false]
  | k + 1, a, l4, ha, hf2 => by
    have hne : ¬ a = t := by omega
    have hle : t ≤ f := by omega
    have e12 := hh (8 * a + (a - 1))
    show _ = some (some (Value.int (bI (hz S (8 * a + (a - 1)) && alH (hz S) (a - 1) (pD k (a - 1))))), oh 11 h M S)
    cases hq : hz S (8 * a + (a - 1)) with
    | false =>
      rw [hq, bI_f] at e12
      rw [Bool.false_and, bI_f, q_172_18]
      simp (disch := omega) only [q_172_19, q_172_20, q_172_23, q_172_24, q_172_25, q_172_28, q_172_29, q_172_30, q_172_31, q_172_34, q_172_35, q_172_36, q_172_37, q_172_39, q_172_40, q_172_43, q_172_45, q_172_46, q_172_47, q_172_49, q_172_50, q_172_51, q_172_54, q_172_55, q_172_56, q_172_58, q_172_59, q_172_62, q_172_63, og_11_12, or_11_12, ow_11_12, o_is, o_ob, ofs_len11, ↓reduceIte, k_cr, k_ci, k_oR, k_oN, k_aR, k_aN, and_true, true_and, and_self, eq_self, Nat.reduceLT, Nat.reduceLeDiff, Nat.reduceEqDiff, Nat.reduceAdd, Nat.reduceMul, Bool.true_eq_false, Bool.false_eq_true, Nat.add_sub_cancel, Nat.not_lt_zero, Nat.zero_le, k_sub, k_sb1, k_r, k_n, k_ret, k_t1, k_t0, k_nr, k_nn, k_z0, k_z1, k_zb, x_okI, lit_nI, k_in, k_cl, k_lt, k_le, k_eq, k_neg, nI_add, nI_mul, k_clt, k_cgt, k_cle, k_cge, k_ceq, bI_0, k_sh8, ne_eq, Nat.add_eq_zero_iff, Nat.one_ne_zero, Nat.succ_ne_zero, and_false, false_and, not_false_eq_true, not_true_eq_false, ite_true, ite_false, if_true, if_false, hne, hle, e12]
    | true =>
      rw [hq, bI_t] at e12
      rw [Bool.true_and, ← ld_d d h M S (f := f) hh hft hf k (a - 1) (1, .int (nI (a - 1))) (by omega) (by omega), q_172_18]
      simp (disch := omega) only [q_172_19, q_172_20, q_172_23, q_172_24, q_172_25, q_172_28, q_172_29, q_172_30, q_172_31, q_172_34, q_172_35, q_172_36, q_172_37, q_172_39, q_172_40, q_172_43, q_172_45, q_172_46, q_172_47, q_172_49, q_172_50, q_172_51, q_172_54, q_172_55, q_172_56, q_172_58, q_172_59, q_172_62, q_172_63, og_11_12, or_11_12, ow_11_12, o_is, o_ob, ofs_len11, ↓reduceIte, k_cr, k_ci, k_oR, k_oN, k_aR, k_aN, and_true, true_and, and_self, eq_self, Nat.reduceLT, Nat.reduceLeDiff, Nat.reduceEqDiff, Nat.reduceAdd, Nat.reduceMul, Bool.true_eq_false, Bool.false_eq_true, Nat.add_sub_cancel, Nat.not_lt_zero, Nat.zero_le, k_sub, k_sb1, k_r, k_n, k_ret, k_t1, k_t0, k_nr, k_nn, k_z0, k_z1, k_zb, x_okI, lit_nI, k_in, k_cl, k_lt, k_le, k_eq, k_neg, nI_add, nI_mul, k_clt, k_cgt, k_cle, k_cge, k_ceq, bI_0, k_sh8, ne_eq, Nat.add_eq_zero_iff, Nat.one_ne_zero, Nat.succ_ne_zero, and_false, false_and, not_false_eq_true, not_true_eq_false, ite_true, ite_false, if_true, if_false, hne, hle, e12]
theorem m_leads (d : Nat) (h : xH) (M : Nat) (S : gS) {f t : Nat} (hh : hzOK S) (hf : f < 8) (ht : t < 8) (hne : f ≠ t) : xm (d + 1) 172 [.ref M, .int (nI f), .int (nI t)] (oh 11 h M S) = some (some (.int (bI (alH (hz S) f (pth (hz S) f t)))), oh 11 h M S) := by
  have e12 := hh (8 * f + t)
  rw [E_172 _ _ _ _ _ rfl]
  unfold pth
  cases hq : hz S (8 * f + t) with
  | true =>
    rw [hq, bI_t] at e12
    rw [if_pos rfl]
    have : alH (hz S) f [t] = true := by
      show (hz S (8 * f + t) && true) = true
      rw [hq]
      rfl
    rw [this, bI_t]
    simp (disch := omega) only [q_172_0, q_172_1, q_172_4, q_172_6, q_172_7, q_172_8, q_172_9, q_172_10, q_172_11, q_172_14, q_172_15, q_172_16, q_172_17, og_11_12, or_11_12, ow_11_12, o_is, o_ob, ofs_len11, ↓reduceIte, k_cr, k_ci, k_oR, k_oN, k_aR, k_aN, and_true, true_and, and_self, eq_self, Nat.reduceLT, Nat.reduceLeDiff, Nat.reduceEqDiff, Nat.reduceAdd, Nat.reduceMul, Bool.true_eq_false, Bool.false_eq_true, Nat.add_sub_cancel, Nat.not_lt_zero, Nat.zero_le, k_sub, k_sb1, k_r, k_n, k_ret, k_t1, k_t0, k_nr, k_nn, k_z0, k_z1, k_zb, x_okI, lit_nI, k_in, k_cl, k_lt, k_le, k_eq, k_neg, nI_add, nI_mul, k_clt, k_cgt, k_cle, k_cge, k_ceq, bI_0, k_sh8, ne_eq, Nat.add_eq_zero_iff, Nat.one_ne_zero, Nat.succ_ne_zero, and_false, false_and, not_false_eq_true, not_true_eq_false, ite_true, ite_false, if_true, if_false, e12]
  | false =>
    rw [hq, bI_f] at e12
    rw [if_neg (by decide)]
    by_cases c : f < t
    · rw [if_pos c, ← ld_u d h M S (f := f) (t := t) hh c ht (t - f) f (0, .null) (by omega)]
      simp (disch := omega) only [q_172_0, q_172_1, q_172_4, q_172_6, q_172_7, q_172_8, q_172_9, q_172_10, q_172_11, q_172_14, q_172_15, q_172_16, q_172_17, og_11_12, or_11_12, ow_11_12, o_is, o_ob, ofs_len11, ↓reduceIte, k_cr, k_ci, k_oR, k_oN, k_aR, k_aN, and_true, true_and, and_self, eq_self, Nat.reduceLT, Nat.reduceLeDiff, Nat.reduceEqDiff, Nat.reduceAdd, Nat.reduceMul, Bool.true_eq_false, Bool.false_eq_true, Nat.add_sub_cancel, Nat.not_lt_zero, Nat.zero_le, k_sub, k_sb1, k_r, k_n, k_ret, k_t1, k_t0, k_nr, k_nn, k_z0, k_z1, k_zb, x_okI, lit_nI, k_in, k_cl, k_lt, k_le, k_eq, k_neg, nI_add, nI_mul, k_clt, k_cgt, k_cle, k_cge, k_ceq, bI_0, k_sh8, ne_eq, Nat.add_eq_zero_iff, Nat.one_ne_zero, Nat.succ_ne_zero, and_false, false_and, not_false_eq_true, not_true_eq_false, ite_true, ite_false, if_true, if_false, e12]
    · rw [if_neg c, ← ld_d d h M S (f := f) (t := t) hh (by omega) hf (f - t) f (0, .null) (by omega) (by omega)]
      simp (disch := omega) only [q_172_0, q_172_1, q_172_4, q_172_6, q_172_7, q_172_8, q_172_9, q_172_10, q_172_11, q_172_14, q_172_15, q_172_16, q_172_17, og_11_12, or_11_12, ow_11_12, o_is, o_ob, ofs_len11, ↓reduceIte, k_cr, k_ci, k_oR, k_oN, k_aR, k_aN, and_true, true_and, and_self, eq_self, Nat.reduceLT, Nat.reduceLeDiff, Nat.reduceEqDiff, Nat.reduceAdd, Nat.reduceMul, Bool.true_eq_false, Bool.false_eq_true, Nat.add_sub_cancel, Nat.not_lt_zero, Nat.zero_le, k_sub, k_sb1, k_r, k_n, k_ret, k_t1, k_t0, k_nr, k_nn, k_z0, k_z1, k_zb, x_okI, lit_nI, k_in, k_cl, k_lt, k_le, k_eq, k_neg, nI_add, nI_mul, k_clt, k_cgt, k_cle, k_cge, k_ceq, bI_0, k_sh8, ne_eq, Nat.add_eq_zero_iff, Nat.one_ne_zero, Nat.succ_ne_zero, and_false, false_and, not_false_eq_true, not_true_eq_false, ite_true, ite_false, if_true, if_false, e12]
/-- a VALUE at another place -/
theorem wkV.mv {S S' : gS} {b c n v v' : Nat} {w : vW} (hv : wkV S b c n v w) (e : rvS S' v' = rvS S v) (h2 : sA S' 2 = sA S 2) (h5 : v' < 180) : wkV S' b c n v' w := by
  have hr := wkV.rv (x := (w.1, 0, c, w)) hv rfl
  obtain ⟨a1, a2, a3, a4, a5, a6, a7, a8, a9⟩ := hv
  exact wkV.of (x := (w.1, 0, c, w)) a1 a2 (by rw [h2]; exact a3) a4 h5 rfl (fun m hm => (a8 m hm).2) (e.trans hr)
theorem gi_loop (d : Nat) (h : xH) (M : Nat) {n : Nat} (hn : n ≤ 60) {t b : Int32} : ∀ (k i : Nat) (S : gS), i + k = n → sA S 7 0 = nI n → ∃ S', xrun (d + 1) 171 40 [(1, .ref M), (1, .int t), (1, .int b), (1, .int (nI i)), (0, .null), (0, .null)] [] (oh 11 h M S) = xrun (d + 1) 171 65 [(1, .ref M), (1, .int t), (1, .int b), (1, .int (nI n)), (0, .null), (0, .null)] [] (oh 11 h M S') ∧ fr vlP S S' ∧ ∀ q, rvS S' q = if 60 + i ≤ q ∧ q < 60 + n then rvS S (q - 60) else rvS S q
  | 0, i, S, hi, h70 => by
    have hi : i = n := hi
    subst hi
    have hle : i ≤ i := Nat.le_refl _
    refine ⟨S, ?_, fr.rfl, fun q => by rw [if_neg (by omega)]⟩
    rw [q_171_40]
    simp (disch := omega) only [q_171_0, q_171_1, q_171_2, q_171_3, q_171_6, q_171_9, q_171_12, q_171_13, q_171_14, q_171_17, q_171_20, q_171_22, q_171_23, q_171_24, q_171_25, q_171_28, q_171_29, q_171_32, q_171_35, q_171_37, q_171_38, q_171_39, q_171_41, q_171_42, q_171_45, q_171_46, q_171_47, q_171_50, q_171_51, q_171_52, q_171_54, q_171_55, q_171_56, q_171_59, q_171_62, og_11_6, op_11_6, og_11_7, or_11_7, ow_11_7, og_11_62, op_11_62, og_11_63, op_11_63, og_11_12, or_11_12, ow_11_12, og_11_25, op_11_25, og_11_26, op_11_26, o_is, o_ob, ofs_len11, ↓reduceIte, k_cr, k_ci, k_oR, k_oN, k_aR, k_aN, and_true, true_and, and_self, eq_self, Nat.reduceLT, Nat.reduceLeDiff, Nat.reduceEqDiff, Nat.reduceAdd, Nat.reduceMul, Bool.true_eq_false, Bool.false_eq_true, Nat.add_sub_cancel, Nat.not_lt_zero, Nat.zero_le, k_sub, k_sb1, k_r, k_n, k_ret, k_t1, k_t0, k_nr, k_nn, k_z0, k_z1, k_zb, x_okI, lit_nI, k_in, k_cl, k_lt, k_le, k_eq, k_neg, nI_add, nI_mul, k_clt, k_cgt, k_cle, k_cge, k_ceq, bI_0, k_sh8, ne_eq, Nat.add_eq_zero_iff, Nat.one_ne_zero, Nat.succ_ne_zero, and_false, false_and, not_false_eq_true, not_true_eq_false, ite_true, ite_false, if_true, if_false, h70, hle]
  | k + 1, i, S, hi, h70 => by
    have hle : ¬ n ≤ i := by omega
    have eC : xm (d + 1) 137 [.ref M, .int (nI i), .int (nI (60 + i))] (oh 11 h M S) = _ := m_copy d h M S i (60 + i) (by omega) (by omega) (by omega)
    obtain ⟨S', i1, i2, i3⟩ := gi_loop d h M hn (t := t) (b := b) k (i + 1) (cpV S i (60 + i) 64) (by omega) (by
      rw [cpV_A _ _ _ _ _ _ (by decide)]
      exact h70)
    refine ⟨S', ?_, (cpV_fr S i (60 + i)).trans i2, fun q => ?_⟩
    · rw [← i1, q_171_40]
      simp (disch := omega) only [q_171_0, q_171_1, q_171_2, q_171_3, q_171_6, q_171_9, q_171_12, q_171_13, q_171_14, q_171_17, q_171_20, q_171_22, q_171_23, q_171_24, q_171_25, q_171_28, q_171_29, q_171_32, q_171_35, q_171_37, q_171_38, q_171_39, q_171_41, q_171_42, q_171_45, q_171_46, q_171_47, q_171_50, q_171_51, q_171_52, q_171_54, q_171_55, q_171_56, q_171_59, q_171_62, og_11_6, op_11_6, og_11_7, or_11_7, ow_11_7, og_11_62, op_11_62, og_11_63, op_11_63, og_11_12, or_11_12, ow_11_12, og_11_25, op_11_25, og_11_26, op_11_26, o_is, o_ob, ofs_len11, ↓reduceIte, k_cr, k_ci, k_oR, k_oN, k_aR, k_aN, and_true, true_and, and_self, eq_self, Nat.reduceLT, Nat.reduceLeDiff, Nat.reduceEqDiff, Nat.reduceAdd, Nat.reduceMul, Bool.true_eq_false, Bool.false_eq_true, Nat.add_sub_cancel, Nat.not_lt_zero, Nat.zero_le, k_sub, k_sb1, k_r, k_n, k_ret, k_t1, k_t0, k_nr, k_nn, k_z0, k_z1, k_zb, x_okI, lit_nI, k_in, k_cl, k_lt, k_le, k_eq, k_neg, nI_add, nI_mul, k_clt, k_cgt, k_cle, k_cge, k_ceq, bI_0, k_sh8, ne_eq, Nat.add_eq_zero_iff, Nat.one_ne_zero, Nat.succ_ne_zero, and_false, false_and, not_false_eq_true, not_true_eq_false, ite_true, ite_false, if_true, if_false, h70, hle, eC]
    · rw [i3 q]
      by_cases c : 60 + (i + 1) ≤ q ∧ q < 60 + n
      · rw [if_pos c, if_pos (by omega), cpV_rv S (by omega), if_neg (by omega)]
      · rw [if_neg c, cpV_rv S (by omega)]
        by_cases c2 : q = 60 + i
        · rw [if_pos c2, if_pos (by omega), c2, Nat.add_sub_cancel_left]
        · rw [if_neg c2, if_neg (by omega)]
theorem go_loop (d : Nat) (h : xH) (M : Nat) {n : Nat} (hn : n ≤ 60) {t b l3 l4 : Int32} : ∀ (k i : Nat) (S : gS), i + k = n → sA S 7 1 = nI n → ∃ S', xrun (d + 1) 171 193 [(1, .ref M), (1, .int t), (1, .int b), (1, .int l3), (1, .int l4), (1, .int (nI i))] [] (oh 11 h M S) = some (some (.int (nI n)), oh 11 h M (uI (uA S' 7 0 (nI n)) 6 t)) ∧ fr vlP S S' ∧ ∀ q, rvS S' q = if i ≤ q ∧ q < n then rvS S (60 + q) else rvS S q
  | 0, i, S, hi, h71 => by
    have hi : i = n := hi
    subst hi
    have hle : i ≤ i := Nat.le_refl _
    have e70 : sA (uI (uA S 7 0 (nI i)) 6 t) 7 0 = nI i := by
      show sA (uA S 7 0 (nI i)) 7 0 = _
      rw [sA_uA, if_pos ⟨rfl, rfl⟩]
    refine ⟨S, ?_, fr.rfl, fun q => by rw [if_neg (by omega)]⟩
    rw [q_171_193]
    simp (disch := omega) only [q_171_195, q_171_196, q_171_199, q_171_200, q_171_201, q_171_204, q_171_205, q_171_207, q_171_209, q_171_210, q_171_212, q_171_215, q_171_218, q_171_221, q_171_222, q_171_225, q_171_226, q_171_227, q_171_230, q_171_231, q_171_232, q_171_233, q_171_234, q_171_235, q_171_238, q_171_239, q_171_242, q_171_243, q_171_244, og_11_6, op_11_6, og_11_7, or_11_7, ow_11_7, og_11_62, op_11_62, og_11_63, op_11_63, og_11_12, or_11_12, ow_11_12, og_11_25, op_11_25, og_11_26, op_11_26, o_is, o_ob, ofs_len11, ↓reduceIte, k_cr, k_ci, k_oR, k_oN, k_aR, k_aN, and_true, true_and, and_self, eq_self, Nat.reduceLT, Nat.reduceLeDiff, Nat.reduceEqDiff, Nat.reduceAdd, Nat.reduceMul, Bool.true_eq_false, Bool.false_eq_true, Nat.add_sub_cancel, Nat.not_lt_zero, Nat.zero_le, k_sub, k_sb1, k_r, k_n, k_ret, k_t1, k_t0, k_nr, k_nn, k_z0, k_z1, k_zb, x_okI, lit_nI, k_in, k_cl, k_lt, k_le, k_eq, k_neg, nI_add, nI_mul, k_clt, k_cgt, k_cle, k_cge, k_ceq, bI_0, k_sh8, ne_eq, Nat.add_eq_zero_iff, Nat.one_ne_zero, Nat.succ_ne_zero, and_false, false_and, not_false_eq_true, not_true_eq_false, ite_true, ite_false, if_true, if_false, h71, hle, e70]
  | k + 1, i, S, hi, h71 => by
    have hle : ¬ n ≤ i := by omega
    have eC : xm (d + 1) 137 [.ref M, .int (nI (60 + i)), .int (nI i)] (oh 11 h M S) = _ := m_copy d h M S (60 + i) i (by omega) (by omega) (by omega)
    obtain ⟨S', i1, i2, i3⟩ := go_loop d h M hn (t := t) (b := b) (l3 := l3) (l4 := l4) k (i + 1) (cpV S (60 + i) i 64) (by omega) (by
      rw [cpV_A _ _ _ _ _ _ (by decide)]
      exact h71)
    refine ⟨S', ?_, (cpV_fr S (60 + i) i).trans i2, fun q => ?_⟩
    · rw [← i1, q_171_193]
      simp (disch := omega) only [q_171_195, q_171_196, q_171_199, q_171_200, q_171_201, q_171_204, q_171_205, q_171_207, q_171_209, q_171_210, q_171_212, q_171_215, q_171_218, q_171_221, q_171_222, q_171_225, q_171_226, q_171_227, q_171_230, q_171_231, q_171_232, q_171_233, q_171_234, q_171_235, q_171_238, q_171_239, q_171_242, q_171_243, q_171_244, og_11_6, op_11_6, og_11_7, or_11_7, ow_11_7, og_11_62, op_11_62, og_11_63, op_11_63, og_11_12, or_11_12, ow_11_12, og_11_25, op_11_25, og_11_26, op_11_26, o_is, o_ob, ofs_len11, ↓reduceIte, k_cr, k_ci, k_oR, k_oN, k_aR, k_aN, and_true, true_and, and_self, eq_self, Nat.reduceLT, Nat.reduceLeDiff, Nat.reduceEqDiff, Nat.reduceAdd, Nat.reduceMul, Bool.true_eq_false, Bool.false_eq_true, Nat.add_sub_cancel, Nat.not_lt_zero, Nat.zero_le, k_sub, k_sb1, k_r, k_n, k_ret, k_t1, k_t0, k_nr, k_nn, k_z0, k_z1, k_zb, x_okI, lit_nI, k_in, k_cl, k_lt, k_le, k_eq, k_neg, nI_add, nI_mul, k_clt, k_cgt, k_cle, k_cge, k_ceq, bI_0, k_sh8, ne_eq, Nat.add_eq_zero_iff, Nat.one_ne_zero, Nat.succ_ne_zero, and_false, false_and, not_false_eq_true, not_true_eq_false, ite_true, ite_false, if_true, if_false, h71, hle, eC]
    · rw [i3 q]
      by_cases c : i + 1 ≤ q ∧ q < n
      · rw [if_pos c, if_pos (by omega), cpV_rv S (by omega), if_neg (by omega)]
      · rw [if_neg c, cpV_rv S (by omega)]
        by_cases c2 : q = i
        · rw [if_pos c2, if_pos (by omega), c2]
        · rw [if_neg c2, if_neg (by omega)]
/-- a way that is gone by -/
def pOK (H : Nat → Bool) (bd t : Nat) : Nat → List Nat → Prop
  | a, [] => a = t
  | a, b :: P => a < 8 ∧ b < 8 ∧ a ≠ t ∧ (H (8 * bd + t) = true ∧ b = t ∧ a = bd ∨ H (8 * bd + t) = false ∧ (bd < t ∧ b = a + 1 ∨ t < bd ∧ b + 1 = a)) ∧ pOK H bd t b P
theorem pU_ok {H : Nat → Bool} {bd t : Nat} (hH : H (8 * bd + t) = false) (h1 : bd < t) (ht : t < 8) : ∀ (k a : Nat), a + k = t → pOK H bd t a (pU k a)
  | 0, a, h => h
  | k + 1, a, h => ⟨by omega, by omega, by omega, Or.inr ⟨hH, Or.inl ⟨h1, rfl⟩⟩, pU_ok hH h1 ht k (a + 1) (by omega)⟩
theorem pD_ok {H : Nat → Bool} {bd t : Nat} (hH : H (8 * bd + t) = false) (h1 : t < bd) (hb : bd < 8) : ∀ (k a : Nat), a = t + k → a ≤ bd → pOK H bd t a (pD k a)
  | 0, a, h, _ => h
  | k + 1, a, h, h2 => ⟨by omega, by omega, by omega, Or.inr ⟨hH, Or.inr ⟨h1, by omega⟩⟩, pD_ok hH h1 hb k (a - 1) (by omega) (by omega)⟩
theorem pU_len : ∀ (k a : Nat), (pU k a).length = k
  | 0, _ => rfl
  | k + 1, a => by
    show (pU k (a + 1)).length + 1 = _
    rw [pU_len]
theorem pD_len : ∀ (k a : Nat), (pD k a).length = k
  | 0, _ => rfl
  | k + 1, a => by
    show (pD k (a - 1)).length + 1 = _
    rw [pD_len]
theorem pth_ok (H : Nat → Bool) {bd t : Nat} (hb : bd < 8) (ht : t < 8) (hne : bd ≠ t) : pOK H bd t bd (pth H bd t) ∧ (pth H bd t).length ≤ 8 := by
  unfold pth
  cases hq : H (8 * bd + t) with
  | true =>
    rw [if_pos rfl]
    exact ⟨⟨hb, ht, hne, Or.inl ⟨hq, rfl, rfl⟩, rfl⟩, by show 1 ≤ 8; omega⟩
  | false =>
    rw [if_neg (by decide)]
    by_cases c : bd < t
    · rw [if_pos c]
      exact ⟨pU_ok hq c ht _ _ (by omega), by rw [pU_len]; omega⟩
    · rw [if_neg c]
      exact ⟨pD_ok hq (by omega) hb _ _ (by omega) (Nat.le_refl _), by rw [pD_len]; omega⟩
def gwR (h : xH) (M : Nat) (S : gS) (cN mN ty : Nat → Nat) (D t : Nat) (st : Int32) (S' : gS) (run : Option xR) : (rfT × Nat) ⊕ (vL × Nat × Nat) → Prop
  | .inl q => run = some (some (.int (-nI 1)), oh 11 h M (rfX S' q.1 (nI q.2)))
  | .inr r => (∃ l4 l5, run = xrun D 171 163 [(1, .ref M), (1, .int (nI t)), (1, .int st), (1, .int (nI t)), (1, .int l4), l5] [] (oh 11 h M S')) ∧ sA S' 7 1 = nI r.1.length ∧ r.1.length ≤ 60 ∧ (∀ j v, r.1[j]? = some v → wkV S' t v.1 (mN (6 * t + v.1)) (60 + j) v.2) ∧ vlB S cN mN ty t r.1 ∧ sI S' 62 = nI r.2.1 ∧ sI S' 63 = nI r.2.2
theorem vlB_fr {P : Nat → Bool} {S T : gS} (h : fr P S T) (hp : k15 P) {cN mN ty : Nat → Nat} {a : Nat} {V : vL} (hV : vlB S cN mN ty a V) : vlB T cN mN ty a V := by
  intro v hv
  obtain ⟨a1, a2⟩ := hV v hv
  refine ⟨a1, fun o ho => ⟨(a2 o ho).1, fun hr => (a2 o ho).2 ?_⟩⟩
  unfold rw_ at hr ⊢
  rw [(h 5 hp.2.2.2.2.2).2.2.1] at hr
  exact hr
theorem gw_loop (d : Nat) (h : xH) (M : Nat) {bd t : Nat} {st : Int32} {cN mN ty : Nat → Nat} {Lf : Nat → List mT} {dr : Bool} {H : Nat → Bool} (hb : bd < 8) (ht : t < 8) : ∀ (P : List Nat) (a k x y : Nat) (V : vL) (S : gS) (l5 : Nat × Value), pOK H bd t a P → (∀ i, sA S 12 i = bI (H i)) → refT S cN mN ty → (∀ a b, a < 8 → b < 8 → H (8 * a + b) = true → ruG S cN mN ty Lf a b) → alH H a P = true → sI S 6 = nI bd → sA S 7 1 = nI V.length → V.length ≤ 60 → (∀ j v, V[j]? = some v → wkV S a v.1 (mN (6 * a + v.1)) (60 + j) v.2) → vlB S cN mN ty a V → sI S 62 = nI x → sI S 63 = nI y → sI S 17 = bI dr → x + 480 * P.length < 490000 → ∃ S', stK S S' ∧ gwR h M S cN mN ty (d + 8) t st S' (xrun (d + 8) 171 95 [(1, .ref M), (1, .int (nI t)), (1, .int st), (1, .int (nI a)), (1, .int (nI k)), l5] [] (oh 11 h M S)) (wlk (fun a b => zK S cN mN ty a b (Lf (8 * a + b))) dr P a k V x y)
  | [], a, k, x, y, V, S, l5, hP, hH, hK, hR, hal, h6, h71, hV6, hV, hvb, h62, h63, h17, hx => by
    have hP : a = t := hP
    subst hP
    refine ⟨S, ⟨fr.rfl, fun _ _ => rfl, rfl⟩, ⟨nI k, l5, ?_⟩, h71, hV6, hV, hvb, h62, h63⟩
    rw [q_171_95]
    simp (disch := omega) only [q_171_0, q_171_1, q_171_2, q_171_3, q_171_6, q_171_9, q_171_12, q_171_13, q_171_14, q_171_17, q_171_20, q_171_22, q_171_23, q_171_24, q_171_25, q_171_28, q_171_29, q_171_32, q_171_35, q_171_37, q_171_38, q_171_39, q_171_41, q_171_42, q_171_45, q_171_46, q_171_47, q_171_50, q_171_51, q_171_52, q_171_54, q_171_55, q_171_56, q_171_59, q_171_62, q_171_65, q_171_66, q_171_69, q_171_70, q_171_71, q_171_74, q_171_75, q_171_76, q_171_77, q_171_78, q_171_79, q_171_82, q_171_83, q_171_84, q_171_87, q_171_88, q_171_91, q_171_92, q_171_93, q_171_96, q_171_97, q_171_100, q_171_101, q_171_104, q_171_106, q_171_107, q_171_110, q_171_111, q_171_112, q_171_113, q_171_114, q_171_117, q_171_118, q_171_121, q_171_122, q_171_123, q_171_126, q_171_129, q_171_130, q_171_131, q_171_132, q_171_135, q_171_136, q_171_137, q_171_138, q_171_140, q_171_141, q_171_142, q_171_144, q_171_146, q_171_149, q_171_152, q_171_153, q_171_154, q_171_156, q_171_157, q_171_160, og_11_6, op_11_6, og_11_7, or_11_7, ow_11_7, og_11_62, op_11_62, og_11_63, op_11_63, og_11_12, or_11_12, ow_11_12, og_11_25, op_11_25, og_11_26, op_11_26, o_is, o_ob, ofs_len11, ↓reduceIte, k_cr, k_ci, k_oR, k_oN, k_aR, k_aN, and_true, true_and, and_self, eq_self, Nat.reduceLT, Nat.reduceLeDiff, Nat.reduceEqDiff, Nat.reduceAdd, Nat.reduceMul, Bool.true_eq_false, Bool.false_eq_true, Nat.add_sub_cancel, Nat.not_lt_zero, Nat.zero_le, k_sub, k_sb1, k_r, k_n, k_ret, k_t1, k_t0, k_nr, k_nn, k_z0, k_z1, k_zb, x_okI, lit_nI, k_in, k_cl, k_lt, k_le, k_eq, k_neg, nI_add, nI_mul, k_clt, k_cgt, k_cle, k_cge, k_ceq, bI_0, k_sh8, ne_eq, Nat.add_eq_zero_iff, Nat.one_ne_zero, Nat.succ_ne_zero, and_false, false_and, not_false_eq_true, not_true_eq_false, ite_true, ite_false, if_true, if_false]
  | b :: P, a, k, x, y, V, S, l5, hP, hH, hK, hR, hal, h6, h71, hV6, hV, hvb, h62, h63, h17, hx => by
    obtain ⟨ha8, hb8, hne, hnx, hP'⟩ := hP
    have hal : (H (8 * a + b) && alH H b P) = true := hal
    rw [Bool.and_eq_true] at hal
    have hRg := hR a b ha8 hb8 hal.1
    obtain ⟨⟨n, n1, n2, n3⟩, g2, g3⟩ := id hRg
    rw [List.length_cons] at hx
    obtain ⟨S1, s1, s2⟩ := m_step d h M S (number := nI k) ha8 hb8 hK n1 n2 n3 h71 hV6 rfl h62 h63 h17 (by omega) (fun j v hj => ⟨(hvb v (List.mem_of_getElem? hj)).1, hV j v hj, (hvb v (List.mem_of_getElem? hj)).2⟩) g2
    have e12 := hH (8 * bd + t)
    have st1 : ∀ r S2, xm (d + 8) 173 [.ref M, .int (nI a), .int (nI b), .int (nI k)] (oh 11 h M S) = some (some (.int (nI r)), oh 11 h M S2) → (r = 0 → xrun (d + 8) 171 95 [(1, .ref M), (1, .int (nI t)), (1, .int st), (1, .int (nI a)), (1, .int (nI k)), l5] [] (oh 11 h M S) = some (some (.int (-nI 1)), oh 11 h M S2)) ∧ (r = 1 → xrun (d + 8) 171 95 [(1, .ref M), (1, .int (nI t)), (1, .int st), (1, .int (nI a)), (1, .int (nI k)), l5] [] (oh 11 h M S) = xrun (d + 8) 171 95 [(1, .ref M), (1, .int (nI t)), (1, .int st), (1, .int (nI b)), (1, .int (nI (k + 1))), (1, .int (nI b))] [] (oh 11 h M S2)) := by
      intro r S2 er
      rcases hnx with ⟨c1, c2, c4⟩ | ⟨c1, ⟨c2, c3⟩ | ⟨c2, c3⟩⟩
      · rw [c1, bI_t] at e12
        subst c2
        refine ⟨fun e => ?_, fun e => ?_⟩
        · subst e
          rw [q_171_95]
          simp (disch := omega) only [q_171_0, q_171_1, q_171_2, q_171_3, q_171_6, q_171_9, q_171_12, q_171_13, q_171_14, q_171_17, q_171_20, q_171_22, q_171_23, q_171_24, q_171_25, q_171_28, q_171_29, q_171_32, q_171_35, q_171_37, q_171_38, q_171_39, q_171_41, q_171_42, q_171_45, q_171_46, q_171_47, q_171_50, q_171_51, q_171_52, q_171_54, q_171_55, q_171_56, q_171_59, q_171_62, q_171_65, q_171_66, q_171_69, q_171_70, q_171_71, q_171_74, q_171_75, q_171_76, q_171_77, q_171_78, q_171_79, q_171_82, q_171_83, q_171_84, q_171_87, q_171_88, q_171_91, q_171_92, q_171_93, q_171_96, q_171_97, q_171_100, q_171_101, q_171_104, q_171_106, q_171_107, q_171_110, q_171_111, q_171_112, q_171_113, q_171_114, q_171_117, q_171_118, q_171_121, q_171_122, q_171_123, q_171_126, q_171_129, q_171_130, q_171_131, q_171_132, q_171_135, q_171_136, q_171_137, q_171_138, q_171_140, q_171_141, q_171_142, q_171_144, q_171_146, q_171_149, q_171_152, q_171_153, q_171_154, q_171_156, q_171_157, q_171_160, og_11_6, op_11_6, og_11_7, or_11_7, ow_11_7, og_11_62, op_11_62, og_11_63, op_11_63, og_11_12, or_11_12, ow_11_12, og_11_25, op_11_25, og_11_26, op_11_26, o_is, o_ob, ofs_len11, ↓reduceIte, k_cr, k_ci, k_oR, k_oN, k_aR, k_aN, and_true, true_and, and_self, eq_self, Nat.reduceLT, Nat.reduceLeDiff, Nat.reduceEqDiff, Nat.reduceAdd, Nat.reduceMul, Bool.true_eq_false, Bool.false_eq_true, Nat.add_sub_cancel, Nat.not_lt_zero, Nat.zero_le, k_sub, k_sb1, k_r, k_n, k_ret, k_t1, k_t0, k_nr, k_nn, k_z0, k_z1, k_zb, x_okI, lit_nI, k_in, k_cl, k_lt, k_le, k_eq, k_neg, nI_add, nI_mul, k_clt, k_cgt, k_cle, k_cge, k_ceq, bI_0, k_sh8, ne_eq, Nat.add_eq_zero_iff, Nat.one_ne_zero, Nat.succ_ne_zero, and_false, false_and, not_false_eq_true, not_true_eq_false, ite_true, ite_false, if_true, if_false, hne, h6, e12, er]
        · subst e
          rw [q_171_95]
          simp (disch := omega) only [q_171_0, q_171_1, q_171_2, q_171_3, q_171_6, q_171_9, q_171_12, q_171_13, q_171_14, q_171_17, q_171_20, q_171_22, q_171_23, q_171_24, q_171_25, q_171_28, q_171_29, q_171_32, q_171_35, q_171_37, q_171_38, q_171_39, q_171_41, q_171_42, q_171_45, q_171_46, q_171_47, q_171_50, q_171_51, q_171_52, q_171_54, q_171_55, q_171_56, q_171_59, q_171_62, q_171_65, q_171_66, q_171_69, q_171_70, q_171_71, q_171_74, q_171_75, q_171_76, q_171_77, q_171_78, q_171_79, q_171_82, q_171_83, q_171_84, q_171_87, q_171_88, q_171_91, q_171_92, q_171_93, q_171_96, q_171_97, q_171_100, q_171_101, q_171_104, q_171_106, q_171_107, q_171_110, q_171_111, q_171_112, q_171_113, q_171_114, q_171_117, q_171_118, q_171_121, q_171_122, q_171_123, q_171_126, q_171_129, q_171_130, q_171_131, q_171_132, q_171_135, q_171_136, q_171_137, q_171_138, q_171_140, q_171_141, q_171_142, q_171_144, q_171_146, q_171_149, q_171_152, q_171_153, q_171_154, q_171_156, q_171_157, q_171_160, og_11_6, op_11_6, og_11_7, or_11_7, ow_11_7, og_11_62, op_11_62, og_11_63, op_11_63, og_11_12, or_11_12, ow_11_12, og_11_25, op_11_25, og_11_26, op_11_26, o_is, o_ob, ofs_len11, ↓reduceIte, k_cr, k_ci, k_oR, k_oN, k_aR, k_aN, and_true, true_and, and_self, eq_self, Nat.reduceLT, Nat.reduceLeDiff, Nat.reduceEqDiff, Nat.reduceAdd, Nat.reduceMul, Bool.true_eq_false, Bool.false_eq_true, Nat.add_sub_cancel, Nat.not_lt_zero, Nat.zero_le, k_sub, k_sb1, k_r, k_n, k_ret, k_t1, k_t0, k_nr, k_nn, k_z0, k_z1, k_zb, x_okI, lit_nI, k_in, k_cl, k_lt, k_le, k_eq, k_neg, nI_add, nI_mul, k_clt, k_cgt, k_cle, k_cge, k_ceq, bI_0, k_sh8, ne_eq, Nat.add_eq_zero_iff, Nat.one_ne_zero, Nat.succ_ne_zero, and_false, false_and, not_false_eq_true, not_true_eq_false, ite_true, ite_false, if_true, if_false, hne, h6, e12, er]
      · rw [c1, bI_f] at e12
        subst c3
        have hle : ¬ t ≤ bd := by omega
        refine ⟨fun e => ?_, fun e => ?_⟩
        · subst e
          rw [q_171_95]
          simp (disch := omega) only [q_171_0, q_171_1, q_171_2, q_171_3, q_171_6, q_171_9, q_171_12, q_171_13, q_171_14, q_171_17, q_171_20, q_171_22, q_171_23, q_171_24, q_171_25, q_171_28, q_171_29, q_171_32, q_171_35, q_171_37, q_171_38, q_171_39, q_171_41, q_171_42, q_171_45, q_171_46, q_171_47, q_171_50, q_171_51, q_171_52, q_171_54, q_171_55, q_171_56, q_171_59, q_171_62, q_171_65, q_171_66, q_171_69, q_171_70, q_171_71, q_171_74, q_171_75, q_171_76, q_171_77, q_171_78, q_171_79, q_171_82, q_171_83, q_171_84, q_171_87, q_171_88, q_171_91, q_171_92, q_171_93, q_171_96, q_171_97, q_171_100, q_171_101, q_171_104, q_171_106, q_171_107, q_171_110, q_171_111, q_171_112, q_171_113, q_171_114, q_171_117, q_171_118, q_171_121, q_171_122, q_171_123, q_171_126, q_171_129, q_171_130, q_171_131, q_171_132, q_171_135, q_171_136, q_171_137, q_171_138, q_171_140, q_171_141, q_171_142, q_171_144, q_171_146, q_171_149, q_171_152, q_171_153, q_171_154, q_171_156, q_171_157, q_171_160, og_11_6, op_11_6, og_11_7, or_11_7, ow_11_7, og_11_62, op_11_62, og_11_63, op_11_63, og_11_12, or_11_12, ow_11_12, og_11_25, op_11_25, og_11_26, op_11_26, o_is, o_ob, ofs_len11, ↓reduceIte, k_cr, k_ci, k_oR, k_oN, k_aR, k_aN, and_true, true_and, and_self, eq_self, Nat.reduceLT, Nat.reduceLeDiff, Nat.reduceEqDiff, Nat.reduceAdd, Nat.reduceMul, Bool.true_eq_false, Bool.false_eq_true, Nat.add_sub_cancel, Nat.not_lt_zero, Nat.zero_le, k_sub, k_sb1, k_r, k_n, k_ret, k_t1, k_t0, k_nr, k_nn, k_z0, k_z1, k_zb, x_okI, lit_nI, k_in, k_cl, k_lt, k_le, k_eq, k_neg, nI_add, nI_mul, k_clt, k_cgt, k_cle, k_cge, k_ceq, bI_0, k_sh8, ne_eq, Nat.add_eq_zero_iff, Nat.one_ne_zero, Nat.succ_ne_zero, and_false, false_and, not_false_eq_true, not_true_eq_false, ite_true, ite_false, if_true, if_false, hne, hle, h6, e12, er]
        · subst e
          rw [q_171_95]
          simp (disch := omega) only [q_171_0, q_171_1, q_171_2, q_171_3, q_171_6, q_171_9, q_171_12, q_171_13, q_171_14, q_171_17, q_171_20, q_171_22, q_171_23, q_171_24, q_171_25, q_171_28, q_171_29, q_171_32, q_171_35, q_171_37, q_171_38, q_171_39, q_171_41, q_171_42, q_171_45, q_171_46, q_171_47, q_171_50, q_171_51, q_171_52, q_171_54, q_171_55, q_171_56, q_171_59, q_171_62, q_171_65, q_171_66, q_171_69, q_171_70, q_171_71, q_171_74, q_171_75, q_171_76, q_171_77, q_171_78, q_171_79, q_171_82, q_171_83, q_171_84, q_171_87, q_171_88, q_171_91, q_171_92, q_171_93, q_171_96, q_171_97, q_171_100, q_171_101, q_171_104, q_171_106, q_171_107, q_171_110, q_171_111, q_171_112, q_171_113, q_171_114, q_171_117, q_171_118, q_171_121, q_171_122, q_171_123, q_171_126, q_171_129, q_171_130, q_171_131, q_171_132, q_171_135, q_171_136, q_171_137, q_171_138, q_171_140, q_171_141, q_171_142, q_171_144, q_171_146, q_171_149, q_171_152, q_171_153, q_171_154, q_171_156, q_171_157, q_171_160, og_11_6, op_11_6, og_11_7, or_11_7, ow_11_7, og_11_62, op_11_62, og_11_63, op_11_63, og_11_12, or_11_12, ow_11_12, og_11_25, op_11_25, og_11_26, op_11_26, o_is, o_ob, ofs_len11, ↓reduceIte, k_cr, k_ci, k_oR, k_oN, k_aR, k_aN, and_true, true_and, and_self, eq_self, Nat.reduceLT, Nat.reduceLeDiff, Nat.reduceEqDiff, Nat.reduceAdd, Nat.reduceMul, Bool.true_eq_false, Bool.false_eq_true, Nat.add_sub_cancel, Nat.not_lt_zero, Nat.zero_le, k_sub, k_sb1, k_r, k_n, k_ret, k_t1, k_t0, k_nr, k_nn, k_z0, k_z1, k_zb, x_okI, lit_nI, k_in, k_cl, k_lt, k_le, k_eq, k_neg, nI_add, nI_mul, k_clt, k_cgt, k_cle, k_cge, k_ceq, bI_0, k_sh8, ne_eq, Nat.add_eq_zero_iff, Nat.one_ne_zero, Nat.succ_ne_zero, and_false, false_and, not_false_eq_true, not_true_eq_false, ite_true, ite_false, if_true, if_false, hne, hle, h6, e12, er]
      · rw [c1, bI_f] at e12
        subst c3
        have hle : t ≤ bd := by omega
        refine ⟨fun e => ?_, fun e => ?_⟩
        · subst e
          rw [q_171_95]
          simp (disch := omega) only [q_171_0, q_171_1, q_171_2, q_171_3, q_171_6, q_171_9, q_171_12, q_171_13, q_171_14, q_171_17, q_171_20, q_171_22, q_171_23, q_171_24, q_171_25, q_171_28, q_171_29, q_171_32, q_171_35, q_171_37, q_171_38, q_171_39, q_171_41, q_171_42, q_171_45, q_171_46, q_171_47, q_171_50, q_171_51, q_171_52, q_171_54, q_171_55, q_171_56, q_171_59, q_171_62, q_171_65, q_171_66, q_171_69, q_171_70, q_171_71, q_171_74, q_171_75, q_171_76, q_171_77, q_171_78, q_171_79, q_171_82, q_171_83, q_171_84, q_171_87, q_171_88, q_171_91, q_171_92, q_171_93, q_171_96, q_171_97, q_171_100, q_171_101, q_171_104, q_171_106, q_171_107, q_171_110, q_171_111, q_171_112, q_171_113, q_171_114, q_171_117, q_171_118, q_171_121, q_171_122, q_171_123, q_171_126, q_171_129, q_171_130, q_171_131, q_171_132, q_171_135, q_171_136, q_171_137, q_171_138, q_171_140, q_171_141, q_171_142, q_171_144, q_171_146, q_171_149, q_171_152, q_171_153, q_171_154, q_171_156, q_171_157, q_171_160, og_11_6, op_11_6, og_11_7, or_11_7, ow_11_7, og_11_62, op_11_62, og_11_63, op_11_63, og_11_12, or_11_12, ow_11_12, og_11_25, op_11_25, og_11_26, op_11_26, o_is, o_ob, ofs_len11, ↓reduceIte, k_cr, k_ci, k_oR, k_oN, k_aR, k_aN, and_true, true_and, and_self, eq_self, Nat.reduceLT, Nat.reduceLeDiff, Nat.reduceEqDiff, Nat.reduceAdd, Nat.reduceMul, Bool.true_eq_false, Bool.false_eq_true, Nat.add_sub_cancel, Nat.not_lt_zero, Nat.zero_le, k_sub, k_sb1, k_r, k_n, k_ret, k_t1, k_t0, k_nr, k_nn, k_z0, k_z1, k_zb, x_okI, lit_nI, k_in, k_cl, k_lt, k_le, k_eq, k_neg, nI_add, nI_mul, k_clt, k_cgt, k_cle, k_cge, k_ceq, bI_0, k_sh8, ne_eq, Nat.add_eq_zero_iff, Nat.one_ne_zero, Nat.succ_ne_zero, and_false, false_and, not_false_eq_true, not_true_eq_false, ite_true, ite_false, if_true, if_false, hne, hle, h6, e12, er]
        · subst e
          rw [q_171_95]
          simp (disch := omega) only [q_171_0, q_171_1, q_171_2, q_171_3, q_171_6, q_171_9, q_171_12, q_171_13, q_171_14, q_171_17, q_171_20, q_171_22, q_171_23, q_171_24, q_171_25, q_171_28, q_171_29, q_171_32, q_171_35, q_171_37, q_171_38, q_171_39, q_171_41, q_171_42, q_171_45, q_171_46, q_171_47, q_171_50, q_171_51, q_171_52, q_171_54, q_171_55, q_171_56, q_171_59, q_171_62, q_171_65, q_171_66, q_171_69, q_171_70, q_171_71, q_171_74, q_171_75, q_171_76, q_171_77, q_171_78, q_171_79, q_171_82, q_171_83, q_171_84, q_171_87, q_171_88, q_171_91, q_171_92, q_171_93, q_171_96, q_171_97, q_171_100, q_171_101, q_171_104, q_171_106, q_171_107, q_171_110, q_171_111, q_171_112, q_171_113, q_171_114, q_171_117, q_171_118, q_171_121, q_171_122, q_171_123, q_171_126, q_171_129, q_171_130, q_171_131, q_171_132, q_171_135, q_171_136, q_171_137, q_171_138, q_171_140, q_171_141, q_171_142, q_171_144, q_171_146, q_171_149, q_171_152, q_171_153, q_171_154, q_171_156, q_171_157, q_171_160, og_11_6, op_11_6, og_11_7, or_11_7, ow_11_7, og_11_62, op_11_62, og_11_63, op_11_63, og_11_12, or_11_12, ow_11_12, og_11_25, op_11_25, og_11_26, op_11_26, o_is, o_ob, ofs_len11, ↓reduceIte, k_cr, k_ci, k_oR, k_oN, k_aR, k_aN, and_true, true_and, and_self, eq_self, Nat.reduceLT, Nat.reduceLeDiff, Nat.reduceEqDiff, Nat.reduceAdd, Nat.reduceMul, Bool.true_eq_false, Bool.false_eq_true, Nat.add_sub_cancel, Nat.not_lt_zero, Nat.zero_le, k_sub, k_sb1, k_r, k_n, k_ret, k_t1, k_t0, k_nr, k_nn, k_z0, k_z1, k_zb, x_okI, lit_nI, k_in, k_cl, k_lt, k_le, k_eq, k_neg, nI_add, nI_mul, k_clt, k_cgt, k_cle, k_cge, k_ceq, bI_0, k_sh8, ne_eq, Nat.add_eq_zero_iff, Nat.one_ne_zero, Nat.succ_ne_zero, and_false, false_and, not_false_eq_true, not_true_eq_false, ite_true, ite_false, if_true, if_false, hne, hle, h6, e12, er]
    show ∃ S', stK S S' ∧ gwR h M S cN mN ty (d + 8) t st S' _ (match stZ (zK S cN mN ty a b (Lf (8 * a + b))) dr V with
      | .inl q => .inl (q, k)
      | .inr r => wlk (fun a b => zK S cN mN ty a b (Lf (8 * a + b))) dr P b (k + 1) (toV r.1) (x + r.2.1) (y + r.2.2))
    cases hq : stZ (zK S cN mN ty a b (Lf (8 * a + b))) dr V with
    | inl q =>
      rw [hq] at s2
      exact ⟨S1, s1, (st1 0 _ s2).1 rfl⟩
    | inr r =>
      rw [hq] at s2
      obtain ⟨z1, z2, z3, z4, z5, z6⟩ := s2
      obtain ⟨w1, w2, w3⟩ := st_next hK ha8 hRg hvb hq
      have el : (toV r.1).length = r.1.length := List.length_map _
      have ez : (fun a b => zK S1 cN mN ty a b (Lf (8 * a + b))) = (fun a b => zK S cN mN ty a b (Lf (8 * a + b))) := by
        funext a b
        exact zK_fr s1.1 k15_stpP cN mN ty a b _
      obtain ⟨S', i1, i2⟩ := gw_loop d h M (st := st) (H := H) hb ht P b (k + 1) (x + r.2.1) (y + r.2.2) (toV r.1) S1 (1, .int (nI b)) hP' (fun i => by
        rw [(s1.1 12 rfl).2.2.1]
        exact hH i) (hK.fr s1.1 rfl rfl rfl rfl) (fun a b ha hb hh => by
        obtain ⟨⟨n, n1, n2, n3⟩, g2, g3⟩ := hR a b ha hb hh
        refine ⟨⟨n, ?_, n2, ?_⟩, ?_, ?_⟩
        · rw [(s1.1 13 rfl).2.2.1]
          exact n1
        · rw [(s1.1 14 rfl).2.2.1]
          exact n3
        · rw [zK_fr s1.1 k15_stpP]
          exact g2
        · rw [zK_fr s1.1 k15_stpP]
          exact g3) hal.2 (((s1.1 6 rfl).1).trans h6) (by rw [el]; exact z2) (by rw [el]; exact z3) (fun j v hj => by
        have hj : (r.1.map (fun x => (x.2.2.1, x.2.2.2)))[j]? = some v := hj
        rw [List.getElem?_map] at hj
        cases hc : r.1[j]? with
        | none => rw [hc] at hj; cases hj
        | some u =>
          rw [hc] at hj
          cases hj
          exact (z4 j u hc).1) (vlB_fr s1.1 k15_stpP w1) z5 z6 (((s1.1 17 rfl).1).trans h17) (by omega)
      refine ⟨S', s1.trans i1, ?_⟩
      rw [ez] at i2
      show gwR h M S cN mN ty (d + 8) t st S' _ (wlk (fun a b => zK S cN mN ty a b (Lf (8 * a + b))) dr P b (k + 1) (toV r.1) (x + r.2.1) (y + r.2.2))
      rw [(st1 1 _ z1).2 rfl]
      cases hw : wlk (fun a b => zK S cN mN ty a b (Lf (8 * a + b))) dr P b (k + 1) (toV r.1) (x + r.2.1) (y + r.2.2) with
      | inl q =>
        rw [hw] at i2
        exact i2
      | inr r2 =>
        rw [hw] at i2
        obtain ⟨j1, j2, j3, j4, j5, j6, j7⟩ := i2
        refine ⟨j1, j2, j3, j4, ?_, j6, j7⟩
        intro v hv
        obtain ⟨a1, a2⟩ := j5 v hv
        refine ⟨a1, fun o ho => ⟨(a2 o ho).1, fun hr => (a2 o ho).2 ?_⟩⟩
        unfold rw_ at hr ⊢
        rw [(s1.1 5 rfl).2.2.1]
        exact hr
/-- what go leaves alone -/
def gP (k : Nat) : Bool := stpP k || decide (k = 6) || decide (k = 25) || decide (k = 26)
def goR (h : xH) (M : Nat) (S : gS) (cN mN ty : Nat → Nat) (t : Nat) (st : Bool) (run : Option xR) : (rfT × Nat) ⊕ (vL × Nat × Nat) → Prop
  | .inl q => ∃ S', stK S S' ∧ run = some (some (.int (-nI 1)), oh 11 h M (rfX S' q.1 (nI q.2)))
  | .inr r => ∃ S', fr gP S S' ∧ sI S' 25 = nI r.2.1 ∧ sI S' 26 = nI r.2.2 ∧ r.1.length ≤ 60 ∧ vlB S cN mN ty t r.1 ∧ run = some (some (.int (nI r.1.length)), oh 11 h M S') ∧ (st = true → sI S' 6 = sI S 6 ∧ sA S' 7 0 = sA S 7 0 ∧ ∀ q, q < 60 → rvS S' q = rvS S q) ∧ (st = false → sI S' 6 = nI t ∧ sA S' 7 0 = nI r.1.length ∧ ∀ j v, r.1[j]? = some v → wkV S' t v.1 (mN (6 * t + v.1)) j v.2)
theorem m_go (d : Nat) (h : xH) (M : Nat) (S : gS) {bd t : Nat} {st : Bool} {cN mN ty : Nat → Nat} {Lf : Nat → List mT} {dr : Bool} {V : vL} (hb : bd < 8) (ht : t < 8) (hne : bd ≠ t) (hH : hzOK S) (hK : refT S cN mN ty) (hR : ∀ a b, a < 8 → b < 8 → hz S (8 * a + b) = true → ruG S cN mN ty Lf a b) (h6 : sI S 6 = nI bd) (h70 : sA S 7 0 = nI V.length) (hV6 : V.length ≤ 60) (hV : ∀ j v, V[j]? = some v → wkV S bd v.1 (mN (6 * bd + v.1)) j v.2) (hvb : vlB S cN mN ty bd V) (h17 : sI S 17 = bI dr) (hal : alH (hz S) bd (pth (hz S) bd t) = true) : goR h M S cN mN ty t st (xm (d + 9) 171 [.ref M, .int (nI t), .int (bI st)] (oh 11 h M S)) (wlk (fun a b => zK S cN mN ty a b (Lf (8 * a + b))) dr (pth (hz S) bd t) bd 0 V 0 0) := by
  obtain ⟨p1, p2⟩ := pth_ok (hz S) hb ht hne
  have eL : xm (d + 8) 172 [.ref M, .int (nI bd), .int (nI t)] (oh 11 h M S) = _ := m_leads (d + 7) h M S hH hb ht hne
  rw [hal, bI_t] at eL
  have hin : (decide ((0 : Int64) ≤ (nI t).toInt64) && decide ((nI t).toInt64 ≤ 7)) = true := by
    have := inR_nI (n := t) (hi := 7) (by omega) (by omega)
    rw [decide_eq_true (show t ≤ 7 by omega)] at this
    exact this
  obtain ⟨S1, i1, i2, i3⟩ := gi_loop (d + 7) h M hV6 (t := nI t) (b := bI st) V.length 0 S (by omega) h70
  have hne2 : ¬ t = bd := fun e => hne e.symm
  have e70 : sA S1 7 0 = nI V.length := by
    rw [(i2 7 rfl).2.2.1]
    exact h70
  have e1 : xm (d + 9) 171 [.ref M, .int (nI t), .int (bI st)] (oh 11 h M S) = xrun (d + 8) 171 95 [(1, .ref M), (1, .int (nI t)), (1, .int (bI st)), (1, .int (nI bd)), (1, .int (nI 0)), (0, .null)] [] (oh 11 h M (uI (uI (uA S1 7 1 (nI V.length)) 62 (nI 0)) 63 (nI 0))) := by
    have e6 : sI (uI (uI (uA S1 7 1 (nI V.length)) 62 (nI 0)) 63 (nI 0)) 6 = nI bd := ((i2 6 rfl).1).trans h6
    rw [E_171 _ _ _ _ _ rfl]
    simp (disch := omega) only [q_171_0, q_171_1, q_171_2, q_171_3, q_171_6, q_171_9, q_171_12, q_171_13, q_171_14, q_171_17, q_171_20, q_171_22, q_171_23, q_171_24, q_171_25, q_171_28, q_171_29, q_171_32, q_171_35, q_171_37, q_171_38, q_171_39, og_11_6, op_11_6, og_11_7, or_11_7, ow_11_7, og_11_62, op_11_62, og_11_63, op_11_63, og_11_12, or_11_12, ow_11_12, og_11_25, op_11_25, og_11_26, op_11_26, o_is, o_ob, ofs_len11, ↓reduceIte, k_cr, k_ci, k_oR, k_oN, k_aR, k_aN, and_true, true_and, and_self, eq_self, Nat.reduceLT, Nat.reduceLeDiff, Nat.reduceEqDiff, Nat.reduceAdd, Nat.reduceMul, Bool.true_eq_false, Bool.false_eq_true, Nat.add_sub_cancel, Nat.not_lt_zero, Nat.zero_le, k_sub, k_sb1, k_r, k_n, k_ret, k_t1, k_t0, k_nr, k_nn, k_z0, k_z1, k_zb, x_okI, lit_nI, k_in, k_cl, k_lt, k_le, k_eq, k_neg, nI_add, nI_mul, k_clt, k_cgt, k_cle, k_cge, k_ceq, bI_0, k_sh8, ne_eq, Nat.add_eq_zero_iff, Nat.one_ne_zero, Nat.succ_ne_zero, and_false, false_and, not_false_eq_true, not_true_eq_false, ite_true, ite_false, if_true, if_false, m_in, hin, h6, hne2, eL]
    rw [i1]
    simp (disch := omega) only [q_171_65, q_171_66, q_171_69, q_171_70, q_171_71, q_171_74, q_171_75, q_171_76, q_171_77, q_171_78, q_171_79, q_171_82, q_171_83, q_171_84, q_171_87, q_171_88, q_171_91, q_171_92, q_171_93, og_11_7, or_11_7, ow_11_7, op_11_62, op_11_63, og_11_6, o_ob, ofs_len11, ↓reduceIte, k_cr, k_ci, k_oR, k_oN, k_aR, k_aN, and_true, true_and, and_self, eq_self, Nat.reduceLT, Nat.reduceLeDiff, Nat.reduceEqDiff, Nat.reduceAdd, Nat.reduceMul, Bool.true_eq_false, Bool.false_eq_true, Nat.add_sub_cancel, Nat.not_lt_zero, Nat.zero_le, k_sub, k_sb1, k_r, k_n, k_ret, k_t1, k_t0, k_nr, k_nn, k_z0, k_z1, k_zb, x_okI, lit_nI, k_in, k_cl, k_lt, k_le, k_eq, k_neg, nI_add, nI_mul, k_clt, k_cgt, k_cle, k_cge, k_ceq, bI_0, k_sh8, ne_eq, Nat.add_eq_zero_iff, Nat.one_ne_zero, Nat.succ_ne_zero, and_false, false_and, not_false_eq_true, not_true_eq_false, ite_true, ite_false, if_true, if_false, e70, e6]
  have fS2 : fr stpP S (uI (uI (uA S1 7 1 (nI V.length)) 62 (nI 0)) 63 (nI 0)) := (((i2.mono (fun k hk => by
    unfold stpP at hk
    unfold vlP
    simp only [Bool.or_eq_false_iff, Bool.and_eq_false_iff, decide_eq_false_iff_not] at hk ⊢
    omega)).uA (by decide)).uI (by decide)).uI (by decide)
  have rv2 : ∀ q, rvS (uI (uI (uA S1 7 1 (nI V.length)) 62 (nI 0)) 63 (nI 0)) q = rvS S1 q := fun q => rvS_fr (P := fun k => decide (k = 7) || decide (k = 62) || decide (k = 63)) (((fr.rfl.uA (by decide)).uI (by decide)).uI (by decide)) rfl rfl rfl rfl q
  have k2 : stK S (uI (uI (uA S1 7 1 (nI V.length)) 62 (nI 0)) 63 (nI 0)) := ⟨fS2, fun q hq => by
    rw [rv2, i3, if_neg (by omega)], by
    show sA (uA S1 7 1 (nI V.length)) 7 0 = _
    rw [sA_uA, if_neg (by decide), (i2 7 rfl).2.2.1]⟩
  have ez : (fun a b => zK (uI (uI (uA S1 7 1 (nI V.length)) 62 (nI 0)) 63 (nI 0)) cN mN ty a b (Lf (8 * a + b))) = (fun a b => zK S cN mN ty a b (Lf (8 * a + b))) := by
    funext a b
    exact zK_fr fS2 k15_stpP cN mN ty a b _
  obtain ⟨S3, w1, w2⟩ := gw_loop d h M (st := bI st) (H := hz S) (dr := dr) (bd := bd) (t := t) (cN := cN) (mN := mN) (ty := ty) (Lf := Lf) hb ht (pth (hz S) bd t) bd 0 0 0 V (uI (uI (uA S1 7 1 (nI V.length)) 62 (nI 0)) 63 (nI 0)) (0, .null) p1 (fun i => by
    rw [(fS2 12 rfl).2.2.1]
    exact hH i) (hK.fr fS2 rfl rfl rfl rfl) (fun a b ha hb hh => by
    obtain ⟨⟨n, n1, n2, n3⟩, g2, g3⟩ := hR a b ha hb hh
    refine ⟨⟨n, ?_, n2, ?_⟩, ?_, ?_⟩
    · rw [(fS2 13 rfl).2.2.1]
      exact n1
    · rw [(fS2 14 rfl).2.2.1]
      exact n3
    · rw [zK_fr fS2 k15_stpP]
      exact g2
    · rw [zK_fr fS2 k15_stpP]
      exact g3) hal (((fS2 6 rfl).1).trans h6) (by
    show sA (uA S1 7 1 (nI V.length)) 7 1 = _
    rw [sA_uA, if_pos ⟨rfl, rfl⟩]) hV6 (fun j v hj => by
    have hl := get_lt hj
    refine (hV j v hj).mv ?_ ((fS2 2 rfl).2.2.1) (by omega)
    rw [rv2, i3, if_pos (by omega), Nat.add_sub_cancel_left]) (vlB_fr fS2 k15_stpP hvb) rfl rfl (((fS2 17 rfl).1).trans h17) (by omega)
  rw [ez] at w2
  rw [e1]
  cases hw : wlk (fun a b => zK S cN mN ty a b (Lf (8 * a + b))) dr (pth (hz S) bd t) bd 0 V 0 0 with
  | inl q =>
    rw [hw] at w2
    exact ⟨S3, k2.trans w1, w2⟩
  | inr r =>
    rw [hw] at w2
    obtain ⟨⟨l4, l5, j1⟩, j2, j3, j4, j5, j6, j7⟩ := w2
    have kS := k2.trans w1
    have vb : vlB S cN mN ty t r.1 := by
      intro v hv
      obtain ⟨a1, a2⟩ := j5 v hv
      refine ⟨a1, fun o ho => ⟨(a2 o ho).1, fun hr => (a2 o ho).2 ?_⟩⟩
      unfold rw_ at hr ⊢
      rw [(fS2 5 rfl).2.2.1]
      exact hr
    have g0 : fr gP S S3 := kS.1.mono (fun k hk => by
      unfold gP at hk
      simp only [Bool.or_eq_false_iff] at hk
      exact hk.1.1.1)
    cases st with
    | true =>
      refine ⟨uI (uI S3 25 (nI r.2.1)) 26 (nI r.2.2), (g0.uI (by decide)).uI (by decide), rfl, rfl, j3, vb, ?_, fun _ => ⟨(kS.1 6 rfl).1, kS.2.2, fun q hq => (rvS_fr (P := fun k => decide (k = 25) || decide (k = 26)) ((fr.rfl.uI (by decide)).uI (by decide)) rfl rfl rfl rfl q).trans (kS.2.1 q hq)⟩, fun e => by cases e⟩
      have e71 : sA (uI (uI S3 25 (nI r.2.1)) 26 (nI r.2.2)) 7 1 = nI r.1.length := j2
      have e63 : sI (uI S3 25 (nI r.2.1)) 63 = nI r.2.2 := j7
      rw [j1, bI_t]
      simp (disch := omega) only [q_171_163, q_171_164, q_171_165, q_171_168, q_171_171, q_171_172, q_171_173, q_171_176, q_171_179, q_171_180, q_171_183, q_171_184, q_171_187, q_171_188, q_171_189, q_171_190, q_171_191, q_171_195, q_171_196, q_171_199, q_171_200, q_171_201, q_171_204, q_171_205, q_171_207, q_171_209, q_171_210, q_171_212, q_171_215, q_171_218, q_171_221, q_171_222, q_171_225, q_171_226, q_171_227, q_171_230, q_171_231, q_171_232, q_171_233, q_171_234, q_171_235, q_171_238, q_171_239, q_171_242, q_171_243, q_171_244, og_11_6, op_11_6, og_11_7, or_11_7, ow_11_7, og_11_62, op_11_62, og_11_63, op_11_63, og_11_12, or_11_12, ow_11_12, og_11_25, op_11_25, og_11_26, op_11_26, o_is, o_ob, ofs_len11, ↓reduceIte, k_cr, k_ci, k_oR, k_oN, k_aR, k_aN, and_true, true_and, and_self, eq_self, Nat.reduceLT, Nat.reduceLeDiff, Nat.reduceEqDiff, Nat.reduceAdd, Nat.reduceMul, Bool.true_eq_false, Bool.false_eq_true, Nat.add_sub_cancel, Nat.not_lt_zero, Nat.zero_le, k_sub, k_sb1, k_r, k_n, k_ret, k_t1, k_t0, k_nr, k_nn, k_z0, k_z1, k_zb, x_okI, lit_nI, k_in, k_cl, k_lt, k_le, k_eq, k_neg, nI_add, nI_mul, k_clt, k_cgt, k_cle, k_cge, k_ceq, bI_0, k_sh8, ne_eq, Nat.add_eq_zero_iff, Nat.one_ne_zero, Nat.succ_ne_zero, and_false, false_and, not_false_eq_true, not_true_eq_false, ite_true, ite_false, if_true, if_false, j6, e63, e71]
    | false =>
      have e71 : sA (uI (uI S3 25 (nI r.2.1)) 26 (nI r.2.2)) 7 1 = nI r.1.length := j2
      have e63 : sI (uI S3 25 (nI r.2.1)) 63 = nI r.2.2 := j7
      obtain ⟨S4, o1, o2, o3⟩ := go_loop (d + 7) h M j3 (t := nI t) (b := bI false) (l3 := nI t) (l4 := l4) r.1.length 0 (uI (uI S3 25 (nI r.2.1)) 26 (nI r.2.2)) (by omega) e71
      have g4 : fr gP S (uI (uA S4 7 0 (nI r.1.length)) 6 (nI t)) := (((g0.uI (j := 25) (by decide)).uI (j := 26) (by decide)).trans (o2.mono (fun k hk => by
        unfold gP stpP at hk
        unfold vlP
        simp only [Bool.or_eq_false_iff, Bool.and_eq_false_iff, decide_eq_false_iff_not] at hk ⊢
        omega))).uA (by decide) |>.uI (by decide)
      refine ⟨uI (uA S4 7 0 (nI r.1.length)) 6 (nI t), g4, ((o2 25 rfl).1).trans rfl, ((o2 26 rfl).1).trans rfl, j3, vb, ?_, fun e => (by cases e), fun _ => ⟨rfl, ?_, fun j v hj => ?_⟩⟩
      · rw [j1, bI_f] at *
        rw [← o1]
        simp (disch := omega) only [q_171_163, q_171_164, q_171_165, q_171_168, q_171_171, q_171_172, q_171_173, q_171_176, q_171_179, q_171_180, q_171_183, q_171_184, q_171_187, q_171_188, q_171_189, q_171_190, q_171_191, q_171_195, q_171_196, q_171_199, q_171_200, q_171_201, q_171_204, q_171_205, q_171_207, q_171_209, q_171_210, q_171_212, q_171_215, q_171_218, q_171_221, q_171_222, q_171_225, q_171_226, q_171_227, q_171_230, q_171_231, q_171_232, q_171_233, q_171_234, q_171_235, q_171_238, q_171_239, q_171_242, q_171_243, q_171_244, og_11_6, op_11_6, og_11_7, or_11_7, ow_11_7, og_11_62, op_11_62, og_11_63, op_11_63, og_11_12, or_11_12, ow_11_12, og_11_25, op_11_25, og_11_26, op_11_26, o_is, o_ob, ofs_len11, ↓reduceIte, k_cr, k_ci, k_oR, k_oN, k_aR, k_aN, and_true, true_and, and_self, eq_self, Nat.reduceLT, Nat.reduceLeDiff, Nat.reduceEqDiff, Nat.reduceAdd, Nat.reduceMul, Bool.true_eq_false, Bool.false_eq_true, Nat.add_sub_cancel, Nat.not_lt_zero, Nat.zero_le, k_sub, k_sb1, k_r, k_n, k_ret, k_t1, k_t0, k_nr, k_nn, k_z0, k_z1, k_zb, x_okI, lit_nI, k_in, k_cl, k_lt, k_le, k_eq, k_neg, nI_add, nI_mul, k_clt, k_cgt, k_cle, k_cge, k_ceq, bI_0, k_sh8, ne_eq, Nat.add_eq_zero_iff, Nat.one_ne_zero, Nat.succ_ne_zero, and_false, false_and, not_false_eq_true, not_true_eq_false, ite_true, ite_false, if_true, if_false, j6, e63, e71]
      · show sA (uA S4 7 0 (nI r.1.length)) 7 0 = _
        rw [sA_uA, if_pos ⟨rfl, rfl⟩]
      · have hl := get_lt hj
        refine (j4 j v hj).mv ?_ ?_ (by omega)
        · rw [rvS_fr (P := fun k => decide (k = 7) || decide (k = 6)) ((fr.rfl.uA (by decide)).uI (by decide)) rfl rfl rfl rfl j, o3, if_pos (by omega)]
          exact rvS_fr (P := fun k => decide (k = 25) || decide (k = 26)) ((fr.rfl.uI (by decide)).uI (by decide)) rfl rfl rfl rfl (60 + j)
        · show sA (uA S4 7 0 (nI r.1.length)) 2 = _
          rw [sA_uA_ne _ _ _ (by decide), (o2 2 rfl).2.2.1]
          rfl
/-- no way, or none of these BUILDS -/
theorem m_go_no (d : Nat) (h : xH) (M : Nat) (S : gS) {bd : Nat} {t st : Int32} (hb : bd < 8) (hH : hzOK S) (h6 : sI S 6 = nI bd) : (inR t 0 7 = false ∨ t = nI bd → xm (d + 3) 171 [.ref M, .int t, .int st] (oh 11 h M S) = some (some (.int (-nI 2)), oh 11 h M S)) ∧ ∀ k, t = nI k → k < 8 → bd ≠ k → alH (hz S) bd (pth (hz S) bd k) = false → xm (d + 3) 171 [.ref M, .int t, .int st] (oh 11 h M S) = some (some (.int (-nI 4)), oh 11 h M S) := by
  refine ⟨fun hc => ?_, fun k hk hk8 hne hal => ?_⟩
  · rw [E_171 _ _ _ _ _ rfl]
    cases hi : inR t 0 7 with
    | false =>
      have hf' : (decide (0 ≤ t.toInt64) && decide (t.toInt64 ≤ 7)) = false := hi
      simp (disch := omega) only [q_171_0, q_171_1, q_171_2, q_171_3, q_171_6, q_171_9, q_171_12, q_171_13, q_171_14, q_171_17, q_171_20, q_171_22, q_171_23, q_171_24, q_171_25, q_171_28, q_171_29, q_171_32, q_171_35, q_171_37, q_171_38, q_171_39, og_11_6, op_11_6, og_11_7, or_11_7, ow_11_7, og_11_62, op_11_62, og_11_63, op_11_63, og_11_12, or_11_12, ow_11_12, og_11_25, op_11_25, og_11_26, op_11_26, o_is, o_ob, ofs_len11, ↓reduceIte, k_cr, k_ci, k_oR, k_oN, k_aR, k_aN, and_true, true_and, and_self, eq_self, Nat.reduceLT, Nat.reduceLeDiff, Nat.reduceEqDiff, Nat.reduceAdd, Nat.reduceMul, Bool.true_eq_false, Bool.false_eq_true, Nat.add_sub_cancel, Nat.not_lt_zero, Nat.zero_le, k_sub, k_sb1, k_r, k_n, k_ret, k_t1, k_t0, k_nr, k_nn, k_z0, k_z1, k_zb, x_okI, lit_nI, k_in, k_cl, k_lt, k_le, k_eq, k_neg, nI_add, nI_mul, k_clt, k_cgt, k_cle, k_cge, k_ceq, bI_0, k_sh8, ne_eq, Nat.add_eq_zero_iff, Nat.one_ne_zero, Nat.succ_ne_zero, and_false, false_and, not_false_eq_true, not_true_eq_false, ite_true, ite_false, if_true, if_false, m_in, hf', bI_f]
    | true =>
      have hf' : (decide (0 ≤ t.toInt64) && decide (t.toInt64 ≤ 7)) = true := hi
      have e : t = nI bd := hc.elim (fun z => by rw [hi] at z; cases z) id
      subst e
      simp (disch := omega) only [q_171_0, q_171_1, q_171_2, q_171_3, q_171_6, q_171_9, q_171_12, q_171_13, q_171_14, q_171_17, q_171_20, q_171_22, q_171_23, q_171_24, q_171_25, q_171_28, q_171_29, q_171_32, q_171_35, q_171_37, q_171_38, q_171_39, og_11_6, op_11_6, og_11_7, or_11_7, ow_11_7, og_11_62, op_11_62, og_11_63, op_11_63, og_11_12, or_11_12, ow_11_12, og_11_25, op_11_25, og_11_26, op_11_26, o_is, o_ob, ofs_len11, ↓reduceIte, k_cr, k_ci, k_oR, k_oN, k_aR, k_aN, and_true, true_and, and_self, eq_self, Nat.reduceLT, Nat.reduceLeDiff, Nat.reduceEqDiff, Nat.reduceAdd, Nat.reduceMul, Bool.true_eq_false, Bool.false_eq_true, Nat.add_sub_cancel, Nat.not_lt_zero, Nat.zero_le, k_sub, k_sb1, k_r, k_n, k_ret, k_t1, k_t0, k_nr, k_nn, k_z0, k_z1, k_zb, x_okI, lit_nI, k_in, k_cl, k_lt, k_le, k_eq, k_neg, nI_add, nI_mul, k_clt, k_cgt, k_cle, k_cge, k_ceq, bI_0, k_sh8, ne_eq, Nat.add_eq_zero_iff, Nat.one_ne_zero, Nat.succ_ne_zero, and_false, false_and, not_false_eq_true, not_true_eq_false, ite_true, ite_false, if_true, if_false, m_in, hf', h6]
  · subst hk
    have hin : (decide ((0 : Int64) ≤ (nI k).toInt64) && decide ((nI k).toInt64 ≤ 7)) = true := by
      have := inR_nI (n := k) (hi := 7) (by omega) (by omega)
      rw [decide_eq_true (show k ≤ 7 by omega)] at this
      exact this
    have hne2 : ¬ k = bd := fun e => hne e.symm
    have eL : xm (d + 2) 172 [.ref M, .int (nI bd), .int (nI k)] (oh 11 h M S) = _ := m_leads (d + 1) h M S hH hb hk8 hne
    rw [hal, bI_f] at eL
    rw [E_171 _ _ _ _ _ rfl]
    simp (disch := omega) only [q_171_0, q_171_1, q_171_2, q_171_3, q_171_6, q_171_9, q_171_12, q_171_13, q_171_14, q_171_17, q_171_20, q_171_22, q_171_23, q_171_24, q_171_25, q_171_28, q_171_29, q_171_32, q_171_35, q_171_37, q_171_38, q_171_39, og_11_6, op_11_6, og_11_7, or_11_7, ow_11_7, og_11_62, op_11_62, og_11_63, op_11_63, og_11_12, or_11_12, ow_11_12, og_11_25, op_11_25, og_11_26, op_11_26, o_is, o_ob, ofs_len11, ↓reduceIte, k_cr, k_ci, k_oR, k_oN, k_aR, k_aN, and_true, true_and, and_self, eq_self, Nat.reduceLT, Nat.reduceLeDiff, Nat.reduceEqDiff, Nat.reduceAdd, Nat.reduceMul, Bool.true_eq_false, Bool.false_eq_true, Nat.add_sub_cancel, Nat.not_lt_zero, Nat.zero_le, k_sub, k_sb1, k_r, k_n, k_ret, k_t1, k_t0, k_nr, k_nn, k_z0, k_z1, k_zb, x_okI, lit_nI, k_in, k_cl, k_lt, k_le, k_eq, k_neg, nI_add, nI_mul, k_clt, k_cgt, k_cle, k_cge, k_ceq, bI_0, k_sh8, ne_eq, Nat.add_eq_zero_iff, Nat.one_ne_zero, Nat.succ_ne_zero, and_false, false_and, not_false_eq_true, not_true_eq_false, ite_true, ite_false, if_true, if_false, m_in, hin, h6, hne2, eL]
