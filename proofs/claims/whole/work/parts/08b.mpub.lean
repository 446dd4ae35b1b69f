/-! Public methods of the reference, the plain ones. -/
/-- a whole number from lo to hi -/
def inR (b : Int32) (lo hi : Int64) : Bool := decide (lo ≤ b.toInt64) && decide (b.toInt64 ≤ hi)
theorem inR_nI {n hi : Nat} (hn : n < 2147483648) (hh : hi < 2147483648) : inR (nI n) 0 (lN hi) = decide (n ≤ hi) := by
  unfold inR
  rw [nI_l hn]
  have h1 : (0 : Int64) ≤ lN n := by
    rw [Int64.le_iff_toInt_le, lN_toInt hn]
    simp
  have h2 : (lN n ≤ lN hi) = (n ≤ hi) := by
    rw [Int64.le_iff_toInt_le, lN_toInt hn, lN_toInt hh]
    exact propext Int.ofNat_le
  simp [h1, h2]
theorem inR_of {b : Int32} {hi : Nat} (hh : hi < 2147483648) (h : inR b 0 (lN hi) = true) : ∃ n, n ≤ hi ∧ b = nI n := by
  unfold inR at h
  rw [Bool.and_eq_true, decide_eq_true_eq, decide_eq_true_eq] at h
  have h1 := Int64.le_iff_toInt_le.mp h.1
  have h2 := Int64.le_iff_toInt_le.mp h.2
  rw [Int32.toInt_toInt64] at h1 h2
  rw [lN_toInt hh] at h2
  have h3 : (0 : Int) ≤ b.toInt := by simpa using h1
  refine ⟨b.toInt.toNat, by omega, ?_⟩
  apply Int32.toInt_inj.mp
  rw [nI_toInt (by omega)]
  omega
theorem inR_pred {b : Int32} {n : Nat} (hn : n < 2147483648) : inR b 0 (nI n - nI 1).toInt64 = true ↔ ∃ k, k < n ∧ b = nI k := by
  have hp : (nI n - nI 1).toInt = (n : Int) - 1 := by
    cases n with
    | zero => decide
    | succ n =>
      rw [k_sb1, nI_toInt (by omega)]
      omega
  constructor
  · intro h
    unfold inR at h
    rw [Bool.and_eq_true, decide_eq_true_eq, decide_eq_true_eq] at h
    have h1 := Int64.le_iff_toInt_le.mp h.1
    have h2 := Int64.le_iff_toInt_le.mp h.2
    rw [Int32.toInt_toInt64] at h1 h2
    rw [Int32.toInt_toInt64, hp] at h2
    have h3 : (0 : Int) ≤ b.toInt := by simpa using h1
    refine ⟨b.toInt.toNat, by omega, ?_⟩
    apply Int32.toInt_inj.mp
    rw [nI_toInt (by omega)]
    omega
  · rintro ⟨k, hk, rfl⟩
    unfold inR
    rw [Bool.and_eq_true, decide_eq_true_eq, decide_eq_true_eq]
    constructor
    · rw [Int64.le_iff_toInt_le, Int32.toInt_toInt64, nI_toInt (by omega)]
      simp
    · rw [Int64.le_iff_toInt_le, Int32.toInt_toInt64, Int32.toInt_toInt64, hp, nI_toInt (by omega)]
      omega
theorem m_begin (d : Nat) (h : xH) (M : Nat) (S : gS) (b : Int32) : xm (d + 2) 134 [.ref M, .int b] (oh 11 h M S) = if inR b 0 7 = true then some (some (.int (sA S 7 0)), oh 11 h M (uA (uI S 6 b) 7 0 (nI 0))) else some (some (.int (-nI 2)), oh 11 h M S) := by
  rw [E_134 _ _ _ _ rfl]
  simp (disch := omega) only [q_134_0, q_134_1, q_134_2, q_134_3, q_134_6, q_134_9, q_134_12, q_134_14, q_134_15, q_134_16, q_134_19, q_134_20, q_134_21, q_134_22, q_134_23, q_134_24, q_134_27, q_134_28, q_134_31, q_134_32, q_134_33, q_134_34, q_134_35, og_11_7, or_11_7, ow_11_7, og_11_6, op_11_6, o_is, o_ob, ofs_len11, k_cr, k_ci, k_oR, k_oN, k_aR, k_aN, and_true, true_and, and_self, eq_self, Nat.reduceLT, Nat.reduceLeDiff, Nat.reduceEqDiff, Nat.reduceAdd, Nat.reduceMul, Bool.true_eq_false, Bool.false_eq_true, Nat.add_sub_cancel, Nat.not_lt_zero, Nat.zero_le, k_sub, k_sb1, k_r, k_n, k_ret, k_t1, k_t0, k_nr, k_nn, k_z0, k_z1, k_zb, x_okI, lit_nI, k_in, k_cl, k_lt, k_le, k_eq, k_neg, nI_add, nI_mul, k_clt, k_cgt, k_cle, k_cge, k_ceq, bI_0, k_sh8, ne_eq, Nat.add_eq_zero_iff, Nat.one_ne_zero, Nat.succ_ne_zero, and_false, false_and, not_false_eq_true, not_true_eq_false, ite_true, ite_false, if_true, if_false, sI_uI, sJ_uI, sA_uI, sL_uI, sR_uI, sQ_uI, sI_uJ, sJ_uJ, sA_uJ, sL_uJ, sR_uJ, sQ_uJ, sI_uA, sJ_uA, sA_uA, sL_uA, sR_uA, sQ_uA, sI_uL, sJ_uL, sA_uL, sL_uL, sR_uL, sQ_uL, sI_uR, sJ_uR, sA_uR, sL_uR, sR_uR, sQ_uR, sI_uQ, sJ_uQ, sA_uQ, sL_uQ, sR_uQ, sQ_uQ, m_in]
  unfold inR
  cases hb : (decide (0 ≤ b.toInt64) && decide (b.toInt64 ≤ 7)) <;> simp
theorem m_unknown (d : Nat) (h : xH) (M : Nat) (S : gS) (b : Int32) : xm (d + 2) 194 [.ref M, .int b] (oh 11 h M S) = if inR b 0 1 = true then some (some (.int (sI S 17)), oh 11 h M (uI S 17 b)) else some (some (.int (-nI 2)), oh 11 h M S) := by
  rw [E_194 _ _ _ _ rfl]
  simp (disch := omega) only [q_194_0, q_194_1, q_194_2, q_194_3, q_194_4, q_194_7, q_194_10, q_194_12, q_194_13, q_194_14, q_194_17, q_194_18, q_194_19, q_194_20, q_194_23, q_194_24, og_11_17, op_11_17, o_is, o_ob, ofs_len11, k_cr, k_ci, k_oR, k_oN, k_aR, k_aN, and_true, true_and, and_self, eq_self, Nat.reduceLT, Nat.reduceLeDiff, Nat.reduceEqDiff, Nat.reduceAdd, Nat.reduceMul, Bool.true_eq_false, Bool.false_eq_true, Nat.add_sub_cancel, Nat.not_lt_zero, Nat.zero_le, k_sub, k_sb1, k_r, k_n, k_ret, k_t1, k_t0, k_nr, k_nn, k_z0, k_z1, k_zb, x_okI, lit_nI, k_in, k_cl, k_lt, k_le, k_eq, k_neg, nI_add, nI_mul, k_clt, k_cgt, k_cle, k_cge, k_ceq, bI_0, k_sh8, ne_eq, Nat.add_eq_zero_iff, Nat.one_ne_zero, Nat.succ_ne_zero, and_false, false_and, not_false_eq_true, not_true_eq_false, ite_true, ite_false, if_true, if_false, sI_uI, sJ_uI, sA_uI, sL_uI, sR_uI, sQ_uI, sI_uJ, sJ_uJ, sA_uJ, sL_uJ, sR_uJ, sQ_uJ, sI_uA, sJ_uA, sA_uA, sL_uA, sR_uA, sQ_uA, sI_uL, sJ_uL, sA_uL, sL_uL, sR_uL, sQ_uL, sI_uR, sJ_uR, sA_uR, sL_uR, sR_uR, sQ_uR, sI_uQ, sJ_uQ, sA_uQ, sL_uQ, sR_uQ, sQ_uQ, m_in]
  unfold inR
  cases hb : (decide (0 ≤ b.toInt64) && decide (b.toInt64 ≤ 1)) <;> simp
theorem m_lost (d : Nat) (h : xH) (M : Nat) (S : gS) (b : Int32) : xm (d + 2) 197 [.ref M, .int b] (oh 11 h M S) = some (some (.int (if inR b 0 1 = true then (if b = nI 0 then sI S 25 else sI S 26) else -nI 2)), oh 11 h M S) := by
  rw [E_197 _ _ _ _ rfl]
  simp (disch := omega) only [q_197_0, q_197_1, q_197_2, q_197_3, q_197_4, q_197_7, q_197_10, q_197_12, q_197_13, q_197_14, q_197_17, q_197_18, q_197_21, q_197_24, q_197_25, q_197_28, og_11_25, og_11_26, o_is, o_ob, ofs_len11, k_cr, k_ci, k_oR, k_oN, k_aR, k_aN, and_true, true_and, and_self, eq_self, Nat.reduceLT, Nat.reduceLeDiff, Nat.reduceEqDiff, Nat.reduceAdd, Nat.reduceMul, Bool.true_eq_false, Bool.false_eq_true, Nat.add_sub_cancel, Nat.not_lt_zero, Nat.zero_le, k_sub, k_sb1, k_r, k_n, k_ret, k_t1, k_t0, k_nr, k_nn, k_z0, k_z1, k_zb, x_okI, lit_nI, k_in, k_cl, k_lt, k_le, k_eq, k_neg, nI_add, nI_mul, k_clt, k_cgt, k_cle, k_cge, k_ceq, bI_0, k_sh8, ne_eq, Nat.add_eq_zero_iff, Nat.one_ne_zero, Nat.succ_ne_zero, and_false, false_and, not_false_eq_true, not_true_eq_false, ite_true, ite_false, if_true, if_false, sI_uI, sJ_uI, sA_uI, sL_uI, sR_uI, sQ_uI, sI_uJ, sJ_uJ, sA_uJ, sL_uJ, sR_uJ, sQ_uJ, sI_uA, sJ_uA, sA_uA, sL_uA, sR_uA, sQ_uA, sI_uL, sJ_uL, sA_uL, sL_uL, sR_uL, sQ_uL, sI_uR, sJ_uR, sA_uR, sL_uR, sR_uR, sQ_uR, sI_uQ, sJ_uQ, sA_uQ, sL_uQ, sR_uQ, sQ_uQ, m_in]
  unfold inR
  cases hb : (decide (0 ≤ b.toInt64) && decide (b.toInt64 ≤ 1))
  · simp
  · by_cases h0 : b = nI 0 <;> simp [h0]
theorem m_refused (d : Nat) (h : xH) (M : Nat) (S : gS) (b : Int32) (w : Bool) (hw : sI S 24 = bI w) : xm (d + 2) 195 [.ref M, .int b] (oh 11 h M S) = some (some (.int (if inR b 0 3 = true then (if w = true then (if b = nI 0 then sI S 18 else if b = nI 1 then sI S 19 else if b = nI 2 then sI S 20 else sI S 21) else -nI 1) else -nI 2)), oh 11 h M S) := by
  rw [E_195 _ _ _ _ rfl]
  simp (disch := omega) only [q_195_0, q_195_1, q_195_2, q_195_3, q_195_6, q_195_9, q_195_12, q_195_14, q_195_15, q_195_16, q_195_19, q_195_22, q_195_23, q_195_24, q_195_25, q_195_28, q_195_29, q_195_32, q_195_35, q_195_36, q_195_37, q_195_40, q_195_41, q_195_44, q_195_47, q_195_48, q_195_49, q_195_52, q_195_53, q_195_56, q_195_59, q_195_60, q_195_63, og_11_24, og_11_18, og_11_19, og_11_20, og_11_21, o_is, o_ob, ofs_len11, k_cr, k_ci, k_oR, k_oN, k_aR, k_aN, and_true, true_and, and_self, eq_self, Nat.reduceLT, Nat.reduceLeDiff, Nat.reduceEqDiff, Nat.reduceAdd, Nat.reduceMul, Bool.true_eq_false, Bool.false_eq_true, Nat.add_sub_cancel, Nat.not_lt_zero, Nat.zero_le, k_sub, k_sb1, k_r, k_n, k_ret, k_t1, k_t0, k_nr, k_nn, k_z0, k_z1, k_zb, x_okI, lit_nI, k_in, k_cl, k_lt, k_le, k_eq, k_neg, nI_add, nI_mul, k_clt, k_cgt, k_cle, k_cge, k_ceq, bI_0, k_sh8, ne_eq, Nat.add_eq_zero_iff, Nat.one_ne_zero, Nat.succ_ne_zero, and_false, false_and, not_false_eq_true, not_true_eq_false, ite_true, ite_false, if_true, if_false, sI_uI, sJ_uI, sA_uI, sL_uI, sR_uI, sQ_uI, sI_uJ, sJ_uJ, sA_uJ, sL_uJ, sR_uJ, sQ_uJ, sI_uA, sJ_uA, sA_uA, sL_uA, sR_uA, sQ_uA, sI_uL, sJ_uL, sA_uL, sL_uL, sR_uL, sQ_uL, sI_uR, sJ_uR, sA_uR, sL_uR, sR_uR, sQ_uR, sI_uQ, sJ_uQ, sA_uQ, sL_uQ, sR_uQ, sQ_uQ, m_in, hw]
  unfold inR
  cases hb : (decide (0 ≤ b.toInt64) && decide (b.toInt64 ≤ 3))
  · simp
  · cases w
    · simp
    · by_cases h0 : b = nI 0
      · simp [h0]
      · by_cases h1 : b = nI 1
        · simp only [if_neg h0, if_pos h1, Bool.true_eq_false, if_false, if_true]
        · by_cases h2 : b = nI 2
          · simp only [if_neg h0, if_neg h1, if_pos h2, Bool.true_eq_false, if_false, if_true]
          · simp only [if_neg h0, if_neg h1, if_neg h2, Bool.true_eq_false, if_false, if_true]
theorem m_refusedKey (d : Nat) (h : xH) (M : Nat) (S : gS) (b w : Bool) (hw : sI S 24 = bI w) : xm (d + 1) 196 [.ref M, .int (bI b)] (oh 11 h M S) = some (some (.long (if w = true then (if b = true then sJ S 23 else sJ S 22) else 0)), oh 11 h M S) := by
  rw [E_196 _ _ _ _ rfl]
  simp (disch := omega) only [q_196_0, q_196_1, q_196_4, q_196_7, q_196_8, q_196_9, q_196_10, q_196_13, q_196_14, q_196_17, q_196_20, q_196_21, q_196_24, og_11_24, og_11_23, og_11_22, o_is, o_ob, ofs_len11, k_cr, k_ci, k_oR, k_oN, k_aR, k_aN, and_true, true_and, and_self, eq_self, Nat.reduceLT, Nat.reduceLeDiff, Nat.reduceEqDiff, Nat.reduceAdd, Nat.reduceMul, Bool.true_eq_false, Bool.false_eq_true, Nat.add_sub_cancel, Nat.not_lt_zero, Nat.zero_le, k_sub, k_sb1, k_r, k_n, k_ret, k_t1, k_t0, k_nr, k_nn, k_z0, k_z1, k_zb, x_okI, lit_nI, k_in, k_cl, k_lt, k_le, k_eq, k_neg, nI_add, nI_mul, k_clt, k_cgt, k_cle, k_cge, k_ceq, bI_0, k_sh8, ne_eq, Nat.add_eq_zero_iff, Nat.one_ne_zero, Nat.succ_ne_zero, and_false, false_and, not_false_eq_true, not_true_eq_false, ite_true, ite_false, if_true, if_false, sI_uI, sJ_uI, sA_uI, sL_uI, sR_uI, sQ_uI, sI_uJ, sJ_uJ, sA_uJ, sL_uJ, sR_uJ, sQ_uJ, sI_uA, sJ_uA, sA_uA, sL_uA, sR_uA, sQ_uA, sI_uL, sJ_uL, sA_uL, sL_uL, sR_uL, sQ_uL, sI_uR, sJ_uR, sA_uR, sL_uR, sR_uR, sQ_uR, sI_uQ, sJ_uQ, sA_uQ, sL_uQ, sR_uQ, sQ_uQ, hw]
  cases w <;> cases b <;> simp
theorem m_key (d : Nat) (h : xH) (M : Nat) (S : gS) (i : Int32) (n : Nat) (hn : sA S 7 0 = nI n) (h60 : n ≤ 60) : xm (d + 2) 199 [.ref M, .int i] (oh 11 h M S) = some (some (.long (if inR i 0 ((nI n - nI 1).toInt64) = true then sL S 8 i.toNatClampNeg else 0)), oh 11 h M S) := by
  rw [E_199 _ _ _ _ rfl]
  simp (disch := omega) only [q_199_0, q_199_1, q_199_2, q_199_3, q_199_4, q_199_7, q_199_8, q_199_9, q_199_10, q_199_11, q_199_12, q_199_15, q_199_18, q_199_19, q_199_22, q_199_23, q_199_24, q_199_27, q_199_28, og_11_7, or_11_7, ow_11_7, og_11_8, or_11_8, ow_11_8, o_is, o_ob, ofs_len11, k_cr, k_ci, k_oR, k_oN, k_aR, k_aN, and_true, true_and, and_self, eq_self, Nat.reduceLT, Nat.reduceLeDiff, Nat.reduceEqDiff, Nat.reduceAdd, Nat.reduceMul, Bool.true_eq_false, Bool.false_eq_true, Nat.add_sub_cancel, Nat.not_lt_zero, Nat.zero_le, k_sub, k_sb1, k_r, k_n, k_ret, k_t1, k_t0, k_nr, k_nn, k_z0, k_z1, k_zb, x_okI, lit_nI, k_in, k_cl, k_lt, k_le, k_eq, k_neg, nI_add, nI_mul, k_clt, k_cgt, k_cle, k_cge, k_ceq, bI_0, k_sh8, ne_eq, Nat.add_eq_zero_iff, Nat.one_ne_zero, Nat.succ_ne_zero, and_false, false_and, not_false_eq_true, not_true_eq_false, ite_true, ite_false, if_true, if_false, sI_uI, sJ_uI, sA_uI, sL_uI, sR_uI, sQ_uI, sI_uJ, sJ_uJ, sA_uJ, sL_uJ, sR_uJ, sQ_uJ, sI_uA, sJ_uA, sA_uA, sL_uA, sR_uA, sQ_uA, sI_uL, sJ_uL, sA_uL, sL_uL, sR_uL, sQ_uL, sI_uR, sJ_uR, sA_uR, sL_uR, sR_uR, sQ_uR, sI_uQ, sJ_uQ, sA_uQ, sL_uQ, sR_uQ, sQ_uQ, m_in, hn]
  show (if inR i 0 ((nI n - nI 1).toInt64) = false then _ else _) = _
  cases hb : inR i 0 ((nI n - nI 1).toInt64)
  · simp
  · obtain ⟨k, hk, rfl⟩ := (inR_pred (by omega)).mp hb
    simp (disch := omega) only [k_cr, k_ci, k_oR, k_oN, k_aR, k_aN, and_true, true_and, and_self, eq_self, Nat.reduceLT, Nat.reduceLeDiff, Nat.reduceEqDiff, Nat.reduceAdd, Nat.reduceMul, Bool.true_eq_false, Bool.false_eq_true, Nat.add_sub_cancel, Nat.not_lt_zero, Nat.zero_le, k_sub, k_sb1, k_r, k_n, k_ret, k_t1, k_t0, k_nr, k_nn, k_z0, k_z1, k_zb, x_okI, lit_nI, k_in, k_cl, k_lt, k_le, k_eq, k_neg, nI_add, nI_mul, k_clt, k_cgt, k_cle, k_cge, k_ceq, bI_0, k_sh8, ne_eq, Nat.add_eq_zero_iff, Nat.one_ne_zero, Nat.succ_ne_zero, and_false, false_and, not_false_eq_true, not_true_eq_false, ite_true, ite_false, if_true, if_false, Bool.true_eq_false]
theorem m_classOf (d : Nat) (h : xH) (M : Nat) (S : gS) (w : Int64) (n : Nat) (hn : sA S 7 0 = nI n) (h60 : n ≤ 60) : xm (d + 2) 200 [.ref M, .long w] (oh 11 h M S) = some (some (.int (match fnd (sL S 8) w n with | some i => sA S 9 i | none => -nI 1)), oh 11 h M S) := by
  rw [E_200 _ _ _ _ rfl]
  simp (disch := omega) only [q_200_0, q_200_1, q_200_2, q_200_5, q_200_6, q_200_7, q_200_8, q_200_11, q_200_12, q_200_15, q_200_16, q_200_19, q_200_20, q_200_21, og_11_9, or_11_9, ow_11_9, o_is, o_ob, ofs_len11, k_cr, k_ci, k_oR, k_oN, k_aR, k_aN, and_true, true_and, and_self, eq_self, Nat.reduceLT, Nat.reduceLeDiff, Nat.reduceEqDiff, Nat.reduceAdd, Nat.reduceMul, Bool.true_eq_false, Bool.false_eq_true, Nat.add_sub_cancel, Nat.not_lt_zero, Nat.zero_le, k_sub, k_sb1, k_r, k_n, k_ret, k_t1, k_t0, k_nr, k_nn, k_z0, k_z1, k_zb, x_okI, lit_nI, k_in, k_cl, k_lt, k_le, k_eq, k_neg, nI_add, nI_mul, k_clt, k_cgt, k_cle, k_cge, k_ceq, bI_0, k_sh8, ne_eq, Nat.add_eq_zero_iff, Nat.one_ne_zero, Nat.succ_ne_zero, and_false, false_and, not_false_eq_true, not_true_eq_false, ite_true, ite_false, if_true, if_false, sI_uI, sJ_uI, sA_uI, sL_uI, sR_uI, sQ_uI, sI_uJ, sJ_uJ, sA_uJ, sL_uJ, sR_uJ, sQ_uJ, sI_uA, sJ_uA, sA_uA, sL_uA, sR_uA, sQ_uA, sI_uL, sJ_uL, sA_uL, sL_uL, sR_uL, sQ_uL, sI_uR, sJ_uR, sA_uR, sL_uR, sR_uR, sQ_uR, sI_uQ, sJ_uQ, sA_uQ, sL_uQ, sR_uQ, sQ_uQ, m_find _ _ _ _ _ _ hn h60]
  cases hf : fnd (sL S 8) w n with
  | none => simp [oI]
  | some i =>
    have := fnd_lt hf
    simp (disch := omega) only [oI, k_cr, k_ci, k_oR, k_oN, k_aR, k_aN, and_true, true_and, and_self, eq_self, Nat.reduceLT, Nat.reduceLeDiff, Nat.reduceEqDiff, Nat.reduceAdd, Nat.reduceMul, Bool.true_eq_false, Bool.false_eq_true, Nat.add_sub_cancel, Nat.not_lt_zero, Nat.zero_le, k_sub, k_sb1, k_r, k_n, k_ret, k_t1, k_t0, k_nr, k_nn, k_z0, k_z1, k_zb, x_okI, lit_nI, k_in, k_cl, k_lt, k_le, k_eq, k_neg, nI_add, nI_mul, k_clt, k_cgt, k_cle, k_cge, k_ceq, bI_0, k_sh8, ne_eq, Nat.add_eq_zero_iff, Nat.one_ne_zero, Nat.succ_ne_zero, and_false, false_and, not_false_eq_true, not_true_eq_false, ite_true, ite_false, if_true, if_false]
