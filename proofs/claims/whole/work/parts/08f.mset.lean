/-! The reference: what bits are values of a TYPE; set, add, many, bits, told, feed, member. -/
def inL (v a b : Int64) : Bool := decide (a ≤ v) && decide (v ≤ b)
theorem m_inL (d : Nat) (h : xH) (v a b : Int64) : xm (d + 1) 127 [.long v, .long a, .long b] h = some (some (.int (bI (inL v a b))), h) := m_in d h v a b
/-- bits are a value of TYPE t -/
def fitT (t : Int32) (x : Int64) : Bool :=
  if t = nI 0 then inL x 0 1
  else if t = nI 1 then inL x (-128) 127
  else if t = nI 2 then inL x (-32768) 32767
  else if t = nI 3 then inL x 0 65535
  else if t = nI 4 then inL x (-2147483648) 2147483647
  else if t = nI 5 then true
  else if t = nI 6 then inL x (-2147483648) 2147483647 && (decide (x &&& 2147483647 ≤ 2139095040) || decide (x = 2143289344))
  else decide (x &&& 9223372036854775807 ≤ 9218868437227405312) || decide (x = 9221120237041090560)
theorem m_fits (d : Nat) (h : xH) (t : Int32) (x : Int64) : xm (d + 2) 143 [.int t, .long x] h = some (some (.int (bI (fitT t x))), h) := by
  rw [E_143]
  simp (disch := omega) only [q_143_0, q_143_1, q_143_4, q_143_5, q_143_6, q_143_7, q_143_10, q_143_11, q_143_12, q_143_13, q_143_16, q_143_17, q_143_20, q_143_23, q_143_26, q_143_27, q_143_28, q_143_29, q_143_32, q_143_33, q_143_36, q_143_39, q_143_42, q_143_43, q_143_44, q_143_45, q_143_48, q_143_49, q_143_50, q_143_53, q_143_56, q_143_57, q_143_58, q_143_59, q_143_62, q_143_63, q_143_66, q_143_69, q_143_72, q_143_73, q_143_74, q_143_75, q_143_78, q_143_79, q_143_80, q_143_81, q_143_83, q_143_86, q_143_87, q_143_90, q_143_93, q_143_96, q_143_99, q_143_100, q_143_103, q_143_104, q_143_107, q_143_108, q_143_111, q_143_112, q_143_115, q_143_116, q_143_119, q_143_120, q_143_123, q_143_124, q_143_125, q_143_126, q_143_129, q_143_130, q_143_133, q_143_134, q_143_137, q_143_138, q_143_141, q_143_142, q_143_145, q_143_146, q_143_149, q_143_150, o_is, o_ob, k_cr, k_ci, k_oR, k_oN, k_aR, k_aN, and_true, true_and, and_self, eq_self, Nat.reduceLT, Nat.reduceLeDiff, Nat.reduceEqDiff, Nat.reduceAdd, Nat.reduceMul, Bool.true_eq_false, Bool.false_eq_true, Nat.add_sub_cancel, Nat.not_lt_zero, Nat.zero_le, k_sub, k_sb1, k_r, k_n, k_ret, k_t1, k_t0, k_nr, k_nn, k_z0, k_z1, k_zb, x_okI, lit_nI, k_in, k_cl, k_lt, k_le, k_eq, k_neg, nI_add, nI_mul, k_clt, k_cgt, k_cle, k_cge, k_ceq, bI_0, k_sh8, ne_eq, Nat.add_eq_zero_iff, Nat.one_ne_zero, Nat.succ_ne_zero, and_false, false_and, not_false_eq_true, not_true_eq_false, ite_true, ite_false, if_true, if_false, m_inL]
  unfold fitT
  by_cases h0 : t = nI 0
  · rw [if_pos h0, if_pos h0]
  rw [if_neg h0, if_neg h0]
  by_cases h1 : t = nI 1
  · rw [if_pos h1, if_pos h1]
  rw [if_neg h1, if_neg h1]
  by_cases h2 : t = nI 2
  · rw [if_pos h2, if_pos h2]
  rw [if_neg h2, if_neg h2]
  by_cases h3 : t = nI 3
  · rw [if_pos h3, if_pos h3]
  rw [if_neg h3, if_neg h3]
  by_cases h4 : t = nI 4
  · rw [if_pos h4, if_pos h4]
  rw [if_neg h4, if_neg h4]
  by_cases h5 : t = nI 5
  · rw [if_pos h5, if_pos h5]
    rfl
  rw [if_neg h5, if_neg h5]
  by_cases h6 : t = nI 6
  · rw [if_pos h6, if_pos h6]
    cases inL x (-2147483648) 2147483647
    · simp [bI]
    · by_cases h7 : x &&& 2147483647 ≤ 2139095040
      · simp [h7, bI]
      · by_cases h8 : x = 2143289344
        · simp [h8, bI]
        · simp [h7, h8, bI]
  · rw [if_neg h6, if_neg h6]
    by_cases h7 : x &&& 9223372036854775807 ≤ 9218868437227405312
    · simp [h7, bI]
    · by_cases h8 : x = 9221120237041090560
      · simp [h8, bI]
      · simp [h7, h8, bI]
/-- what the reference knows of its VALUES: n of them, their CLASSES -/
def vlOK (S : gS) (mN : Nat → Nat) (bd n : Nat) (vC : Nat → Nat) : Prop := sI S 6 = nI bd ∧ bd < 8 ∧ sA S 7 0 = nI n ∧ n ≤ 60 ∧ ∀ v, v < n → sA S 9 v = nI (vC v) ∧ vC v < 6
theorem m_many (d : Nat) (h : xH) (M : Nat) (S : gS) (w : Int64) (i : Int32) (cN mN vC : Nat → Nat) (bd n : Nat) (hB : bdOK S cN mN) (hV : vlOK S mN bd n vC) : xm (d + 3) 201 [.ref M, .long w, .int i] (oh 11 h M S) = some (some (.int (match fnd (sL S 8) w n with
    | none => -nI 2
    | some v => if inR i 0 (nI (mN (6 * bd + vC v)) - nI 1).toInt64 = true then sA S 10 (8 * v + i.toNatClampNeg) else -nI 2)), oh 11 h M S) := by
  obtain ⟨hbd, h8, hn, h60, hv⟩ := hV
  rw [E_201 _ _ _ _ _ rfl]
  have hF := m_find (d + 1) h M S n w hn h60
  cases hf : fnd (sL S 8) w n with
  | none =>
    rw [hf] at hF
    have hm := m_isMember_n d h M S i
    simp (disch := omega) only [q_201_0, q_201_1, q_201_2, q_201_5, q_201_7, q_201_8, q_201_10, q_201_11, q_201_14, q_201_17, q_201_18, q_201_21, q_201_23, q_201_25, q_201_26, q_201_27, q_201_28, q_201_29, q_201_32, q_201_34, og_11_10, or_11_10, ow_11_10, o_is, o_ob, ofs_len11, k_cr, k_ci, k_oR, k_oN, k_aR, k_aN, and_true, true_and, and_self, eq_self, Nat.reduceLT, Nat.reduceLeDiff, Nat.reduceEqDiff, Nat.reduceAdd, Nat.reduceMul, Bool.true_eq_false, Bool.false_eq_true, Nat.add_sub_cancel, Nat.not_lt_zero, Nat.zero_le, k_sub, k_sb1, k_r, k_n, k_ret, k_t1, k_t0, k_nr, k_nn, k_z0, k_z1, k_zb, x_okI, lit_nI, k_in, k_cl, k_lt, k_le, k_eq, k_neg, nI_add, nI_mul, k_clt, k_cgt, k_cle, k_cge, k_ceq, bI_0, k_sh8, ne_eq, Nat.add_eq_zero_iff, Nat.one_ne_zero, Nat.succ_ne_zero, and_false, false_and, not_false_eq_true, not_true_eq_false, ite_true, ite_false, if_true, if_false, hF, oI, hm, bI_f, bI_0]
  | some v =>
    rw [hf] at hF
    have hlt := (fnd_lt hf).1
    obtain ⟨hv1, hv2⟩ := hv v hlt
    obtain ⟨hm1, hm2⟩ := hB.2 bd (vC v) h8 hv2
    have hm := m_isMember d h M S v bd (vC v) (mN (6 * bd + vC v)) i (by omega) hbd h8 hv1 hv2 hm1 hm2
    cases hi : inR i 0 (nI (mN (6 * bd + vC v)) - nI 1).toInt64 with
    | false =>
      rw [hi] at hm
      simp only [hi, Bool.false_eq_true, if_false]
      simp (disch := omega) only [q_201_0, q_201_1, q_201_2, q_201_5, q_201_7, q_201_8, q_201_10, q_201_11, q_201_14, q_201_17, q_201_18, q_201_21, q_201_23, q_201_25, q_201_26, q_201_27, q_201_28, q_201_29, q_201_32, q_201_34, og_11_10, or_11_10, ow_11_10, o_is, o_ob, ofs_len11, k_cr, k_ci, k_oR, k_oN, k_aR, k_aN, and_true, true_and, and_self, eq_self, Nat.reduceLT, Nat.reduceLeDiff, Nat.reduceEqDiff, Nat.reduceAdd, Nat.reduceMul, Bool.true_eq_false, Bool.false_eq_true, Nat.add_sub_cancel, Nat.not_lt_zero, Nat.zero_le, k_sub, k_sb1, k_r, k_n, k_ret, k_t1, k_t0, k_nr, k_nn, k_z0, k_z1, k_zb, x_okI, lit_nI, k_in, k_cl, k_lt, k_le, k_eq, k_neg, nI_add, nI_mul, k_clt, k_cgt, k_cle, k_cge, k_ceq, bI_0, k_sh8, ne_eq, Nat.add_eq_zero_iff, Nat.one_ne_zero, Nat.succ_ne_zero, and_false, false_and, not_false_eq_true, not_true_eq_false, ite_true, ite_false, if_true, if_false, hF, oI, hm]
    | true =>
      rw [hi] at hm
      simp only [hi, if_true]
      obtain ⟨q, hq, rfl⟩ := (inR_pred (by omega)).mp hi
      simp (disch := omega) only [q_201_0, q_201_1, q_201_2, q_201_5, q_201_7, q_201_8, q_201_10, q_201_11, q_201_14, q_201_17, q_201_18, q_201_21, q_201_23, q_201_25, q_201_26, q_201_27, q_201_28, q_201_29, q_201_32, q_201_34, og_11_10, or_11_10, ow_11_10, o_is, o_ob, ofs_len11, k_cr, k_ci, k_oR, k_oN, k_aR, k_aN, and_true, true_and, and_self, eq_self, Nat.reduceLT, Nat.reduceLeDiff, Nat.reduceEqDiff, Nat.reduceAdd, Nat.reduceMul, Bool.true_eq_false, Bool.false_eq_true, Nat.add_sub_cancel, Nat.not_lt_zero, Nat.zero_le, k_sub, k_sb1, k_r, k_n, k_ret, k_t1, k_t0, k_nr, k_nn, k_z0, k_z1, k_zb, x_okI, lit_nI, k_in, k_cl, k_lt, k_le, k_eq, k_neg, nI_add, nI_mul, k_clt, k_cgt, k_cle, k_cge, k_ceq, bI_0, k_sh8, ne_eq, Nat.add_eq_zero_iff, Nat.one_ne_zero, Nat.succ_ne_zero, and_false, false_and, not_false_eq_true, not_true_eq_false, ite_true, ite_false, if_true, if_false, hF, oI, hm]
theorem m_bits (d : Nat) (h : xH) (M : Nat) (S : gS) (w : Int64) (i j : Int32) (cN mN vC : Nat → Nat) (kN : Nat → Nat) (bd n : Nat) (hB : bdOK S cN mN) (hV : vlOK S mN bd n vC) (hk : ∀ v m, v < n → m < 8 → sA S 10 (8 * v + m) = nI (kN (8 * v + m)) ∧ kN (8 * v + m) ≤ 8) : xm (d + 3) 202 [.ref M, .long w, .int i, .int j] (oh 11 h M S) = some (some (.long (match fnd (sL S 8) w n with
    | none => 0
    | some v => if inR i 0 (nI (mN (6 * bd + vC v)) - nI 1).toInt64 = true then (if inR j 0 (nI (kN (8 * v + i.toNatClampNeg)) - nI 1).toInt64 = true then sL S 11 (64 * v + 8 * i.toNatClampNeg + j.toNatClampNeg) else 0) else 0)), oh 11 h M S) := by
  obtain ⟨hbd, h8, hn, h60, hv⟩ := hV
  rw [E_202 _ _ _ _ _ _ rfl]
  have hF := m_find (d + 1) h M S n w hn h60
  cases hf : fnd (sL S 8) w n with
  | none =>
    rw [hf] at hF
    have hm := m_isMember_n d h M S i
    simp (disch := omega) only [q_202_0, q_202_1, q_202_2, q_202_5, q_202_7, q_202_8, q_202_10, q_202_11, q_202_14, q_202_17, q_202_19, q_202_20, q_202_21, q_202_22, q_202_25, q_202_27, q_202_29, q_202_30, q_202_31, q_202_32, q_202_33, q_202_34, q_202_35, q_202_36, q_202_39, q_202_42, q_202_43, q_202_44, q_202_45, q_202_48, q_202_50, q_202_52, q_202_53, q_202_55, q_202_56, q_202_57, q_202_58, q_202_60, q_202_61, q_202_62, og_11_10, or_11_10, ow_11_10, og_11_11, or_11_11, ow_11_11, o_is, o_ob, ofs_len11, k_cr, k_ci, k_oR, k_oN, k_aR, k_aN, and_true, true_and, and_self, eq_self, Nat.reduceLT, Nat.reduceLeDiff, Nat.reduceEqDiff, Nat.reduceAdd, Nat.reduceMul, Bool.true_eq_false, Bool.false_eq_true, Nat.add_sub_cancel, Nat.not_lt_zero, Nat.zero_le, k_sub, k_sb1, k_r, k_n, k_ret, k_t1, k_t0, k_nr, k_nn, k_z0, k_z1, k_zb, x_okI, lit_nI, k_in, k_cl, k_lt, k_le, k_eq, k_neg, nI_add, nI_mul, k_clt, k_cgt, k_cle, k_cge, k_ceq, bI_0, k_sh8, ne_eq, Nat.add_eq_zero_iff, Nat.one_ne_zero, Nat.succ_ne_zero, and_false, false_and, not_false_eq_true, not_true_eq_false, ite_true, ite_false, if_true, if_false, hF, oI, hm, bI_f, bI_0]
  | some v =>
    rw [hf] at hF
    have hlt := (fnd_lt hf).1
    obtain ⟨hv1, hv2⟩ := hv v hlt
    obtain ⟨hm1, hm2⟩ := hB.2 bd (vC v) h8 hv2
    have hm := m_isMember d h M S v bd (vC v) (mN (6 * bd + vC v)) i (by omega) hbd h8 hv1 hv2 hm1 hm2
    cases hi : inR i 0 (nI (mN (6 * bd + vC v)) - nI 1).toInt64 with
    | false =>
      rw [hi] at hm
      simp only [hi, Bool.false_eq_true, if_false]
      simp (disch := omega) only [q_202_0, q_202_1, q_202_2, q_202_5, q_202_7, q_202_8, q_202_10, q_202_11, q_202_14, q_202_17, q_202_19, q_202_20, q_202_21, q_202_22, q_202_25, q_202_27, q_202_29, q_202_30, q_202_31, q_202_32, q_202_33, q_202_34, q_202_35, q_202_36, q_202_39, q_202_42, q_202_43, q_202_44, q_202_45, q_202_48, q_202_50, q_202_52, q_202_53, q_202_55, q_202_56, q_202_57, q_202_58, q_202_60, q_202_61, q_202_62, og_11_10, or_11_10, ow_11_10, og_11_11, or_11_11, ow_11_11, o_is, o_ob, ofs_len11, k_cr, k_ci, k_oR, k_oN, k_aR, k_aN, and_true, true_and, and_self, eq_self, Nat.reduceLT, Nat.reduceLeDiff, Nat.reduceEqDiff, Nat.reduceAdd, Nat.reduceMul, Bool.true_eq_false, Bool.false_eq_true, Nat.add_sub_cancel, Nat.not_lt_zero, Nat.zero_le, k_sub, k_sb1, k_r, k_n, k_ret, k_t1, k_t0, k_nr, k_nn, k_z0, k_z1, k_zb, x_okI, lit_nI, k_in, k_cl, k_lt, k_le, k_eq, k_neg, nI_add, nI_mul, k_clt, k_cgt, k_cle, k_cge, k_ceq, bI_0, k_sh8, ne_eq, Nat.add_eq_zero_iff, Nat.one_ne_zero, Nat.succ_ne_zero, and_false, false_and, not_false_eq_true, not_true_eq_false, ite_true, ite_false, if_true, if_false, hF, oI, hm]
    | true =>
      rw [hi] at hm
      simp only [hi, if_true]
      obtain ⟨q, hq, rfl⟩ := (inR_pred (by omega)).mp hi
      obtain ⟨hk1, hk2⟩ := hk v q hlt (by omega)
      rw [k_cl (by omega)]
      cases hj : inR j 0 (nI (kN (8 * v + q)) - nI 1).toInt64 with
      | false =>
        have hj' : (decide (0 ≤ j.toInt64) && decide (j.toInt64 ≤ (nI (kN (8 * v + q)) - nI 1).toInt64)) = false := hj
        simp only [Bool.false_eq_true, if_false]
        simp (disch := omega) only [q_202_0, q_202_1, q_202_2, q_202_5, q_202_7, q_202_8, q_202_10, q_202_11, q_202_14, q_202_17, q_202_19, q_202_20, q_202_21, q_202_22, q_202_25, q_202_27, q_202_29, q_202_30, q_202_31, q_202_32, q_202_33, q_202_34, q_202_35, q_202_36, q_202_39, q_202_42, q_202_43, q_202_44, q_202_45, q_202_48, q_202_50, q_202_52, q_202_53, q_202_55, q_202_56, q_202_57, q_202_58, q_202_60, q_202_61, q_202_62, og_11_10, or_11_10, ow_11_10, og_11_11, or_11_11, ow_11_11, o_is, o_ob, ofs_len11, k_cr, k_ci, k_oR, k_oN, k_aR, k_aN, and_true, true_and, and_self, eq_self, Nat.reduceLT, Nat.reduceLeDiff, Nat.reduceEqDiff, Nat.reduceAdd, Nat.reduceMul, Bool.true_eq_false, Bool.false_eq_true, Nat.add_sub_cancel, Nat.not_lt_zero, Nat.zero_le, k_sub, k_sb1, k_r, k_n, k_ret, k_t1, k_t0, k_nr, k_nn, k_z0, k_z1, k_zb, x_okI, lit_nI, k_in, k_cl, k_lt, k_le, k_eq, k_neg, nI_add, nI_mul, k_clt, k_cgt, k_cle, k_cge, k_ceq, bI_0, k_sh8, ne_eq, Nat.add_eq_zero_iff, Nat.one_ne_zero, Nat.succ_ne_zero, and_false, false_and, not_false_eq_true, not_true_eq_false, ite_true, ite_false, if_true, if_false, hF, oI, hm, hk1, m_in, hj']
      | true =>
        have hj' : (decide (0 ≤ j.toInt64) && decide (j.toInt64 ≤ (nI (kN (8 * v + q)) - nI 1).toInt64)) = true := hj
        simp only [if_true]
        obtain ⟨r, hr, rfl⟩ := (inR_pred (by omega)).mp hj
        rw [k_sub (by omega)] at hj'
        simp (disch := omega) only [q_202_0, q_202_1, q_202_2, q_202_5, q_202_7, q_202_8, q_202_10, q_202_11, q_202_14, q_202_17, q_202_19, q_202_20, q_202_21, q_202_22, q_202_25, q_202_27, q_202_29, q_202_30, q_202_31, q_202_32, q_202_33, q_202_34, q_202_35, q_202_36, q_202_39, q_202_42, q_202_43, q_202_44, q_202_45, q_202_48, q_202_50, q_202_52, q_202_53, q_202_55, q_202_56, q_202_57, q_202_58, q_202_60, q_202_61, q_202_62, og_11_10, or_11_10, ow_11_10, og_11_11, or_11_11, ow_11_11, o_is, o_ob, ofs_len11, k_cr, k_ci, k_oR, k_oN, k_aR, k_aN, and_true, true_and, and_self, eq_self, Nat.reduceLT, Nat.reduceLeDiff, Nat.reduceEqDiff, Nat.reduceAdd, Nat.reduceMul, Bool.true_eq_false, Bool.false_eq_true, Nat.add_sub_cancel, Nat.not_lt_zero, Nat.zero_le, k_sub, k_sb1, k_r, k_n, k_ret, k_t1, k_t0, k_nr, k_nn, k_z0, k_z1, k_zb, x_okI, lit_nI, k_in, k_cl, k_lt, k_le, k_eq, k_neg, nI_add, nI_mul, k_clt, k_cgt, k_cle, k_cge, k_ceq, bI_0, k_sh8, ne_eq, Nat.add_eq_zero_iff, Nat.one_ne_zero, Nat.succ_ne_zero, and_false, false_and, not_false_eq_true, not_true_eq_false, ite_true, ite_false, if_true, if_false, hF, oI, hm, hk1, m_in, hj']
theorem m_set (d : Nat) (h : xH) (M : Nat) (S : gS) (w : Int64) (i : Int32) (x : Int64) (cN mN vC : Nat → Nat) (bd n : Nat) (hB : bdOK S cN mN) (hV : vlOK S mN bd n vC) (hr : rwOK S) : xm (d + 3) 139 [.ref M, .long w, .int i, .long x] (oh 11 h M S) = (match fnd (sL S 8) w n with
    | none => some (some (.int (-nI 2)), oh 11 h M S)
    | some v => if inR i 0 (nI (mN (6 * bd + vC v)) - nI 1).toInt64 = true ∧ rw_ S (8 * (6 * bd + vC v) + i.toNatClampNeg) = false then (if fitT (sA S 4 (8 * (6 * bd + vC v) + i.toNatClampNeg)) x = true then some (some (.int (nI 1)), oh 11 h M (uL S 11 (64 * v + 8 * i.toNatClampNeg) x)) else some (some (.int (-nI 1)), oh 11 h M S)) else some (some (.int (-nI 2)), oh 11 h M S)) := by
  obtain ⟨hbd, h8, hn, h60, hv⟩ := hV
  rw [E_139 _ _ _ _ _ _ rfl]
  have hF := m_find (d + 1) h M S n w hn h60
  cases hf : fnd (sL S 8) w n with
  | none =>
    rw [hf] at hF
    have hm := m_isMember_n d h M S i
    simp (disch := omega) only [q_139_0, q_139_1, q_139_2, q_139_5, q_139_7, q_139_8, q_139_10, q_139_11, q_139_14, q_139_17, q_139_18, q_139_19, q_139_22, q_139_23, q_139_26, q_139_28, q_139_29, q_139_30, q_139_33, q_139_36, q_139_38, q_139_39, q_139_40, q_139_41, q_139_44, q_139_45, q_139_48, q_139_50, q_139_51, q_139_52, q_139_55, q_139_57, q_139_60, q_139_63, q_139_64, q_139_65, q_139_66, q_139_69, q_139_71, q_139_73, q_139_74, q_139_76, q_139_77, q_139_78, q_139_79, q_139_81, q_139_82, q_139_83, og_11_6, og_11_9, or_11_9, ow_11_9, og_11_11, or_11_11, ow_11_11, o_is, o_ob, ofs_len11, k_cr, k_ci, k_oR, k_oN, k_aR, k_aN, and_true, true_and, and_self, eq_self, Nat.reduceLT, Nat.reduceLeDiff, Nat.reduceEqDiff, Nat.reduceAdd, Nat.reduceMul, Bool.true_eq_false, Bool.false_eq_true, Nat.add_sub_cancel, Nat.not_lt_zero, Nat.zero_le, k_sub, k_sb1, k_r, k_n, k_ret, k_t1, k_t0, k_nr, k_nn, k_z0, k_z1, k_zb, x_okI, lit_nI, k_in, k_cl, k_lt, k_le, k_eq, k_neg, nI_add, nI_mul, k_clt, k_cgt, k_cle, k_cge, k_ceq, bI_0, k_sh8, ne_eq, Nat.add_eq_zero_iff, Nat.one_ne_zero, Nat.succ_ne_zero, and_false, false_and, not_false_eq_true, not_true_eq_false, ite_true, ite_false, if_true, if_false, hF, oI, hm, bI_f, bI_0]
  | some v =>
    rw [hf] at hF
    have hlt := (fnd_lt hf).1
    obtain ⟨hv1, hv2⟩ := hv v hlt
    obtain ⟨hm1, hm2⟩ := hB.2 bd (vC v) h8 hv2
    have hm := m_isMember d h M S v bd (vC v) (mN (6 * bd + vC v)) i (by omega) hbd h8 hv1 hv2 hm1 hm2
    cases hi : inR i 0 (nI (mN (6 * bd + vC v)) - nI 1).toInt64 with
    | false =>
      rw [hi] at hm
      simp only [hi, Bool.false_eq_true, if_false, false_and]
      simp (disch := omega) only [q_139_0, q_139_1, q_139_2, q_139_5, q_139_7, q_139_8, q_139_10, q_139_11, q_139_14, q_139_17, q_139_18, q_139_19, q_139_22, q_139_23, q_139_26, q_139_28, q_139_29, q_139_30, q_139_33, q_139_36, q_139_38, q_139_39, q_139_40, q_139_41, q_139_44, q_139_45, q_139_48, q_139_50, q_139_51, q_139_52, q_139_55, q_139_57, q_139_60, q_139_63, q_139_64, q_139_65, q_139_66, q_139_69, q_139_71, q_139_73, q_139_74, q_139_76, q_139_77, q_139_78, q_139_79, q_139_81, q_139_82, q_139_83, og_11_6, og_11_9, or_11_9, ow_11_9, og_11_11, or_11_11, ow_11_11, o_is, o_ob, ofs_len11, k_cr, k_ci, k_oR, k_oN, k_aR, k_aN, and_true, true_and, and_self, eq_self, Nat.reduceLT, Nat.reduceLeDiff, Nat.reduceEqDiff, Nat.reduceAdd, Nat.reduceMul, Bool.true_eq_false, Bool.false_eq_true, Nat.add_sub_cancel, Nat.not_lt_zero, Nat.zero_le, k_sub, k_sb1, k_r, k_n, k_ret, k_t1, k_t0, k_nr, k_nn, k_z0, k_z1, k_zb, x_okI, lit_nI, k_in, k_cl, k_lt, k_le, k_eq, k_neg, nI_add, nI_mul, k_clt, k_cgt, k_cle, k_cge, k_ceq, bI_0, k_sh8, ne_eq, Nat.add_eq_zero_iff, Nat.one_ne_zero, Nat.succ_ne_zero, and_false, false_and, not_false_eq_true, not_true_eq_false, ite_true, ite_false, if_true, if_false, hF, oI, hm]
    | true =>
      rw [hi] at hm
      simp only [hi, true_and]
      obtain ⟨q, hq, rfl⟩ := (inR_pred (by omega)).mp hi
      have hR := m_rowOf (d + 1) h M S bd (vC v) q h8 hv2 (by omega) _ (hr _)
      have hT := m_typeOf (d + 1) h M S bd (vC v) q h8 hv2 (by omega)
      rw [k_cl (by omega)]
      cases hw : rw_ S (8 * (6 * bd + vC v) + q) with
      | true =>
        rw [hw] at hR
        simp (disch := omega) only [q_139_0, q_139_1, q_139_2, q_139_5, q_139_7, q_139_8, q_139_10, q_139_11, q_139_14, q_139_17, q_139_18, q_139_19, q_139_22, q_139_23, q_139_26, q_139_28, q_139_29, q_139_30, q_139_33, q_139_36, q_139_38, q_139_39, q_139_40, q_139_41, q_139_44, q_139_45, q_139_48, q_139_50, q_139_51, q_139_52, q_139_55, q_139_57, q_139_60, q_139_63, q_139_64, q_139_65, q_139_66, q_139_69, q_139_71, q_139_73, q_139_74, q_139_76, q_139_77, q_139_78, q_139_79, q_139_81, q_139_82, q_139_83, og_11_6, og_11_9, or_11_9, ow_11_9, og_11_11, or_11_11, ow_11_11, o_is, o_ob, ofs_len11, k_cr, k_ci, k_oR, k_oN, k_aR, k_aN, and_true, true_and, and_self, eq_self, Nat.reduceLT, Nat.reduceLeDiff, Nat.reduceEqDiff, Nat.reduceAdd, Nat.reduceMul, Bool.true_eq_false, Bool.false_eq_true, Nat.add_sub_cancel, Nat.not_lt_zero, Nat.zero_le, k_sub, k_sb1, k_r, k_n, k_ret, k_t1, k_t0, k_nr, k_nn, k_z0, k_z1, k_zb, x_okI, lit_nI, k_in, k_cl, k_lt, k_le, k_eq, k_neg, nI_add, nI_mul, k_clt, k_cgt, k_cle, k_cge, k_ceq, bI_0, k_sh8, ne_eq, Nat.add_eq_zero_iff, Nat.one_ne_zero, Nat.succ_ne_zero, and_false, false_and, not_false_eq_true, not_true_eq_false, ite_true, ite_false, if_true, if_false, hF, oI, hm, hbd, hv1, hR]
      | false =>
        rw [hw] at hR
        simp (disch := omega) only [q_139_0, q_139_1, q_139_2, q_139_5, q_139_7, q_139_8, q_139_10, q_139_11, q_139_14, q_139_17, q_139_18, q_139_19, q_139_22, q_139_23, q_139_26, q_139_28, q_139_29, q_139_30, q_139_33, q_139_36, q_139_38, q_139_39, q_139_40, q_139_41, q_139_44, q_139_45, q_139_48, q_139_50, q_139_51, q_139_52, q_139_55, q_139_57, q_139_60, q_139_63, q_139_64, q_139_65, q_139_66, q_139_69, q_139_71, q_139_73, q_139_74, q_139_76, q_139_77, q_139_78, q_139_79, q_139_81, q_139_82, q_139_83, og_11_6, og_11_9, or_11_9, ow_11_9, og_11_11, or_11_11, ow_11_11, o_is, o_ob, ofs_len11, k_cr, k_ci, k_oR, k_oN, k_aR, k_aN, and_true, true_and, and_self, eq_self, Nat.reduceLT, Nat.reduceLeDiff, Nat.reduceEqDiff, Nat.reduceAdd, Nat.reduceMul, Bool.true_eq_false, Bool.false_eq_true, Nat.add_sub_cancel, Nat.not_lt_zero, Nat.zero_le, k_sub, k_sb1, k_r, k_n, k_ret, k_t1, k_t0, k_nr, k_nn, k_z0, k_z1, k_zb, x_okI, lit_nI, k_in, k_cl, k_lt, k_le, k_eq, k_neg, nI_add, nI_mul, k_clt, k_cgt, k_cle, k_cge, k_ceq, bI_0, k_sh8, ne_eq, Nat.add_eq_zero_iff, Nat.one_ne_zero, Nat.succ_ne_zero, and_false, false_and, not_false_eq_true, not_true_eq_false, ite_true, ite_false, if_true, if_false, hF, oI, hm, hbd, hv1, hR, hT, m_fits]
        cases fitT (sA S 4 (8 * (6 * bd + vC v) + q)) x <;> simp
