/-! The class's leaves. -/
def kW (w : Int64) : Int32 := if w = 7038329 then nI 4 else if w = 1836021349 then nI 5 else if w = 1685221232 then nI 6 else if w = 29807 then nI 7 else nI 2
theorem c_kindOfWord (d : Nat) (h : xH) (w : Int64) : xm (d + 1) 12 [.long w] h = some (some (.int (kW w)), h) := by
  rw [E_12]
  simp only [q_12_0, q_12_1, q_12_4, q_12_5, q_12_8, q_12_9, q_12_10, q_12_11, q_12_14, q_12_15, q_12_18, q_12_19, q_12_20, q_12_21, q_12_24, q_12_25, q_12_28, q_12_30, q_12_31, q_12_32, q_12_35, q_12_36, q_12_39, q_12_41, q_12_44, q_12_45, k_cr, k_ci, k_oR, k_oN, k_aR, k_aN, and_true, true_and, and_self, eq_self, Nat.reduceLT, Nat.reduceLeDiff, Nat.reduceEqDiff, Nat.reduceAdd, Nat.reduceMul, Bool.true_eq_false, Bool.false_eq_true, Nat.add_sub_cancel, Nat.not_lt_zero, Nat.zero_le, k_sub, k_sb1, k_r, k_n, k_ret, k_t1, k_t0, k_nr, k_nn, k_z0, k_z1, k_zb, x_okI, lit_nI, k_in, k_cl, k_lt, k_le, k_eq, k_neg, nI_add, nI_mul, k_clt, k_cgt, k_cle, k_cge, k_ceq, bI_0, k_sh8, ne_eq, Nat.add_eq_zero_iff, Nat.one_ne_zero, Nat.succ_ne_zero, and_false, false_and, not_false_eq_true, not_true_eq_false, ite_true, ite_false, if_true, if_false]
  unfold kW
  by_cases h1 : w = 7038329
  · simp [h1]
  · by_cases h2 : w = 1836021349
    · simp [h2]
    · by_cases h3 : w = 1685221232
      · simp [h3]
      · by_cases h4 : w = 29807 <;> simp [h1, h2, h3, h4]
theorem kW_2 (w : Int64) : (kW w = nI 2) = (isW w = false) := by
  unfold kW isW
  by_cases h1 : w = 7038329
  · simp only [h1, if_true]; decide
  · by_cases h2 : w = 1836021349
    · simp only [h2, if_true]; decide
    · by_cases h3 : w = 1685221232
      · simp only [h3, if_true]; decide
      · by_cases h4 : w = 29807
        · simp only [h4, if_true]; decide
        · simp [h1, h2, h3, h4]
theorem c_isName_loop (d : Nat) (h : xH) (w : Int64) : ∀ (n i : Nat) (x : Int64) (u : Nat × Value), i + n = 8 → xrun (d + 1) 11 5 [(2, .long w), (0, .null), (2, .long x), (0, .null), (1, .int (nI i)), u, (0, .null)] [] h = some (some (.int (bI (nmOK n x && (decide (¬ w = 0) && !isW w)))), h)
  | 0, i, x, u, hi => by
    rw [q_11_5]
    have h8 : i = 8 := by omega
    subst h8
    simp (disch := omega) only [q_11_0, q_11_1, q_11_2, q_11_3, q_11_7, q_11_9, q_11_12, q_11_13, q_11_14, q_11_15, q_11_18, q_11_19, q_11_22, q_11_23, q_11_25, q_11_27, q_11_30, q_11_31, q_11_34, q_11_36, q_11_39, q_11_40, q_11_43, q_11_44, q_11_45, q_11_46, q_11_48, q_11_49, q_11_50, q_11_53, q_11_56, q_11_57, q_11_58, q_11_59, q_11_62, q_11_63, q_11_66, q_11_67, q_11_70, q_11_71, q_11_74, q_11_75, k_cr, k_ci, k_oR, k_oN, k_aR, k_aN, and_true, true_and, and_self, eq_self, Nat.reduceLT, Nat.reduceLeDiff, Nat.reduceEqDiff, Nat.reduceAdd, Nat.reduceMul, Bool.true_eq_false, Bool.false_eq_true, Nat.add_sub_cancel, Nat.not_lt_zero, Nat.zero_le, k_sub, k_sb1, k_r, k_n, k_ret, k_t1, k_t0, k_nr, k_nn, k_z0, k_z1, k_zb, x_okI, lit_nI, k_in, k_cl, k_lt, k_le, k_eq, k_neg, nI_add, nI_mul, k_clt, k_cgt, k_cle, k_cge, k_ceq, bI_0, k_sh8, ne_eq, Nat.add_eq_zero_iff, Nat.one_ne_zero, Nat.succ_ne_zero, and_false, false_and, not_false_eq_true, not_true_eq_false, ite_true, ite_false, if_true, if_false, c_kindOfWord, kW_2]
    by_cases h0 : w = 0
    · simp [h0, bI, nmOK]
    · cases hw : isW w <;> simp [h0, hw, bI, nmOK]
  | n + 1, i, x, u, hi => by
    rw [q_11_5]
    simp (disch := omega) only [q_11_0, q_11_1, q_11_2, q_11_3, q_11_7, q_11_9, q_11_12, q_11_13, q_11_14, q_11_15, q_11_18, q_11_19, q_11_22, q_11_23, q_11_25, q_11_27, q_11_30, q_11_31, q_11_34, q_11_36, q_11_39, q_11_40, q_11_43, q_11_44, q_11_45, q_11_46, q_11_48, q_11_49, q_11_50, q_11_53, q_11_56, q_11_57, q_11_58, q_11_59, q_11_62, q_11_63, q_11_66, q_11_67, q_11_70, q_11_71, q_11_74, q_11_75, k_cr, k_ci, k_oR, k_oN, k_aR, k_aN, and_true, true_and, and_self, eq_self, Nat.reduceLT, Nat.reduceLeDiff, Nat.reduceEqDiff, Nat.reduceAdd, Nat.reduceMul, Bool.true_eq_false, Bool.false_eq_true, Nat.add_sub_cancel, Nat.not_lt_zero, Nat.zero_le, k_sub, k_sb1, k_r, k_n, k_ret, k_t1, k_t0, k_nr, k_nn, k_z0, k_z1, k_zb, x_okI, lit_nI, k_in, k_cl, k_lt, k_le, k_eq, k_neg, nI_add, nI_mul, k_clt, k_cgt, k_cle, k_cge, k_ceq, bI_0, k_sh8, ne_eq, Nat.add_eq_zero_iff, Nat.one_ne_zero, Nat.succ_ne_zero, and_false, false_and, not_false_eq_true, not_true_eq_false, ite_true, ite_false, if_true, if_false, c_kindOfWord, kW_2, nmOK_s]
    rw [if_neg (by omega)]
    by_cases h0 : x = 0
    · simp only [h0, if_true]
      by_cases h1 : w = 0
      · simp [h1, bI]
      · cases hw : isW w <;> simp [h1, hw, bI]
    · simp only [h0, if_false]
      rw [c_isName_loop d h w n (i + 1) (sh8 x) _ (by omega)]
      by_cases ha : x &&& 255 < 97
      · have hb : ¬ 97 ≤ x &&& 255 := Int64.not_le.mpr ha
        simp [ha, hb, bI]
      · have hb : 97 ≤ x &&& 255 := Int64.not_lt.mp ha
        by_cases hc : 122 < x &&& 255
        · have hd : ¬ x &&& 255 ≤ 122 := Int64.not_le.mpr hc
          simp [ha, hc, hd, bI]
        · have hd : x &&& 255 ≤ 122 := Int64.not_lt.mp hc
          simp [ha, hb, hc, hd]
theorem c_isName (d : Nat) (h : xH) (w : Int64) : xm (d + 2) 11 [.long w] h = some (some (.int (bI (isN w))), h) := by
  rw [E_11]
  simp only [q_11_0, q_11_1, q_11_2, q_11_3, q_11_7, q_11_9, q_11_12, q_11_13, q_11_14, q_11_15, q_11_18, q_11_19, q_11_22, q_11_23, q_11_25, q_11_27, q_11_30, q_11_31, q_11_34, q_11_36, q_11_39, q_11_40, q_11_43, q_11_44, q_11_45, q_11_46, q_11_48, q_11_49, q_11_50, q_11_53, q_11_56, q_11_57, q_11_58, q_11_59, q_11_62, q_11_63, q_11_66, q_11_67, q_11_70, q_11_71, q_11_74, q_11_75, k_cr, k_ci, k_oR, k_oN, k_aR, k_aN, and_true, true_and, and_self, eq_self, Nat.reduceLT, Nat.reduceLeDiff, Nat.reduceEqDiff, Nat.reduceAdd, Nat.reduceMul, Bool.true_eq_false, Bool.false_eq_true, Nat.add_sub_cancel, Nat.not_lt_zero, Nat.zero_le, k_sub, k_sb1, k_r, k_n, k_ret, k_t1, k_t0, k_nr, k_nn, k_z0, k_z1, k_zb, x_okI, lit_nI, k_in, k_cl, k_lt, k_le, k_eq, k_neg, nI_add, nI_mul, k_clt, k_cgt, k_cle, k_cge, k_ceq, bI_0, k_sh8, ne_eq, Nat.add_eq_zero_iff, Nat.one_ne_zero, Nat.succ_ne_zero, and_false, false_and, not_false_eq_true, not_true_eq_false, ite_true, ite_false, if_true, if_false]
  rw [c_isName_loop d h w 8 0 w _ (by omega)]
  unfold isN
  cases nmOK 8 w <;> simp
/-- a Kind's row of a member -/
def kRow (S : gS) (i : Nat) : Bool := decide (¬ sA S 3 i = nI 0)
/-- a Kind of n members -/
def kOK (S : gS) (n : Nat) : Prop := sI S 4 = nI n ∧ n ≤ 8 ∧ ∀ i, sA S 3 i = bI (kRow S i)
theorem c_has (d : Nat) (h : xH) (a n i : Nat) (S : gS) (H : isB 1 h a S) (hk : kOK S n) (hi : i < 2147483648) : xm (d + 1) 31 [.ref a, .int (nI i)] h = some (some (.int (bI (decide (i < n)))), h) := by
  rw [E_31 _ _ _ _ rfl]
  obtain ⟨k1, k2, k3⟩ := hk
  simp (disch := omega) only [q_31_0, q_31_1, q_31_4, q_31_5, q_31_6, q_31_9, q_31_12, q_31_13, q_31_16, q_31_17, hg_1_4 H, h_is H, h_ob H, ofs_len1, k_cr, k_ci, k_oR, k_oN, k_aR, k_aN, and_true, true_and, and_self, eq_self, Nat.reduceLT, Nat.reduceLeDiff, Nat.reduceEqDiff, Nat.reduceAdd, Nat.reduceMul, Bool.true_eq_false, Bool.false_eq_true, Nat.add_sub_cancel, Nat.not_lt_zero, Nat.zero_le, k_sub, k_sb1, k_r, k_n, k_ret, k_t1, k_t0, k_nr, k_nn, k_z0, k_z1, k_zb, x_okI, lit_nI, k_in, k_cl, k_lt, k_le, k_eq, k_neg, nI_add, nI_mul, k_clt, k_cgt, k_cle, k_cge, k_ceq, bI_0, k_sh8, ne_eq, Nat.add_eq_zero_iff, Nat.one_ne_zero, Nat.succ_ne_zero, and_false, false_and, not_false_eq_true, not_true_eq_false, ite_true, ite_false, if_true, if_false, k1]
  by_cases h1 : i < n
  · have h2 : ¬ n ≤ i := by omega
    simp [h1, h2, bI]
  · have h2 : n ≤ i := by omega
    simp [h1, h2, bI]
theorem c_isRow (d : Nat) (h : xH) (a n i : Nat) (S : gS) (H : isB 1 h a S) (hk : kOK S n) (hi : i < 2147483648) : xm (d + 1) 29 [.ref a, .int (nI i)] h = some (some (.int (bI (decide (i < n) && kRow S i))), h) := by
  rw [E_29 _ _ _ _ rfl]
  obtain ⟨k1, k2, k3⟩ := hk
  by_cases h1 : i < n
  · simp (disch := omega) only [q_29_0, q_29_1, q_29_4, q_29_5, q_29_6, q_29_9, q_29_12, q_29_13, q_29_16, q_29_17, q_29_18, q_29_21, q_29_22, q_29_25, q_29_26, hg_1_4 H, hg_1_3 H, hr_1_3 H, hw_1_3 H, h_is H, h_ob H, ofs_len1, k_cr, k_ci, k_oR, k_oN, k_aR, k_aN, and_true, true_and, and_self, eq_self, Nat.reduceLT, Nat.reduceLeDiff, Nat.reduceEqDiff, Nat.reduceAdd, Nat.reduceMul, Bool.true_eq_false, Bool.false_eq_true, Nat.add_sub_cancel, Nat.not_lt_zero, Nat.zero_le, k_sub, k_sb1, k_r, k_n, k_ret, k_t1, k_t0, k_nr, k_nn, k_z0, k_z1, k_zb, x_okI, lit_nI, k_in, k_cl, k_lt, k_le, k_eq, k_neg, nI_add, nI_mul, k_clt, k_cgt, k_cle, k_cge, k_ceq, bI_0, k_sh8, ne_eq, Nat.add_eq_zero_iff, Nat.one_ne_zero, Nat.succ_ne_zero, and_false, false_and, not_false_eq_true, not_true_eq_false, ite_true, ite_false, if_true, if_false, k1, k3, h1]
    have h2 : ¬ n ≤ i := by omega
    cases kRow S i <;> simp [bI, h2]
  · simp (disch := omega) only [q_29_0, q_29_1, q_29_4, q_29_5, q_29_6, q_29_9, q_29_12, q_29_13, q_29_16, q_29_17, q_29_18, q_29_21, q_29_22, q_29_25, q_29_26, hg_1_4 H, hg_1_3 H, hr_1_3 H, hw_1_3 H, h_is H, h_ob H, ofs_len1, k_cr, k_ci, k_oR, k_oN, k_aR, k_aN, and_true, true_and, and_self, eq_self, Nat.reduceLT, Nat.reduceLeDiff, Nat.reduceEqDiff, Nat.reduceAdd, Nat.reduceMul, Bool.true_eq_false, Bool.false_eq_true, Nat.add_sub_cancel, Nat.not_lt_zero, Nat.zero_le, k_sub, k_sb1, k_r, k_n, k_ret, k_t1, k_t0, k_nr, k_nn, k_z0, k_z1, k_zb, x_okI, lit_nI, k_in, k_cl, k_lt, k_le, k_eq, k_neg, nI_add, nI_mul, k_clt, k_cgt, k_cle, k_cge, k_ceq, bI_0, k_sh8, ne_eq, Nat.add_eq_zero_iff, Nat.one_ne_zero, Nat.succ_ne_zero, and_false, false_and, not_false_eq_true, not_true_eq_false, ite_true, ite_false, if_true, if_false, k1, k3, h1]
    simp [bI, Nat.not_lt.mp h1]
theorem c_typeAt (d : Nat) (h : xH) (a n i : Nat) (S : gS) (H : isB 1 h a S) (hk : kOK S n) (hi : i < 2147483648) : xm (d + 1) 32 [.ref a, .int (nI i)] h = some (some (.int (if i < n then sA S 2 i else nI 5)), h) := by
  rw [E_32 _ _ _ _ rfl]
  obtain ⟨k1, k2, k3⟩ := hk
  by_cases h1 : i < n
  · simp (disch := omega) only [q_32_0, q_32_1, q_32_4, q_32_5, q_32_6, q_32_9, q_32_12, q_32_13, q_32_16, q_32_17, q_32_18, q_32_21, q_32_22, hg_1_4 H, hg_1_2 H, hr_1_2 H, hw_1_2 H, h_is H, h_ob H, ofs_len1, k_cr, k_ci, k_oR, k_oN, k_aR, k_aN, and_true, true_and, and_self, eq_self, Nat.reduceLT, Nat.reduceLeDiff, Nat.reduceEqDiff, Nat.reduceAdd, Nat.reduceMul, Bool.true_eq_false, Bool.false_eq_true, Nat.add_sub_cancel, Nat.not_lt_zero, Nat.zero_le, k_sub, k_sb1, k_r, k_n, k_ret, k_t1, k_t0, k_nr, k_nn, k_z0, k_z1, k_zb, x_okI, lit_nI, k_in, k_cl, k_lt, k_le, k_eq, k_neg, nI_add, nI_mul, k_clt, k_cgt, k_cle, k_cge, k_ceq, bI_0, k_sh8, ne_eq, Nat.add_eq_zero_iff, Nat.one_ne_zero, Nat.succ_ne_zero, and_false, false_and, not_false_eq_true, not_true_eq_false, ite_true, ite_false, if_true, if_false, k1, h1]
    have h2 : ¬ n ≤ i := by omega
    simp [h2]
  · simp (disch := omega) only [q_32_0, q_32_1, q_32_4, q_32_5, q_32_6, q_32_9, q_32_12, q_32_13, q_32_16, q_32_17, q_32_18, q_32_21, q_32_22, hg_1_4 H, hg_1_2 H, hr_1_2 H, hw_1_2 H, h_is H, h_ob H, ofs_len1, k_cr, k_ci, k_oR, k_oN, k_aR, k_aN, and_true, true_and, and_self, eq_self, Nat.reduceLT, Nat.reduceLeDiff, Nat.reduceEqDiff, Nat.reduceAdd, Nat.reduceMul, Bool.true_eq_false, Bool.false_eq_true, Nat.add_sub_cancel, Nat.not_lt_zero, Nat.zero_le, k_sub, k_sb1, k_r, k_n, k_ret, k_t1, k_t0, k_nr, k_nn, k_z0, k_z1, k_zb, x_okI, lit_nI, k_in, k_cl, k_lt, k_le, k_eq, k_neg, nI_add, nI_mul, k_clt, k_cgt, k_cle, k_cge, k_ceq, bI_0, k_sh8, ne_eq, Nat.add_eq_zero_iff, Nat.one_ne_zero, Nat.succ_ne_zero, and_false, false_and, not_false_eq_true, not_true_eq_false, ite_true, ite_false, if_true, if_false, k1, h1]
    simp [Nat.not_lt.mp h1, h1]
theorem c_kfind_loop (d : Nat) (h : xH) (a n : Nat) (S : gS) (w : Int64) (H : isB 1 h a S) (hk : kOK S n) : ∀ (k i : Nat), i + k = n → xrun d 19 2 [(1, .ref a), (2, .long w), (0, .null), (1, .int (nI i))] [] h = some (some (.int (oI (fndF (sL S 1) w k i))), h)
  | 0, i, hi => by
    obtain ⟨k1, k2, k3⟩ := id hk
    rw [q_19_2]
    simp (disch := omega) only [q_19_0, q_19_1, q_19_3, q_19_4, q_19_7, q_19_10, q_19_11, q_19_14, q_19_15, q_19_16, q_19_17, q_19_18, q_19_21, q_19_22, q_19_23, q_19_26, q_19_29, q_19_30, hg_1_4 H, hg_1_1 H, hr_1_1 H, hw_1_1 H, h_is H, h_ob H, ofs_len1, k_cr, k_ci, k_oR, k_oN, k_aR, k_aN, and_true, true_and, and_self, eq_self, Nat.reduceLT, Nat.reduceLeDiff, Nat.reduceEqDiff, Nat.reduceAdd, Nat.reduceMul, Bool.true_eq_false, Bool.false_eq_true, Nat.add_sub_cancel, Nat.not_lt_zero, Nat.zero_le, k_sub, k_sb1, k_r, k_n, k_ret, k_t1, k_t0, k_nr, k_nn, k_z0, k_z1, k_zb, x_okI, lit_nI, k_in, k_cl, k_lt, k_le, k_eq, k_neg, nI_add, nI_mul, k_clt, k_cgt, k_cle, k_cge, k_ceq, bI_0, k_sh8, ne_eq, Nat.add_eq_zero_iff, Nat.one_ne_zero, Nat.succ_ne_zero, and_false, false_and, not_false_eq_true, not_true_eq_false, ite_true, ite_false, if_true, if_false, k1]
    rw [if_pos (by omega)]
    rfl
  | k + 1, i, hi => by
    obtain ⟨k1, k2, k3⟩ := id hk
    rw [q_19_2]
    simp (disch := omega) only [q_19_0, q_19_1, q_19_3, q_19_4, q_19_7, q_19_10, q_19_11, q_19_14, q_19_15, q_19_16, q_19_17, q_19_18, q_19_21, q_19_22, q_19_23, q_19_26, q_19_29, q_19_30, hg_1_4 H, hg_1_1 H, hr_1_1 H, hw_1_1 H, h_is H, h_ob H, ofs_len1, k_cr, k_ci, k_oR, k_oN, k_aR, k_aN, and_true, true_and, and_self, eq_self, Nat.reduceLT, Nat.reduceLeDiff, Nat.reduceEqDiff, Nat.reduceAdd, Nat.reduceMul, Bool.true_eq_false, Bool.false_eq_true, Nat.add_sub_cancel, Nat.not_lt_zero, Nat.zero_le, k_sub, k_sb1, k_r, k_n, k_ret, k_t1, k_t0, k_nr, k_nn, k_z0, k_z1, k_zb, x_okI, lit_nI, k_in, k_cl, k_lt, k_le, k_eq, k_neg, nI_add, nI_mul, k_clt, k_cgt, k_cle, k_cge, k_ceq, bI_0, k_sh8, ne_eq, Nat.add_eq_zero_iff, Nat.one_ne_zero, Nat.succ_ne_zero, and_false, false_and, not_false_eq_true, not_true_eq_false, ite_true, ite_false, if_true, if_false, k1]
    rw [if_neg (by omega), c_kfind_loop d h a n S w H hk k (i + 1) (by omega), fndF_s]
    by_cases h1 : sL S 1 i = w
    · simp only [h1, if_true]
      rfl
    · simp only [h1, if_false]
theorem c_kfind (d : Nat) (h : xH) (a n : Nat) (S : gS) (w : Int64) (H : isB 1 h a S) (hk : kOK S n) : xm (d + 1) 19 [.ref a, .long w] h = some (some (.int (oI (fnd (sL S 1) w n))), h) := by
  rw [E_19 _ _ _ _ rfl]
  simp only [q_19_0, q_19_1, q_19_3, q_19_4, q_19_7, q_19_10, q_19_11, q_19_14, q_19_15, q_19_16, q_19_17, q_19_18, q_19_21, q_19_22, q_19_23, q_19_26, q_19_29, q_19_30, k_cr, k_ci, k_oR, k_oN, k_aR, k_aN, and_true, true_and, and_self, eq_self, Nat.reduceLT, Nat.reduceLeDiff, Nat.reduceEqDiff, Nat.reduceAdd, Nat.reduceMul, Bool.true_eq_false, Bool.false_eq_true, Nat.add_sub_cancel, Nat.not_lt_zero, Nat.zero_le, k_sub, k_sb1, k_r, k_n, k_ret, k_t1, k_t0, k_nr, k_nn, k_z0, k_z1, k_zb, x_okI, lit_nI, k_in, k_cl, k_lt, k_le, k_eq, k_neg, nI_add, nI_mul, k_clt, k_cgt, k_cle, k_cge, k_ceq, bI_0, k_sh8, ne_eq, Nat.add_eq_zero_iff, Nat.one_ne_zero, Nat.succ_ne_zero, and_false, false_and, not_false_eq_true, not_true_eq_false, ite_true, ite_false, if_true, if_false]
  exact c_kfind_loop d h a n S w H hk n 0 (by omega)
theorem c_kappend (d : Nat) (h : xH) (a n : Nat) (S : gS) (w : Int64) (t : Int32) (r : Bool) (H : isB 1 h a S) (hk : kOK S n) (hn : n < 8) : xm (d + 1) 20 [.ref a, .long w, .int t, .int (bI r)] h = some (some (.int (nI n)), oh 1 h a (uI (uA (uA (uL S 1 n w) 2 n t) 3 n (bI r)) 4 (nI (n + 1)))) := by
  rw [E_20 _ _ _ _ _ _ rfl]
  obtain ⟨k1, k2, k3⟩ := id hk
  simp (disch := omega) only [q_20_0, q_20_1, q_20_4, q_20_6, q_20_9, q_20_11, q_20_12, q_20_13, q_20_16, q_20_17, q_20_20, q_20_21, q_20_22, q_20_23, q_20_26, q_20_27, q_20_30, q_20_31, q_20_32, q_20_33, q_20_36, q_20_37, q_20_40, q_20_42, q_20_43, q_20_44, q_20_45, q_20_48, q_20_49, q_20_50, q_20_53, q_20_54, q_20_57, q_20_58, q_20_59, hg_1_4 H, hp_1_4 H, hg_1_1 H, hr_1_1 H, hw_1_1 H, hg_1_2 H, hr_1_2 H, hw_1_2 H, hg_1_3 H, hr_1_3 H, hw_1_3 H, h_is H, h_ob H, ofs_len1, q_20_0, q_20_1, q_20_4, q_20_6, q_20_9, q_20_11, q_20_12, q_20_13, q_20_16, q_20_17, q_20_20, q_20_21, q_20_22, q_20_23, q_20_26, q_20_27, q_20_30, q_20_31, q_20_32, q_20_33, q_20_36, q_20_37, q_20_40, q_20_42, q_20_43, q_20_44, q_20_45, q_20_48, q_20_49, q_20_50, q_20_53, q_20_54, q_20_57, q_20_58, q_20_59, og_1_4, op_1_4, og_1_1, or_1_1, ow_1_1, og_1_2, or_1_2, ow_1_2, og_1_3, or_1_3, ow_1_3, o_is, o_ob, ofs_len1, k_cr, k_ci, k_oR, k_oN, k_aR, k_aN, and_true, true_and, and_self, eq_self, Nat.reduceLT, Nat.reduceLeDiff, Nat.reduceEqDiff, Nat.reduceAdd, Nat.reduceMul, Bool.true_eq_false, Bool.false_eq_true, Nat.add_sub_cancel, Nat.not_lt_zero, Nat.zero_le, k_sub, k_sb1, k_r, k_n, k_ret, k_t1, k_t0, k_nr, k_nn, k_z0, k_z1, k_zb, x_okI, lit_nI, k_in, k_cl, k_lt, k_le, k_eq, k_neg, nI_add, nI_mul, k_clt, k_cgt, k_cle, k_cge, k_ceq, bI_0, k_sh8, ne_eq, Nat.add_eq_zero_iff, Nat.one_ne_zero, Nat.succ_ne_zero, and_false, false_and, not_false_eq_true, not_true_eq_false, ite_true, ite_false, if_true, if_false, sI_uI, sJ_uI, sA_uI, sL_uI, sR_uI, sQ_uI, sI_uJ, sJ_uJ, sA_uJ, sL_uJ, sR_uJ, sQ_uJ, sI_uA, sJ_uA, sA_uA, sL_uA, sR_uA, sQ_uA, sI_uL, sJ_uL, sA_uL, sL_uL, sR_uL, sQ_uL, sI_uR, sJ_uR, sA_uR, sL_uR, sR_uR, sQ_uR, sI_uQ, sJ_uQ, sA_uQ, sL_uQ, sR_uQ, sQ_uQ, k1, bI_and, hn]
