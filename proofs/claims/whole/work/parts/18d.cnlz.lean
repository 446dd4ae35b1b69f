/-! The class: leading and trailing zeros. -/
theorem lg_div {u k : Nat} (h : 2 ^ k ≤ u) : Nat.log2 (u / 2 ^ k) + k = Nat.log2 u := by
  have hp := Nat.two_pow_pos k
  have h0 : u ≠ 0 := by omega
  have h1 : u / 2 ^ k ≠ 0 := by
    have := Nat.div_pos h hp
    omega
  obtain ⟨a, b⟩ := (lg_iff h1).mp rfl
  refine ((lg_iff h0).mpr ⟨?_, ?_⟩).symm
  · rw [Nat.pow_add]
    exact (Nat.le_div_iff_mul_le hp).mp a
  · rw [Nat.add_right_comm, Nat.pow_add]
    exact (Nat.div_lt_iff_lt_mul hp).mp b
theorem z_73 (d : Nat) (h : xH) {u n : Nat} (h1 : 1 ≤ u) (h4 : u < 4) (hn : 1 ≤ n) (hn2 : n < 100) : xrun d 100 73 [(1, .int (nI u)), (1, .int (nI n))] [] h = some (some (.int (nI (n - Nat.log2 u))), h) := by
  have hl : Nat.log2 u = u / 2 ^ 1 := by
    have : u = 1 ∨ u = 2 ∨ u = 3 := by omega
    rcases this with rfl | rfl | rfl <;> decide
  rw [hl]
  simp (disch := omega) only [q_100_73, q_100_74, q_100_75, q_100_76, q_100_77, q_100_78, o_is, o_ob, ↓reduceIte, k_cr, k_ci, k_oR, k_oN, k_aR, k_aN, and_true, true_and, and_self, eq_self, Nat.reduceLT, Nat.reduceLeDiff, Nat.reduceEqDiff, Nat.reduceAdd, Nat.reduceMul, Bool.true_eq_false, Bool.false_eq_true, Nat.add_sub_cancel, Nat.not_lt_zero, Nat.zero_le, k_sub, k_sb1, k_r, k_n, k_ret, k_t1, k_t0, k_nr, k_nn, k_z0, k_z1, k_zb, x_okI, lit_nI, k_in, k_cl, k_lt, k_le, k_eq, k_neg, nI_add, nI_mul, k_clt, k_cgt, k_cle, k_cge, k_ceq, bI_0, k_sh8, ne_eq, Nat.add_eq_zero_iff, Nat.one_ne_zero, Nat.succ_ne_zero, and_false, false_and, not_false_eq_true, not_true_eq_false, ite_true, ite_false, if_true, if_false, k_iS]
theorem z_61 (d : Nat) (h : xH) {u n : Nat} (h1 : 1 ≤ u) (h4 : u < 16) (hn : 3 ≤ n) (hn2 : n < 100) : xrun d 100 61 [(1, .int (nI u)), (1, .int (nI n))] [] h = some (some (.int (nI (n - Nat.log2 u))), h) := by
  by_cases c : u < 4
  · have e := z_73 d h (n := n) h1 c (by omega) hn2
    simp (disch := omega) only [q_100_61, q_100_62, q_100_63, ↓reduceIte, k_cr, k_ci, k_oR, k_oN, k_aR, k_aN, and_true, true_and, and_self, eq_self, Nat.reduceLT, Nat.reduceLeDiff, Nat.reduceEqDiff, Nat.reduceAdd, Nat.reduceMul, Bool.true_eq_false, Bool.false_eq_true, Nat.add_sub_cancel, Nat.not_lt_zero, Nat.zero_le, k_sub, k_sb1, k_r, k_n, k_ret, k_t1, k_t0, k_nr, k_nn, k_z0, k_z1, k_zb, x_okI, lit_nI, k_in, k_cl, k_lt, k_le, k_eq, k_neg, nI_add, nI_mul, k_clt, k_cgt, k_cle, k_cge, k_ceq, bI_0, k_sh8, ne_eq, Nat.add_eq_zero_iff, Nat.one_ne_zero, Nat.succ_ne_zero, and_false, false_and, not_false_eq_true, not_true_eq_false, ite_true, ite_false, if_true, if_false, c]
    exact e
  · have e := z_73 d h (u := u / 2 ^ 2) (n := n - 2) (by omega) (by omega) (by omega) (by omega)
    have hl := lg_div (u := u) (k := 2) (by omega)
    rw [show n - 2 - Nat.log2 (u / 2 ^ 2) = n - Nat.log2 u by omega] at e
    simp (disch := omega) only [q_100_61, q_100_62, q_100_63, q_100_66, q_100_69, q_100_70, q_100_71, q_100_72, ↓reduceIte, k_cr, k_ci, k_oR, k_oN, k_aR, k_aN, and_true, true_and, and_self, eq_self, Nat.reduceLT, Nat.reduceLeDiff, Nat.reduceEqDiff, Nat.reduceAdd, Nat.reduceMul, Bool.true_eq_false, Bool.false_eq_true, Nat.add_sub_cancel, Nat.not_lt_zero, Nat.zero_le, k_sub, k_sb1, k_r, k_n, k_ret, k_t1, k_t0, k_nr, k_nn, k_z0, k_z1, k_zb, x_okI, lit_nI, k_in, k_cl, k_lt, k_le, k_eq, k_neg, nI_add, nI_mul, k_clt, k_cgt, k_cle, k_cge, k_ceq, bI_0, k_sh8, ne_eq, Nat.add_eq_zero_iff, Nat.one_ne_zero, Nat.succ_ne_zero, and_false, false_and, not_false_eq_true, not_true_eq_false, ite_true, ite_false, if_true, if_false, c, k_an, k_iS]
    exact e
theorem z_48 (d : Nat) (h : xH) {u n : Nat} (h1 : 1 ≤ u) (h4 : u < 256) (hn : 7 ≤ n) (hn2 : n < 100) : xrun d 100 48 [(1, .int (nI u)), (1, .int (nI n))] [] h = some (some (.int (nI (n - Nat.log2 u))), h) := by
  by_cases c : u < 16
  · have e := z_61 d h (n := n) h1 c (by omega) hn2
    simp (disch := omega) only [q_100_48, q_100_49, q_100_51, ↓reduceIte, k_cr, k_ci, k_oR, k_oN, k_aR, k_aN, and_true, true_and, and_self, eq_self, Nat.reduceLT, Nat.reduceLeDiff, Nat.reduceEqDiff, Nat.reduceAdd, Nat.reduceMul, Bool.true_eq_false, Bool.false_eq_true, Nat.add_sub_cancel, Nat.not_lt_zero, Nat.zero_le, k_sub, k_sb1, k_r, k_n, k_ret, k_t1, k_t0, k_nr, k_nn, k_z0, k_z1, k_zb, x_okI, lit_nI, k_in, k_cl, k_lt, k_le, k_eq, k_neg, nI_add, nI_mul, k_clt, k_cgt, k_cle, k_cge, k_ceq, bI_0, k_sh8, ne_eq, Nat.add_eq_zero_iff, Nat.one_ne_zero, Nat.succ_ne_zero, and_false, false_and, not_false_eq_true, not_true_eq_false, ite_true, ite_false, if_true, if_false, c]
    exact e
  · have e := z_61 d h (u := u / 2 ^ 4) (n := n - 4) (by omega) (by omega) (by omega) (by omega)
    have hl := lg_div (u := u) (k := 4) (by omega)
    rw [show n - 4 - Nat.log2 (u / 2 ^ 4) = n - Nat.log2 u by omega] at e
    simp (disch := omega) only [q_100_48, q_100_49, q_100_51, q_100_54, q_100_57, q_100_58, q_100_59, q_100_60, ↓reduceIte, k_cr, k_ci, k_oR, k_oN, k_aR, k_aN, and_true, true_and, and_self, eq_self, Nat.reduceLT, Nat.reduceLeDiff, Nat.reduceEqDiff, Nat.reduceAdd, Nat.reduceMul, Bool.true_eq_false, Bool.false_eq_true, Nat.add_sub_cancel, Nat.not_lt_zero, Nat.zero_le, k_sub, k_sb1, k_r, k_n, k_ret, k_t1, k_t0, k_nr, k_nn, k_z0, k_z1, k_zb, x_okI, lit_nI, k_in, k_cl, k_lt, k_le, k_eq, k_neg, nI_add, nI_mul, k_clt, k_cgt, k_cle, k_cge, k_ceq, bI_0, k_sh8, ne_eq, Nat.add_eq_zero_iff, Nat.one_ne_zero, Nat.succ_ne_zero, and_false, false_and, not_false_eq_true, not_true_eq_false, ite_true, ite_false, if_true, if_false, c, k_an, k_iS]
    exact e
theorem z_33 (d : Nat) (h : xH) {u n : Nat} (h1 : 1 ≤ u) (h4 : u < 65536) (hn : 15 ≤ n) (hn2 : n < 100) : xrun d 100 33 [(1, .int (nI u)), (1, .int (nI n))] [] h = some (some (.int (nI (n - Nat.log2 u))), h) := by
  by_cases c : u < 256
  · have e := z_48 d h (n := n) h1 c (by omega) hn2
    simp (disch := omega) only [q_100_33, q_100_34, q_100_37, ↓reduceIte, k_cr, k_ci, k_oR, k_oN, k_aR, k_aN, and_true, true_and, and_self, eq_self, Nat.reduceLT, Nat.reduceLeDiff, Nat.reduceEqDiff, Nat.reduceAdd, Nat.reduceMul, Bool.true_eq_false, Bool.false_eq_true, Nat.add_sub_cancel, Nat.not_lt_zero, Nat.zero_le, k_sub, k_sb1, k_r, k_n, k_ret, k_t1, k_t0, k_nr, k_nn, k_z0, k_z1, k_zb, x_okI, lit_nI, k_in, k_cl, k_lt, k_le, k_eq, k_neg, nI_add, nI_mul, k_clt, k_cgt, k_cle, k_cge, k_ceq, bI_0, k_sh8, ne_eq, Nat.add_eq_zero_iff, Nat.one_ne_zero, Nat.succ_ne_zero, and_false, false_and, not_false_eq_true, not_true_eq_false, ite_true, ite_false, if_true, if_false, c]
    exact e
  · have e := z_48 d h (u := u / 2 ^ 8) (n := n - 8) (by omega) (by omega) (by omega) (by omega)
    have hl := lg_div (u := u) (k := 8) (by omega)
    rw [show n - 8 - Nat.log2 (u / 2 ^ 8) = n - Nat.log2 u by omega] at e
    simp (disch := omega) only [q_100_33, q_100_34, q_100_37, q_100_40, q_100_43, q_100_44, q_100_46, q_100_47, ↓reduceIte, k_cr, k_ci, k_oR, k_oN, k_aR, k_aN, and_true, true_and, and_self, eq_self, Nat.reduceLT, Nat.reduceLeDiff, Nat.reduceEqDiff, Nat.reduceAdd, Nat.reduceMul, Bool.true_eq_false, Bool.false_eq_true, Nat.add_sub_cancel, Nat.not_lt_zero, Nat.zero_le, k_sub, k_sb1, k_r, k_n, k_ret, k_t1, k_t0, k_nr, k_nn, k_z0, k_z1, k_zb, x_okI, lit_nI, k_in, k_cl, k_lt, k_le, k_eq, k_neg, nI_add, nI_mul, k_clt, k_cgt, k_cle, k_cge, k_ceq, bI_0, k_sh8, ne_eq, Nat.add_eq_zero_iff, Nat.one_ne_zero, Nat.succ_ne_zero, and_false, false_and, not_false_eq_true, not_true_eq_false, ite_true, ite_false, if_true, if_false, c, k_an, k_iS]
    exact e
theorem nI_hi {u : Nat} (h : 2147483648 ≤ u) (h2 : u < 4294967296) : (nI 0 < nI u) = False ∧ (nI u = nI 0) = False := by
  have h1 : nI u ≤ nI 0 := by
    rw [nI_le0 h2]
    exact Or.inr h
  refine ⟨propext ⟨fun q => absurd h1 (Int32.not_le.mpr q), fun q => q.elim⟩, propext ⟨fun q => ?_, fun q => q.elim⟩⟩
  have := congrArg vn q
  rw [vn_nI, vn_nI] at this
  omega
theorem c_nlz32 (d : Nat) (h : xH) {u : Nat} (hu : u < 4294967296) : xm (d + 1) 100 [.int (nI u)] h = some (some (.int (nI (if u = 0 then 32 else 31 - Nat.log2 u))), h) := by
  rw [E_100]
  by_cases h0 : u = 0
  · subst h0
    simp (disch := omega) only [q_100_0, q_100_1, q_100_4, q_100_5, q_100_8, q_100_10, q_100_13, q_100_14, q_100_15, q_100_17, q_100_18, q_100_19, q_100_22, q_100_25, q_100_28, q_100_29, q_100_31, q_100_32, q_100_33, q_100_34, q_100_37, q_100_40, q_100_43, q_100_44, q_100_46, q_100_47, q_100_48, q_100_49, q_100_51, q_100_54, q_100_57, q_100_58, q_100_59, q_100_60, q_100_61, q_100_62, q_100_63, q_100_66, q_100_69, q_100_70, q_100_71, q_100_72, q_100_73, q_100_74, q_100_75, q_100_76, q_100_77, q_100_78, o_is, o_ob, ↓reduceIte, k_cr, k_ci, k_oR, k_oN, k_aR, k_aN, and_true, true_and, and_self, eq_self, Nat.reduceLT, Nat.reduceLeDiff, Nat.reduceEqDiff, Nat.reduceAdd, Nat.reduceMul, Bool.true_eq_false, Bool.false_eq_true, Nat.add_sub_cancel, Nat.not_lt_zero, Nat.zero_le, k_sub, k_sb1, k_r, k_n, k_ret, k_t1, k_t0, k_nr, k_nn, k_z0, k_z1, k_zb, x_okI, lit_nI, k_in, k_cl, k_lt, k_le, k_eq, k_neg, nI_add, nI_mul, k_clt, k_cgt, k_cle, k_cge, k_ceq, bI_0, k_sh8, ne_eq, Nat.add_eq_zero_iff, Nat.one_ne_zero, Nat.succ_ne_zero, and_false, false_and, not_false_eq_true, not_true_eq_false, ite_true, ite_false, if_true, if_false]
  · rw [if_neg h0]
    by_cases hh : 2147483648 ≤ u
    · obtain ⟨e1, e2⟩ := nI_hi hh hu
      have hl : Nat.log2 u = 31 := (lg_iff h0).mpr ⟨hh, hu⟩
      rw [hl]
      simp (disch := omega) only [q_100_0, q_100_1, q_100_4, q_100_5, q_100_8, q_100_10, q_100_13, q_100_14, o_is, o_ob, ↓reduceIte, k_cr, k_ci, k_oR, k_oN, k_aR, k_aN, and_true, true_and, and_self, eq_self, Nat.reduceLT, Nat.reduceLeDiff, Nat.reduceEqDiff, Nat.reduceAdd, Nat.reduceMul, Bool.true_eq_false, Bool.false_eq_true, Nat.add_sub_cancel, Nat.not_lt_zero, Nat.zero_le, k_sub, k_sb1, k_r, k_n, k_ret, k_t1, k_t0, k_nr, k_nn, k_z0, k_z1, k_zb, x_okI, lit_nI, k_in, k_cl, k_lt, k_le, k_eq, k_neg, nI_add, nI_mul, k_clt, k_cgt, k_cle, k_cge, k_ceq, bI_0, k_sh8, ne_eq, Nat.add_eq_zero_iff, Nat.one_ne_zero, Nat.succ_ne_zero, and_false, false_and, not_false_eq_true, not_true_eq_false, ite_true, ite_false, if_true, if_false, e1, e2]
    · have hp : 0 < u := by omega
      by_cases c : u < 65536
      · have e := z_33 d h (u := u) (n := 31) (by omega) c (by omega) (by omega)
        simp (disch := omega) only [q_100_0, q_100_1, q_100_4, q_100_5, q_100_8, q_100_10, q_100_13, q_100_14, q_100_15, q_100_17, q_100_18, q_100_19, q_100_22, q_100_25, q_100_28, q_100_29, q_100_31, q_100_32, o_is, o_ob, ↓reduceIte, k_cr, k_ci, k_oR, k_oN, k_aR, k_aN, and_true, true_and, and_self, eq_self, Nat.reduceLT, Nat.reduceLeDiff, Nat.reduceEqDiff, Nat.reduceAdd, Nat.reduceMul, Bool.true_eq_false, Bool.false_eq_true, Nat.add_sub_cancel, Nat.not_lt_zero, Nat.zero_le, k_sub, k_sb1, k_r, k_n, k_ret, k_t1, k_t0, k_nr, k_nn, k_z0, k_z1, k_zb, x_okI, lit_nI, k_in, k_cl, k_lt, k_le, k_eq, k_neg, nI_add, nI_mul, k_clt, k_cgt, k_cle, k_cge, k_ceq, bI_0, k_sh8, ne_eq, Nat.add_eq_zero_iff, Nat.one_ne_zero, Nat.succ_ne_zero, and_false, false_and, not_false_eq_true, not_true_eq_false, ite_true, ite_false, if_true, if_false, c, hp]
        exact e
      · have e := z_33 d h (u := u / 2 ^ 16) (n := 31 - 16) (by omega) (by omega) (by omega) (by omega)
        have hl := lg_div (u := u) (k := 16) (by omega)
        rw [show 31 - 16 - Nat.log2 (u / 2 ^ 16) = 31 - Nat.log2 u by omega] at e
        simp (disch := omega) only [q_100_0, q_100_1, q_100_4, q_100_5, q_100_8, q_100_10, q_100_13, q_100_14, q_100_15, q_100_17, q_100_18, q_100_19, q_100_22, q_100_25, q_100_28, q_100_29, q_100_31, q_100_32, o_is, o_ob, ↓reduceIte, k_cr, k_ci, k_oR, k_oN, k_aR, k_aN, and_true, true_and, and_self, eq_self, Nat.reduceLT, Nat.reduceLeDiff, Nat.reduceEqDiff, Nat.reduceAdd, Nat.reduceMul, Bool.true_eq_false, Bool.false_eq_true, Nat.add_sub_cancel, Nat.not_lt_zero, Nat.zero_le, k_sub, k_sb1, k_r, k_n, k_ret, k_t1, k_t0, k_nr, k_nn, k_z0, k_z1, k_zb, x_okI, lit_nI, k_in, k_cl, k_lt, k_le, k_eq, k_neg, nI_add, nI_mul, k_clt, k_cgt, k_cle, k_cge, k_ceq, bI_0, k_sh8, ne_eq, Nat.add_eq_zero_iff, Nat.one_ne_zero, Nat.succ_ne_zero, and_false, false_and, not_false_eq_true, not_true_eq_false, ite_true, ite_false, if_true, if_false, c, hp, k_an, k_iS]
        exact e
theorem c_nlz (d : Nat) (h : xH) {x : Int64} (h0 : ¬ x = 0) : xm (d + 2) 99 [.long x] h = some (some (.int (nI (63 - tp x))), h) := by
  have hu := un_lt x
  have hn : un x ≠ 0 := fun z => h0 (un_0.mpr z)
  have e1 := c_nlz32 d h (u := un x / 4294967296) (by omega)
  have e2 := c_nlz32 d h (u := un x % 4294967296) (by omega)
  unfold tp
  rw [E_99]
  by_cases c : un x / 4294967296 = 0
  · have hlo : un x % 4294967296 = un x := Nat.mod_eq_of_lt (by omega)
    rw [hlo, if_neg hn] at e2
    have hl := lg_lt (n := un x) (k := 32) (by omega) (by omega)
    rw [show 63 - Nat.log2 (un x) = 32 + (31 - Nat.log2 (un x)) by omega]
    simp (disch := omega) only [q_99_0, q_99_1, q_99_3, q_99_4, q_99_5, q_99_6, q_99_7, q_99_10, q_99_12, q_99_13, q_99_14, q_99_17, q_99_18, q_99_21, q_99_22, q_99_25, o_is, o_ob, ↓reduceIte, k_cr, k_ci, k_oR, k_oN, k_aR, k_aN, and_true, true_and, and_self, eq_self, Nat.reduceLT, Nat.reduceLeDiff, Nat.reduceEqDiff, Nat.reduceAdd, Nat.reduceMul, Bool.true_eq_false, Bool.false_eq_true, Nat.add_sub_cancel, Nat.not_lt_zero, Nat.zero_le, k_sub, k_sb1, k_r, k_n, k_ret, k_t1, k_t0, k_nr, k_nn, k_z0, k_z1, k_zb, x_okI, lit_nI, k_in, k_cl, k_lt, k_le, k_eq, k_neg, nI_add, nI_mul, k_clt, k_cgt, k_cle, k_cge, k_ceq, bI_0, k_sh8, ne_eq, Nat.add_eq_zero_iff, Nat.one_ne_zero, Nat.succ_ne_zero, and_false, false_and, not_false_eq_true, not_true_eq_false, ite_true, ite_false, if_true, if_false, k_rS, hi_32, k_32 x, c, hlo, e2]
  · rw [if_neg c] at e1
    have hl := lg_div (u := un x) (k := 32) (by omega)
    have c2 : ¬ nI (un x / 4294967296) = nI 0 := by
      intro q
      have := congrArg vn q
      rw [vn_nI, vn_nI] at this
      omega
    rw [show 63 - Nat.log2 (un x) = 31 - Nat.log2 (un x / 4294967296) by
      have : un x / 2 ^ 32 = un x / 4294967296 := rfl
      rw [this] at hl
      omega]
    simp (disch := omega) only [q_99_0, q_99_1, q_99_3, q_99_4, q_99_5, q_99_6, q_99_7, q_99_10, q_99_12, q_99_13, q_99_14, q_99_17, q_99_18, q_99_21, q_99_22, q_99_25, o_is, o_ob, ↓reduceIte, k_cr, k_ci, k_oR, k_oN, k_aR, k_aN, and_true, true_and, and_self, eq_self, Nat.reduceLT, Nat.reduceLeDiff, Nat.reduceEqDiff, Nat.reduceAdd, Nat.reduceMul, Bool.true_eq_false, Bool.false_eq_true, Nat.add_sub_cancel, Nat.not_lt_zero, Nat.zero_le, k_sub, k_sb1, k_r, k_n, k_ret, k_t1, k_t0, k_nr, k_nn, k_z0, k_z1, k_zb, x_okI, lit_nI, k_in, k_cl, k_lt, k_le, k_eq, k_neg, nI_add, nI_mul, k_clt, k_cgt, k_cle, k_cge, k_ceq, bI_0, k_sh8, ne_eq, Nat.add_eq_zero_iff, Nat.one_ne_zero, Nat.succ_ne_zero, and_false, false_and, not_false_eq_true, not_true_eq_false, ite_true, ite_false, if_true, if_false, k_rS, hi_32, c2, e1]
theorem c_nlz_0 (d : Nat) (h : xH) : xm (d + 2) 99 [.long 0] h = some (some (.int (nI 64)), h) := by
  have e2 := c_nlz32 d h (u := 0) (by omega)
  rw [if_pos rfl] at e2
  rw [E_99]
  simp (disch := omega) only [q_99_0, q_99_1, q_99_3, q_99_4, q_99_5, q_99_6, q_99_7, q_99_10, q_99_12, q_99_13, q_99_14, q_99_17, q_99_18, q_99_21, q_99_22, q_99_25, o_is, o_ob, ↓reduceIte, k_cr, k_ci, k_oR, k_oN, k_aR, k_aN, and_true, true_and, and_self, eq_self, Nat.reduceLT, Nat.reduceLeDiff, Nat.reduceEqDiff, Nat.reduceAdd, Nat.reduceMul, Bool.true_eq_false, Bool.false_eq_true, Nat.add_sub_cancel, Nat.not_lt_zero, Nat.zero_le, k_sub, k_sb1, k_r, k_n, k_ret, k_t1, k_t0, k_nr, k_nn, k_z0, k_z1, k_zb, x_okI, lit_nI, k_in, k_cl, k_lt, k_le, k_eq, k_neg, nI_add, nI_mul, k_clt, k_cgt, k_cle, k_cge, k_ceq, bI_0, k_sh8, ne_eq, Nat.add_eq_zero_iff, Nat.one_ne_zero, Nat.succ_ne_zero, and_false, false_and, not_false_eq_true, not_true_eq_false, ite_true, ite_false, if_true, if_false, k_rS, hi_32, k_32 0, show un 0 = 0 from rfl, Nat.zero_div, Nat.zero_mod, e2]
theorem tz_k {k : Nat} (hk : k < 32) : ((2 ^ k - 1 ≤ 4) = (k ≤ 2)) ∧ ((2 ^ k - 1 ≤ 16) = (k ≤ 4)) ∧ ((2 ^ k - 1 ≤ 256) = (k ≤ 8)) ∧ ((2 ^ k - 1 ≤ 65536) = (k ≤ 16)) ∧ 2 ^ k - 1 < 2147483648 := by
  have : ∀ q : Fin 32, ((2 ^ q.val - 1 ≤ 4) ↔ (q.val ≤ 2)) ∧ ((2 ^ q.val - 1 ≤ 16) ↔ (q.val ≤ 4)) ∧ ((2 ^ q.val - 1 ≤ 256) ↔ (q.val ≤ 8)) ∧ ((2 ^ q.val - 1 ≤ 65536) ↔ (q.val ≤ 16)) ∧ 2 ^ q.val - 1 < 2147483648 := by decide +kernel
  obtain ⟨a, b, c, e, f⟩ := this ⟨k, hk⟩
  exact ⟨propext a, propext b, propext c, propext e, f⟩
theorem tz_sh {k j : Nat} (h : j ≤ k) : (2 ^ k - 1) / 2 ^ j = 2 ^ (k - j) - 1 := by
  have hp := Nat.two_pow_pos j
  have h2 : 2 ^ k = 2 ^ j * 2 ^ (k - j) := by
    rw [← Nat.pow_add]
    congr 1
    omega
  have h3 := Nat.two_pow_pos (k - j)
  rw [Nat.div_eq_iff hp, h2, Nat.sub_mul, Nat.mul_comm (2 ^ j), Nat.one_mul]
  have : 2 ^ j ≤ 2 ^ (k - j) * 2 ^ j := Nat.le_mul_of_pos_left _ h3
  constructor <;> omega
theorem y_74 (d : Nat) (h : xH) {t k n : Nat} (ht : t = 2 ^ k - 1) (h1 : 1 ≤ k) (h2 : k ≤ 2) (hn : n < 100) : xrun d 102 74 [(1, .int (nI t)), (1, .int (nI n))] [] h = some (some (.int (nI (n + (k - 1)))), h) := by
  have hs : t / 2 ^ 1 = k - 1 := by
    rw [ht, tz_sh h1]
    have : k = 1 ∨ k = 2 := by omega
    rcases this with rfl | rfl <;> rfl
  have hf := (tz_k (k := k) (by omega)).2.2.2.2
  rw [← ht] at hf
  simp (disch := omega) only [q_102_74, q_102_75, q_102_76, q_102_77, q_102_78, q_102_79, o_is, o_ob, ↓reduceIte, k_cr, k_ci, k_oR, k_oN, k_aR, k_aN, and_true, true_and, and_self, eq_self, Nat.reduceLT, Nat.reduceLeDiff, Nat.reduceEqDiff, Nat.reduceAdd, Nat.reduceMul, Bool.true_eq_false, Bool.false_eq_true, Nat.add_sub_cancel, Nat.not_lt_zero, Nat.zero_le, k_sub, k_sb1, k_r, k_n, k_ret, k_t1, k_t0, k_nr, k_nn, k_z0, k_z1, k_zb, x_okI, lit_nI, k_in, k_cl, k_lt, k_le, k_eq, k_neg, nI_add, nI_mul, k_clt, k_cgt, k_cle, k_cge, k_ceq, bI_0, k_sh8, ne_eq, Nat.add_eq_zero_iff, Nat.one_ne_zero, Nat.succ_ne_zero, and_false, false_and, not_false_eq_true, not_true_eq_false, ite_true, ite_false, if_true, if_false, k_iS, hs]
theorem y_62 (d : Nat) (h : xH) {t k n : Nat} (ht : t = 2 ^ k - 1) (h1 : 1 ≤ k) (h2 : k ≤ 4) (hn : n < 90) : xrun d 102 62 [(1, .int (nI t)), (1, .int (nI n))] [] h = some (some (.int (nI (n + (k - 1)))), h) := by
  obtain ⟨f1, _, _, _, hf⟩ := tz_k (k := k) (by omega)
  rw [← ht] at f1 hf
  by_cases c : k ≤ 2
  · have e := y_74 d h (n := n) ht h1 c (by omega)
    have c1 : t ≤ 4 := by
      rw [f1]
      exact c
    simp (disch := omega) only [q_102_62, q_102_63, q_102_64, ↓reduceIte, k_cr, k_ci, k_oR, k_oN, k_aR, k_aN, and_true, true_and, and_self, eq_self, Nat.reduceLT, Nat.reduceLeDiff, Nat.reduceEqDiff, Nat.reduceAdd, Nat.reduceMul, Bool.true_eq_false, Bool.false_eq_true, Nat.add_sub_cancel, Nat.not_lt_zero, Nat.zero_le, k_sub, k_sb1, k_r, k_n, k_ret, k_t1, k_t0, k_nr, k_nn, k_z0, k_z1, k_zb, x_okI, lit_nI, k_in, k_cl, k_lt, k_le, k_eq, k_neg, nI_add, nI_mul, k_clt, k_cgt, k_cle, k_cge, k_ceq, bI_0, k_sh8, ne_eq, Nat.add_eq_zero_iff, Nat.one_ne_zero, Nat.succ_ne_zero, and_false, false_and, not_false_eq_true, not_true_eq_false, ite_true, ite_false, if_true, if_false, c1]
    exact e
  · have c1 : ¬ t ≤ 4 := by
      rw [f1]
      exact c
    have hs : t / 2 ^ 2 = 2 ^ (k - 2) - 1 := by
      rw [ht, tz_sh (by omega)]
    have e := y_74 d h (n := n + 2) hs (by omega) (by omega) (by omega)
    rw [show n + 2 + (k - 2 - 1) = n + (k - 1) by omega] at e
    simp (disch := omega) only [q_102_62, q_102_63, q_102_64, q_102_67, q_102_70, q_102_71, q_102_72, q_102_73, ↓reduceIte, k_cr, k_ci, k_oR, k_oN, k_aR, k_aN, and_true, true_and, and_self, eq_self, Nat.reduceLT, Nat.reduceLeDiff, Nat.reduceEqDiff, Nat.reduceAdd, Nat.reduceMul, Bool.true_eq_false, Bool.false_eq_true, Nat.add_sub_cancel, Nat.not_lt_zero, Nat.zero_le, k_sub, k_sb1, k_r, k_n, k_ret, k_t1, k_t0, k_nr, k_nn, k_z0, k_z1, k_zb, x_okI, lit_nI, k_in, k_cl, k_lt, k_le, k_eq, k_neg, nI_add, nI_mul, k_clt, k_cgt, k_cle, k_cge, k_ceq, bI_0, k_sh8, ne_eq, Nat.add_eq_zero_iff, Nat.one_ne_zero, Nat.succ_ne_zero, and_false, false_and, not_false_eq_true, not_true_eq_false, ite_true, ite_false, if_true, if_false, c1, k_iS]
    exact e
theorem y_49 (d : Nat) (h : xH) {t k n : Nat} (ht : t = 2 ^ k - 1) (h1 : 1 ≤ k) (h2 : k ≤ 8) (hn : n < 80) : xrun d 102 49 [(1, .int (nI t)), (1, .int (nI n))] [] h = some (some (.int (nI (n + (k - 1)))), h) := by
  obtain ⟨_, f1, _, _, hf⟩ := tz_k (k := k) (by omega)
  rw [← ht] at f1 hf
  by_cases c : k ≤ 4
  · have e := y_62 d h (n := n) ht h1 c (by omega)
    have c1 : t ≤ 16 := by
      rw [f1]
      exact c
    simp (disch := omega) only [q_102_49, q_102_50, q_102_52, ↓reduceIte, k_cr, k_ci, k_oR, k_oN, k_aR, k_aN, and_true, true_and, and_self, eq_self, Nat.reduceLT, Nat.reduceLeDiff, Nat.reduceEqDiff, Nat.reduceAdd, Nat.reduceMul, Bool.true_eq_false, Bool.false_eq_true, Nat.add_sub_cancel, Nat.not_lt_zero, Nat.zero_le, k_sub, k_sb1, k_r, k_n, k_ret, k_t1, k_t0, k_nr, k_nn, k_z0, k_z1, k_zb, x_okI, lit_nI, k_in, k_cl, k_lt, k_le, k_eq, k_neg, nI_add, nI_mul, k_clt, k_cgt, k_cle, k_cge, k_ceq, bI_0, k_sh8, ne_eq, Nat.add_eq_zero_iff, Nat.one_ne_zero, Nat.succ_ne_zero, and_false, false_and, not_false_eq_true, not_true_eq_false, ite_true, ite_false, if_true, if_false, c1]
    exact e
  · have c1 : ¬ t ≤ 16 := by
      rw [f1]
      exact c
    have hs : t / 2 ^ 4 = 2 ^ (k - 4) - 1 := by
      rw [ht, tz_sh (by omega)]
    have e := y_62 d h (n := n + 4) hs (by omega) (by omega) (by omega)
    rw [show n + 4 + (k - 4 - 1) = n + (k - 1) by omega] at e
    simp (disch := omega) only [q_102_49, q_102_50, q_102_52, q_102_55, q_102_58, q_102_59, q_102_60, q_102_61, ↓reduceIte, k_cr, k_ci, k_oR, k_oN, k_aR, k_aN, and_true, true_and, and_self, eq_self, Nat.reduceLT, Nat.reduceLeDiff, Nat.reduceEqDiff, Nat.reduceAdd, Nat.reduceMul, Bool.true_eq_false, Bool.false_eq_true, Nat.add_sub_cancel, Nat.not_lt_zero, Nat.zero_le, k_sub, k_sb1, k_r, k_n, k_ret, k_t1, k_t0, k_nr, k_nn, k_z0, k_z1, k_zb, x_okI, lit_nI, k_in, k_cl, k_lt, k_le, k_eq, k_neg, nI_add, nI_mul, k_clt, k_cgt, k_cle, k_cge, k_ceq, bI_0, k_sh8, ne_eq, Nat.add_eq_zero_iff, Nat.one_ne_zero, Nat.succ_ne_zero, and_false, false_and, not_false_eq_true, not_true_eq_false, ite_true, ite_false, if_true, if_false, c1, k_iS]
    exact e
theorem y_34 (d : Nat) (h : xH) {t k n : Nat} (ht : t = 2 ^ k - 1) (h1 : 1 ≤ k) (h2 : k ≤ 16) (hn : n < 70) : xrun d 102 34 [(1, .int (nI t)), (1, .int (nI n))] [] h = some (some (.int (nI (n + (k - 1)))), h) := by
  obtain ⟨_, _, f1, _, hf⟩ := tz_k (k := k) (by omega)
  rw [← ht] at f1 hf
  by_cases c : k ≤ 8
  · have e := y_49 d h (n := n) ht h1 c (by omega)
    have c1 : t ≤ 256 := by
      rw [f1]
      exact c
    simp (disch := omega) only [q_102_34, q_102_35, q_102_38, ↓reduceIte, k_cr, k_ci, k_oR, k_oN, k_aR, k_aN, and_true, true_and, and_self, eq_self, Nat.reduceLT, Nat.reduceLeDiff, Nat.reduceEqDiff, Nat.reduceAdd, Nat.reduceMul, Bool.true_eq_false, Bool.false_eq_true, Nat.add_sub_cancel, Nat.not_lt_zero, Nat.zero_le, k_sub, k_sb1, k_r, k_n, k_ret, k_t1, k_t0, k_nr, k_nn, k_z0, k_z1, k_zb, x_okI, lit_nI, k_in, k_cl, k_lt, k_le, k_eq, k_neg, nI_add, nI_mul, k_clt, k_cgt, k_cle, k_cge, k_ceq, bI_0, k_sh8, ne_eq, Nat.add_eq_zero_iff, Nat.one_ne_zero, Nat.succ_ne_zero, and_false, false_and, not_false_eq_true, not_true_eq_false, ite_true, ite_false, if_true, if_false, c1]
    exact e
  · have c1 : ¬ t ≤ 256 := by
      rw [f1]
      exact c
    have hs : t / 2 ^ 8 = 2 ^ (k - 8) - 1 := by
      rw [ht, tz_sh (by omega)]
    have e := y_49 d h (n := n + 8) hs (by omega) (by omega) (by omega)
    rw [show n + 8 + (k - 8 - 1) = n + (k - 1) by omega] at e
    simp (disch := omega) only [q_102_34, q_102_35, q_102_38, q_102_41, q_102_44, q_102_45, q_102_47, q_102_48, ↓reduceIte, k_cr, k_ci, k_oR, k_oN, k_aR, k_aN, and_true, true_and, and_self, eq_self, Nat.reduceLT, Nat.reduceLeDiff, Nat.reduceEqDiff, Nat.reduceAdd, Nat.reduceMul, Bool.true_eq_false, Bool.false_eq_true, Nat.add_sub_cancel, Nat.not_lt_zero, Nat.zero_le, k_sub, k_sb1, k_r, k_n, k_ret, k_t1, k_t0, k_nr, k_nn, k_z0, k_z1, k_zb, x_okI, lit_nI, k_in, k_cl, k_lt, k_le, k_eq, k_neg, nI_add, nI_mul, k_clt, k_cgt, k_cle, k_cge, k_ceq, bI_0, k_sh8, ne_eq, Nat.add_eq_zero_iff, Nat.one_ne_zero, Nat.succ_ne_zero, and_false, false_and, not_false_eq_true, not_true_eq_false, ite_true, ite_false, if_true, if_false, c1, k_iS]
    exact e
theorem c_ntz32 (d : Nat) (h : xH) {u k q : Nat} (hu : u < 4294967296) (he : u = 2 ^ k * (2 * q + 1)) : xm (d + 1) 102 [.int (nI u)] h = some (some (.int (nI k)), h) := by
  have hk : k < 32 := by
    have a := tz_lg he
    have b := lg_lt (n := u) (k := 32) hu (by decide)
    omega
  obtain ⟨_, _, _, f1, hf⟩ := tz_k hk
  have hu1 : 1 ≤ u := by
    have := Nat.two_pow_pos k
    rw [he]
    exact Nat.mul_pos this (by omega)
  have et := tz_int he hu
  rw [k_sub hu1] at et
  rw [E_102]
  by_cases h0 : k = 0
  · subst h0
    rw [show 2 ^ 0 - 1 = 0 from rfl] at et
    simp (disch := omega) only [q_102_0, q_102_1, q_102_2, q_102_3, q_102_4, q_102_5, q_102_6, q_102_7, q_102_8, q_102_9, q_102_12, q_102_13, q_102_15, q_102_16, o_is, o_ob, ↓reduceIte, k_cr, k_ci, k_oR, k_oN, k_aR, k_aN, and_true, true_and, and_self, eq_self, Nat.reduceLT, Nat.reduceLeDiff, Nat.reduceEqDiff, Nat.reduceAdd, Nat.reduceMul, Bool.true_eq_false, Bool.false_eq_true, Nat.add_sub_cancel, Nat.not_lt_zero, Nat.zero_le, k_sub, k_sb1, k_r, k_n, k_ret, k_t1, k_t0, k_nr, k_nn, k_z0, k_z1, k_zb, x_okI, lit_nI, k_in, k_cl, k_lt, k_le, k_eq, k_neg, nI_add, nI_mul, k_clt, k_cgt, k_cle, k_cge, k_ceq, bI_0, k_sh8, ne_eq, Nat.add_eq_zero_iff, Nat.one_ne_zero, Nat.succ_ne_zero, and_false, false_and, not_false_eq_true, not_true_eq_false, ite_true, ite_false, if_true, if_false, et, show nI 0 &&& nI 32 = nI 0 from by decide]
  · have hp : 0 < 2 ^ k - 1 := by
      have : 2 ^ 1 ≤ 2 ^ k := Nat.pow_le_pow_right (by decide) (by omega)
      omega
    generalize ht : 2 ^ k - 1 = t at *
    by_cases c : k ≤ 16
    · have e := y_34 d h (n := 1) ht.symm (by omega) c (by omega)
      have c1 : t ≤ 65536 := by
        rw [f1]
        exact c
      rw [show 1 + (k - 1) = k by omega] at e
      simp (disch := omega) only [q_102_0, q_102_1, q_102_2, q_102_3, q_102_4, q_102_5, q_102_6, q_102_7, q_102_8, q_102_9, q_102_12, q_102_13, q_102_15, q_102_16, q_102_17, q_102_18, q_102_19, q_102_20, q_102_23, q_102_26, q_102_29, q_102_30, q_102_32, q_102_33, o_is, o_ob, ↓reduceIte, k_cr, k_ci, k_oR, k_oN, k_aR, k_aN, and_true, true_and, and_self, eq_self, Nat.reduceLT, Nat.reduceLeDiff, Nat.reduceEqDiff, Nat.reduceAdd, Nat.reduceMul, Bool.true_eq_false, Bool.false_eq_true, Nat.add_sub_cancel, Nat.not_lt_zero, Nat.zero_le, k_sub, k_sb1, k_r, k_n, k_ret, k_t1, k_t0, k_nr, k_nn, k_z0, k_z1, k_zb, x_okI, lit_nI, k_in, k_cl, k_lt, k_le, k_eq, k_neg, nI_add, nI_mul, k_clt, k_cgt, k_cle, k_cge, k_ceq, bI_0, k_sh8, ne_eq, Nat.add_eq_zero_iff, Nat.one_ne_zero, Nat.succ_ne_zero, and_false, false_and, not_false_eq_true, not_true_eq_false, ite_true, ite_false, if_true, if_false, et, hp, c1]
      exact e
    · have c1 : ¬ t ≤ 65536 := by
        rw [f1]
        exact c
      have hs : t / 2 ^ 16 = 2 ^ (k - 16) - 1 := by
        rw [← ht, tz_sh (by omega)]
      have e := y_34 d h (n := 1 + 16) hs (by omega) (by omega) (by omega)
      rw [show 1 + 16 + (k - 16 - 1) = k by omega] at e
      simp (disch := omega) only [q_102_0, q_102_1, q_102_2, q_102_3, q_102_4, q_102_5, q_102_6, q_102_7, q_102_8, q_102_9, q_102_12, q_102_13, q_102_15, q_102_16, q_102_17, q_102_18, q_102_19, q_102_20, q_102_23, q_102_26, q_102_29, q_102_30, q_102_32, q_102_33, o_is, o_ob, ↓reduceIte, k_cr, k_ci, k_oR, k_oN, k_aR, k_aN, and_true, true_and, and_self, eq_self, Nat.reduceLT, Nat.reduceLeDiff, Nat.reduceEqDiff, Nat.reduceAdd, Nat.reduceMul, Bool.true_eq_false, Bool.false_eq_true, Nat.add_sub_cancel, Nat.not_lt_zero, Nat.zero_le, k_sub, k_sb1, k_r, k_n, k_ret, k_t1, k_t0, k_nr, k_nn, k_z0, k_z1, k_zb, x_okI, lit_nI, k_in, k_cl, k_lt, k_le, k_eq, k_neg, nI_add, nI_mul, k_clt, k_cgt, k_cle, k_cge, k_ceq, bI_0, k_sh8, ne_eq, Nat.add_eq_zero_iff, Nat.one_ne_zero, Nat.succ_ne_zero, and_false, false_and, not_false_eq_true, not_true_eq_false, ite_true, ite_false, if_true, if_false, et, hp, c1, k_iS]
      exact e
theorem c_ntz32_0 (d : Nat) (h : xH) : xm (d + 1) 102 [.int (nI 0)] h = some (some (.int (nI 32)), h) := by
  have et : (nI 0 ^^^ -nI 1) &&& (nI 0 - nI 1) = -nI 1 := by decide
  rw [E_102]
  simp (disch := omega) only [q_102_0, q_102_1, q_102_2, q_102_3, q_102_4, q_102_5, q_102_6, q_102_7, q_102_8, q_102_9, q_102_12, q_102_13, q_102_15, q_102_16, o_is, o_ob, ↓reduceIte, k_cr, k_ci, k_oR, k_oN, k_aR, k_aN, and_true, true_and, and_self, eq_self, Nat.reduceLT, Nat.reduceLeDiff, Nat.reduceEqDiff, Nat.reduceAdd, Nat.reduceMul, Bool.true_eq_false, Bool.false_eq_true, Nat.add_sub_cancel, Nat.not_lt_zero, Nat.zero_le, k_sub, k_sb1, k_r, k_n, k_ret, k_t1, k_t0, k_nr, k_nn, k_z0, k_z1, k_zb, x_okI, lit_nI, k_in, k_cl, k_lt, k_le, k_eq, k_neg, nI_add, nI_mul, k_clt, k_cgt, k_cle, k_cge, k_ceq, bI_0, k_sh8, ne_eq, Nat.add_eq_zero_iff, Nat.one_ne_zero, Nat.succ_ne_zero, and_false, false_and, not_false_eq_true, not_true_eq_false, ite_true, ite_false, if_true, if_false, et, show (nI 0 < -nI 1) = False from by decide, show -nI 1 &&& nI 32 = nI 32 from by decide]
theorem c_ntz (d : Nat) (h : xH) {x : Int64} {k q : Nat} (he : un x = 2 ^ k * (2 * q + 1)) : xm (d + 2) 101 [.long x] h = some (some (.int (nI k)), h) := by
  have hu := un_lt x
  rw [E_101]
  have hm := tz_mod (j := 32) he
  rw [show 2 ^ 32 = 4294967296 from rfl] at hm
  by_cases c : 32 ≤ k
  · have c0 : un x % 4294967296 = 0 := hm.mpr c
    have hd : un x / 4294967296 = 2 ^ (k - 32) * (2 * q + 1) := by
      rw [he, show 2 ^ k = 4294967296 * 2 ^ (k - 32) by
        rw [show 4294967296 = 2 ^ 32 from rfl, ← Nat.pow_add]
        congr 1
        omega, Nat.mul_assoc, Nat.mul_div_cancel_left _ (by decide)]
    have e := c_ntz32 d h (u := un x / 4294967296) (by omega) hd
    rw [show nI k = nI (32 + (k - 32)) by rw [show 32 + (k - 32) = k by omega]]
    simp (disch := omega) only [q_101_0, q_101_1, q_101_2, q_101_3, q_101_4, q_101_7, q_101_9, q_101_10, q_101_12, q_101_13, q_101_14, q_101_17, q_101_18, q_101_21, q_101_22, q_101_25, o_is, o_ob, ↓reduceIte, k_cr, k_ci, k_oR, k_oN, k_aR, k_aN, and_true, true_and, and_self, eq_self, Nat.reduceLT, Nat.reduceLeDiff, Nat.reduceEqDiff, Nat.reduceAdd, Nat.reduceMul, Bool.true_eq_false, Bool.false_eq_true, Nat.add_sub_cancel, Nat.not_lt_zero, Nat.zero_le, k_sub, k_sb1, k_r, k_n, k_ret, k_t1, k_t0, k_nr, k_nn, k_z0, k_z1, k_zb, x_okI, lit_nI, k_in, k_cl, k_lt, k_le, k_eq, k_neg, nI_add, nI_mul, k_clt, k_cgt, k_cle, k_cge, k_ceq, bI_0, k_sh8, ne_eq, Nat.add_eq_zero_iff, Nat.one_ne_zero, Nat.succ_ne_zero, and_false, false_and, not_false_eq_true, not_true_eq_false, ite_true, ite_false, if_true, if_false, k_rS, hi_32, k_32 x, c0, e]
  · have c0 : ¬ un x % 4294967296 = 0 := fun z => c (hm.mp z)
    have hd : un x % 4294967296 = 2 ^ k * ((2 * q + 1) % 2 ^ (32 - k)) := by
      rw [he, show 4294967296 = 2 ^ k * 2 ^ (32 - k) by
        rw [show 4294967296 = 2 ^ 32 from rfl, ← Nat.pow_add]
        congr 1
        omega, Nat.mul_mod_mul_left]
    have ho : (2 * q + 1) % 2 ^ (32 - k) = 2 * ((2 * q + 1) % 2 ^ (32 - k) / 2) + 1 := by
      have h2 : 2 ∣ 2 ^ (32 - k) := by
        have := Nat.pow_dvd_pow 2 (show 1 ≤ 32 - k by omega)
        exact this
      have h3 := Nat.mod_mod_of_dvd (2 * q + 1) h2
      omega
    rw [ho] at hd
    have e := c_ntz32 d h (u := un x % 4294967296) (by omega) hd
    have c2 : ¬ nI (un x % 4294967296) = nI 0 := by
      intro q
      have := congrArg vn q
      rw [vn_nI, vn_nI] at this
      omega
    simp (disch := omega) only [q_101_0, q_101_1, q_101_2, q_101_3, q_101_4, q_101_7, q_101_9, q_101_10, q_101_12, q_101_13, q_101_14, q_101_17, q_101_18, q_101_21, q_101_22, q_101_25, o_is, o_ob, ↓reduceIte, k_cr, k_ci, k_oR, k_oN, k_aR, k_aN, and_true, true_and, and_self, eq_self, Nat.reduceLT, Nat.reduceLeDiff, Nat.reduceEqDiff, Nat.reduceAdd, Nat.reduceMul, Bool.true_eq_false, Bool.false_eq_true, Nat.add_sub_cancel, Nat.not_lt_zero, Nat.zero_le, k_sub, k_sb1, k_r, k_n, k_ret, k_t1, k_t0, k_nr, k_nn, k_z0, k_z1, k_zb, x_okI, lit_nI, k_in, k_cl, k_lt, k_le, k_eq, k_neg, nI_add, nI_mul, k_clt, k_cgt, k_cle, k_cge, k_ceq, bI_0, k_sh8, ne_eq, Nat.add_eq_zero_iff, Nat.one_ne_zero, Nat.succ_ne_zero, and_false, false_and, not_false_eq_true, not_true_eq_false, ite_true, ite_false, if_true, if_false, k_32 x, c2, e]
theorem c_ntz_0 (d : Nat) (h : xH) : xm (d + 2) 101 [.long 0] h = some (some (.int (nI 64)), h) := by
  have e2 := c_ntz32_0 d h
  rw [E_101]
  simp (disch := omega) only [q_101_0, q_101_1, q_101_2, q_101_3, q_101_4, q_101_7, q_101_9, q_101_10, q_101_12, q_101_13, q_101_14, q_101_17, q_101_18, q_101_21, q_101_22, q_101_25, o_is, o_ob, ↓reduceIte, k_cr, k_ci, k_oR, k_oN, k_aR, k_aN, and_true, true_and, and_self, eq_self, Nat.reduceLT, Nat.reduceLeDiff, Nat.reduceEqDiff, Nat.reduceAdd, Nat.reduceMul, Bool.true_eq_false, Bool.false_eq_true, Nat.add_sub_cancel, Nat.not_lt_zero, Nat.zero_le, k_sub, k_sb1, k_r, k_n, k_ret, k_t1, k_t0, k_nr, k_nn, k_z0, k_z1, k_zb, x_okI, lit_nI, k_in, k_cl, k_lt, k_le, k_eq, k_neg, nI_add, nI_mul, k_clt, k_cgt, k_cle, k_cge, k_ceq, bI_0, k_sh8, ne_eq, Nat.add_eq_zero_iff, Nat.one_ne_zero, Nat.succ_ne_zero, and_false, false_and, not_false_eq_true, not_true_eq_false, ite_true, ite_false, if_true, if_false, k_rS, hi_32, k_32 0, show un 0 = 0 from rfl, Nat.zero_div, Nat.zero_mod, e2]
