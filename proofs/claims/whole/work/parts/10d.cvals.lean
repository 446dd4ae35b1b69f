/-! The class: what VALUES hold. -/
/-- a VALUE's Kind: at κ, n members -/
def vkOK (h : xH) (SV : Nat → gS) (κ : Nat → Nat) (SK : Nat → gS) (nM : Nat → Nat) (n : Nat) : Prop := ∀ i, i < n → sR (SV i) 5 = .ref (κ i) ∧ isB 1 h (κ i) (SK i) ∧ kOK (SK i) (nM i)
theorem nlt_inR {x : Int32} {n : Nat} (hn : n < 2147483648) (h : inR x 0 (nI n - nI 1).toInt64 = false) : x < nI 0 ∨ ∃ i, i < 2147483648 ∧ n ≤ i ∧ x = nI i := by
  by_cases h0 : x < nI 0
  · exact Or.inl h0
  · obtain ⟨i, hi, rfl⟩ := nI_of h0
    refine Or.inr ⟨i, by omega, ?_, rfl⟩
    rcases Nat.lt_or_ge i n with q | q
    · rw [(inR_pred hn).mpr ⟨i, q, rfl⟩] at h
      cases h
    · exact q
theorem c_has_n (d : Nat) (h : xH) (a : Nat) (x : Int32) (S : gS) (H : isB 1 h a S) (hx : x < nI 0) : xm (d + 1) 31 [.ref a, .int x] h = some (some (.int (bI false)), h) := by
  rw [E_31 _ _ _ _ rfl]
  simp (disch := omega) only [q_31_0, q_31_1, q_31_4, q_31_5, q_31_6, q_31_9, q_31_12, q_31_13, q_31_16, q_31_17, hg_1_4 H, h_is H, h_ob H, ofs_len1, k_cr, k_ci, k_oR, k_oN, k_aR, k_aN, and_true, true_and, and_self, eq_self, Nat.reduceLT, Nat.reduceLeDiff, Nat.reduceEqDiff, Nat.reduceAdd, Nat.reduceMul, Bool.true_eq_false, Bool.false_eq_true, Nat.add_sub_cancel, Nat.not_lt_zero, Nat.zero_le, k_sub, k_sb1, k_r, k_n, k_ret, k_t1, k_t0, k_nr, k_nn, k_z0, k_z1, k_zb, x_okI, lit_nI, k_in, k_cl, k_lt, k_le, k_eq, k_neg, nI_add, nI_mul, k_clt, k_cgt, k_cle, k_cge, k_ceq, bI_0, k_sh8, ne_eq, Nat.add_eq_zero_iff, Nat.one_ne_zero, Nat.succ_ne_zero, and_false, false_and, not_false_eq_true, not_true_eq_false, ite_true, ite_false, if_true, if_false, hx]
  rfl
theorem c_isRow_n (d : Nat) (h : xH) (a : Nat) (x : Int32) (S : gS) (H : isB 1 h a S) (hx : x < nI 0) : xm (d + 1) 29 [.ref a, .int x] h = some (some (.int (bI false)), h) := by
  rw [E_29 _ _ _ _ rfl]
  simp (disch := omega) only [q_29_0, q_29_1, q_29_4, q_29_5, q_29_6, q_29_9, q_29_12, q_29_13, q_29_16, q_29_17, q_29_18, q_29_21, q_29_22, q_29_25, q_29_26, hg_1_4 H, hg_1_3 H, hr_1_3 H, hw_1_3 H, h_is H, h_ob H, ofs_len1, k_cr, k_ci, k_oR, k_oN, k_aR, k_aN, and_true, true_and, and_self, eq_self, Nat.reduceLT, Nat.reduceLeDiff, Nat.reduceEqDiff, Nat.reduceAdd, Nat.reduceMul, Bool.true_eq_false, Bool.false_eq_true, Nat.add_sub_cancel, Nat.not_lt_zero, Nat.zero_le, k_sub, k_sb1, k_r, k_n, k_ret, k_t1, k_t0, k_nr, k_nn, k_z0, k_z1, k_zb, x_okI, lit_nI, k_in, k_cl, k_lt, k_le, k_eq, k_neg, nI_add, nI_mul, k_clt, k_cgt, k_cle, k_cge, k_ceq, bI_0, k_sh8, ne_eq, Nat.add_eq_zero_iff, Nat.one_ne_zero, Nat.succ_ne_zero, and_false, false_and, not_false_eq_true, not_true_eq_false, ite_true, ite_false, if_true, if_false, hx]
  rfl
/-- has(x) of a Kind of n members -/
theorem c_hasR (d : Nat) (h : xH) (a n : Nat) (x : Int32) (S : gS) (H : isB 1 h a S) (hk : kOK S n) : xm (d + 1) 31 [.ref a, .int x] h = some (some (.int (bI (inR x 0 (nI n - nI 1).toInt64))), h) := by
  have h8 := hk.2.1
  cases hx : inR x 0 (nI n - nI 1).toInt64 with
  | true =>
    obtain ⟨i, hi, rfl⟩ := (inR_pred (by omega)).mp hx
    rw [c_has d h a n i S H hk (by omega), decide_eq_true hi]
  | false =>
    rcases nlt_inR (by omega) hx with h0 | ⟨i, hi, hin, rfl⟩
    · exact c_has_n d h a x S H h0
    · rw [c_has d h a n i S H hk hi, decide_eq_false (by omega)]
/-- isRow(x) of a Kind of n members -/
theorem c_isRowR (d : Nat) (h : xH) (a n : Nat) (x : Int32) (S : gS) (H : isB 1 h a S) (hk : kOK S n) : xm (d + 1) 29 [.ref a, .int x] h = some (some (.int (bI (inR x 0 (nI n - nI 1).toInt64 && kRow S x.toNatClampNeg))), h) := by
  have h8 := hk.2.1
  cases hx : inR x 0 (nI n - nI 1).toInt64 with
  | true =>
    obtain ⟨i, hi, rfl⟩ := (inR_pred (by omega)).mp hx
    rw [c_isRow d h a n i S H hk (by omega), decide_eq_true hi, k_cl (by omega)]
  | false =>
    rcases nlt_inR (by omega) hx with h0 | ⟨i, hi, hin, rfl⟩
    · exact c_isRow_n d h a x S H h0
    · rw [c_isRow d h a n i S H hk hi, decide_eq_false (by omega)]
      rfl
theorem c_many (d : Nat) (h : xH) (X σ n : Nat) (SX SS : gS) (ν κ nM : Nat → Nat) (SV SK : Nat → gS) (w : Int64) (x : Int32) (H : isB 8 h X SX) (hs : sR SX 5 = .ref σ) (HS : isB 7 h σ SS) (hk : stOK h SS n ν SV) (hv : vkOK h SV κ SK nM n) : xm (d + 2) 123 [.ref X, .long w, .int x] h = some (some (.int (match fnd (fun i => sJ (SV i) 2) w n with | none => -nI 2 | some v => if inR x 0 (nI (nM v) - nI 1).toInt64 = true then sA (SV v) 0 x.toNatClampNeg else -nI 2)), h) := by
  rw [E_123 _ _ _ _ _ rfl]
  have e1 := c_sfind d h σ n SS ν SV w HS hk
  cases hf : fnd (fun i => sJ (SV i) 2) w n with
  | none =>
    rw [hf] at e1
    simp (disch := omega) only [q_123_0, q_123_1, q_123_4, q_123_5, q_123_8, q_123_10, q_123_12, q_123_15, q_123_17, q_123_20, q_123_21, q_123_24, q_123_27, q_123_29, q_123_32, q_123_34, q_123_35, q_123_38, hg_8_5 H, h_is H, h_ob H, ofs_len8, h_is HS, h_ob HS, ofs_len7, k_cr, k_ci, k_oR, k_oN, k_aR, k_aN, and_true, true_and, and_self, eq_self, Nat.reduceLT, Nat.reduceLeDiff, Nat.reduceEqDiff, Nat.reduceAdd, Nat.reduceMul, Bool.true_eq_false, Bool.false_eq_true, Nat.add_sub_cancel, Nat.not_lt_zero, Nat.zero_le, k_sub, k_sb1, k_r, k_n, k_ret, k_t1, k_t0, k_nr, k_nn, k_z0, k_z1, k_zb, x_okI, lit_nI, k_in, k_cl, k_lt, k_le, k_eq, k_neg, nI_add, nI_mul, k_clt, k_cgt, k_cle, k_cge, k_ceq, bI_0, k_sh8, ne_eq, Nat.add_eq_zero_iff, Nat.one_ne_zero, Nat.succ_ne_zero, and_false, false_and, not_false_eq_true, not_true_eq_false, ite_true, ite_false, if_true, if_false, hs, e1, oV]
  | some v =>
    rw [hf] at e1
    have hlt := (fnd_lt hf).1
    have hV := (hk.2.2 v hlt).2
    obtain ⟨k1, k2, k3⟩ := hv v hlt
    have h8 := k3.2.1
    have e2 := c_hasR d h (κ v) (nM v) x (SK v) k2 k3
    cases hx : inR x 0 (nI (nM v) - nI 1).toInt64 with
    | false =>
      rw [hx] at e2
      simp only [hx, Bool.false_eq_true, if_false]
      simp (disch := omega) only [q_123_0, q_123_1, q_123_4, q_123_5, q_123_8, q_123_10, q_123_12, q_123_15, q_123_17, q_123_20, q_123_21, q_123_24, q_123_27, q_123_29, q_123_32, q_123_34, q_123_35, q_123_38, hg_8_5 H, h_is H, h_ob H, ofs_len8, h_is HS, h_ob HS, ofs_len7, hg_9_5 hV, h_is hV, h_ob hV, ofs_len9, h_is k2, h_ob k2, ofs_len1, k_cr, k_ci, k_oR, k_oN, k_aR, k_aN, and_true, true_and, and_self, eq_self, Nat.reduceLT, Nat.reduceLeDiff, Nat.reduceEqDiff, Nat.reduceAdd, Nat.reduceMul, Bool.true_eq_false, Bool.false_eq_true, Nat.add_sub_cancel, Nat.not_lt_zero, Nat.zero_le, k_sub, k_sb1, k_r, k_n, k_ret, k_t1, k_t0, k_nr, k_nn, k_z0, k_z1, k_zb, x_okI, lit_nI, k_in, k_cl, k_lt, k_le, k_eq, k_neg, nI_add, nI_mul, k_clt, k_cgt, k_cle, k_cge, k_ceq, bI_0, k_sh8, ne_eq, Nat.add_eq_zero_iff, Nat.one_ne_zero, Nat.succ_ne_zero, and_false, false_and, not_false_eq_true, not_true_eq_false, ite_true, ite_false, if_true, if_false, hs, e1, oV, k1, e2]
    | true =>
      rw [hx] at e2
      simp only [hx, if_true]
      obtain ⟨i, hi, rfl⟩ := (inR_pred (by omega)).mp hx
      have e3 := c_countOf d h (ν v) i (SV v) hV (by omega)
      rw [if_pos (by omega)] at e3
      simp (disch := omega) only [q_123_0, q_123_1, q_123_4, q_123_5, q_123_8, q_123_10, q_123_12, q_123_15, q_123_17, q_123_20, q_123_21, q_123_24, q_123_27, q_123_29, q_123_32, q_123_34, q_123_35, q_123_38, hg_8_5 H, h_is H, h_ob H, ofs_len8, h_is HS, h_ob HS, ofs_len7, hg_9_5 hV, h_is hV, h_ob hV, ofs_len9, h_is k2, h_ob k2, ofs_len1, k_cr, k_ci, k_oR, k_oN, k_aR, k_aN, and_true, true_and, and_self, eq_self, Nat.reduceLT, Nat.reduceLeDiff, Nat.reduceEqDiff, Nat.reduceAdd, Nat.reduceMul, Bool.true_eq_false, Bool.false_eq_true, Nat.add_sub_cancel, Nat.not_lt_zero, Nat.zero_le, k_sub, k_sb1, k_r, k_n, k_ret, k_t1, k_t0, k_nr, k_nn, k_z0, k_z1, k_zb, x_okI, lit_nI, k_in, k_cl, k_lt, k_le, k_eq, k_neg, nI_add, nI_mul, k_clt, k_cgt, k_cle, k_cge, k_ceq, bI_0, k_sh8, ne_eq, Nat.add_eq_zero_iff, Nat.one_ne_zero, Nat.succ_ne_zero, and_false, false_and, not_false_eq_true, not_true_eq_false, ite_true, ite_false, if_true, if_false, hs, e1, oV, k1, e2, e3]
theorem c_bits (d : Nat) (h : xH) (X σ n : Nat) (SX SS : gS) (ν κ nM : Nat → Nat) (kN : Nat → Nat → Nat) (SV SK : Nat → gS) (w : Int64) (x y : Int32) (H : isB 8 h X SX) (hs : sR SX 5 = .ref σ) (HS : isB 7 h σ SS) (hk : stOK h SS n ν SV) (hv : vkOK h SV κ SK nM n) (hc : ∀ v m, v < n → m < 8 → sA (SV v) 0 m = nI (kN v m) ∧ kN v m ≤ 8) : xm (d + 2) 124 [.ref X, .long w, .int x, .int y] h = some (some (.long (match fnd (fun i => sJ (SV i) 2) w n with | none => 0 | some v => if inR x 0 (nI (nM v) - nI 1).toInt64 = true then (if inR y 0 (nI (kN v x.toNatClampNeg) - nI 1).toInt64 = true then sL (SV v) 1 (8 * x.toNatClampNeg + y.toNatClampNeg) else 0) else 0)), h) := by
  rw [E_124 _ _ _ _ _ _ rfl]
  have e1 := c_sfind d h σ n SS ν SV w HS hk
  cases hf : fnd (fun i => sJ (SV i) 2) w n with
  | none =>
    rw [hf] at e1
    simp (disch := omega) only [q_124_0, q_124_1, q_124_4, q_124_5, q_124_8, q_124_10, q_124_12, q_124_15, q_124_17, q_124_20, q_124_21, q_124_24, q_124_27, q_124_28, q_124_31, q_124_33, q_124_34, q_124_36, q_124_39, hg_8_5 H, h_is H, h_ob H, ofs_len8, h_is HS, h_ob HS, ofs_len7, k_cr, k_ci, k_oR, k_oN, k_aR, k_aN, and_true, true_and, and_self, eq_self, Nat.reduceLT, Nat.reduceLeDiff, Nat.reduceEqDiff, Nat.reduceAdd, Nat.reduceMul, Bool.true_eq_false, Bool.false_eq_true, Nat.add_sub_cancel, Nat.not_lt_zero, Nat.zero_le, k_sub, k_sb1, k_r, k_n, k_ret, k_t1, k_t0, k_nr, k_nn, k_z0, k_z1, k_zb, x_okI, lit_nI, k_in, k_cl, k_lt, k_le, k_eq, k_neg, nI_add, nI_mul, k_clt, k_cgt, k_cle, k_cge, k_ceq, bI_0, k_sh8, ne_eq, Nat.add_eq_zero_iff, Nat.one_ne_zero, Nat.succ_ne_zero, and_false, false_and, not_false_eq_true, not_true_eq_false, ite_true, ite_false, if_true, if_false, hs, e1, oV]
  | some v =>
    rw [hf] at e1
    have hlt := (fnd_lt hf).1
    have hV := (hk.2.2 v hlt).2
    obtain ⟨k1, k2, k3⟩ := hv v hlt
    have h8 := k3.2.1
    have e2 := c_hasR d h (κ v) (nM v) x (SK v) k2 k3
    cases hx : inR x 0 (nI (nM v) - nI 1).toInt64 with
    | false =>
      rw [hx] at e2
      simp only [hx, Bool.false_eq_true, if_false]
      simp (disch := omega) only [q_124_0, q_124_1, q_124_4, q_124_5, q_124_8, q_124_10, q_124_12, q_124_15, q_124_17, q_124_20, q_124_21, q_124_24, q_124_27, q_124_28, q_124_31, q_124_33, q_124_34, q_124_36, q_124_39, hg_8_5 H, h_is H, h_ob H, ofs_len8, h_is HS, h_ob HS, ofs_len7, hg_9_5 hV, h_is hV, h_ob hV, ofs_len9, h_is k2, h_ob k2, ofs_len1, k_cr, k_ci, k_oR, k_oN, k_aR, k_aN, and_true, true_and, and_self, eq_self, Nat.reduceLT, Nat.reduceLeDiff, Nat.reduceEqDiff, Nat.reduceAdd, Nat.reduceMul, Bool.true_eq_false, Bool.false_eq_true, Nat.add_sub_cancel, Nat.not_lt_zero, Nat.zero_le, k_sub, k_sb1, k_r, k_n, k_ret, k_t1, k_t0, k_nr, k_nn, k_z0, k_z1, k_zb, x_okI, lit_nI, k_in, k_cl, k_lt, k_le, k_eq, k_neg, nI_add, nI_mul, k_clt, k_cgt, k_cle, k_cge, k_ceq, bI_0, k_sh8, ne_eq, Nat.add_eq_zero_iff, Nat.one_ne_zero, Nat.succ_ne_zero, and_false, false_and, not_false_eq_true, not_true_eq_false, ite_true, ite_false, if_true, if_false, hs, e1, oV, k1, e2]
    | true =>
      rw [hx] at e2
      simp only [hx, if_true]
      obtain ⟨i, hi, rfl⟩ := (inR_pred (by omega)).mp hx
      obtain ⟨c1, c2⟩ := hc v i hlt (by omega)
      rw [k_cl (by omega)]
      have e3 : xm (d + 1) 86 [.ref (ν v), .int (nI i), .int y] h = some (some (.long (if inR y 0 (nI (kN v i) - nI 1).toInt64 = true then sL (SV v) 1 (8 * i + y.toNatClampNeg) else 0)), h) := by
        cases hy : inR y 0 (nI (kN v i) - nI 1).toInt64 with
        | true =>
          obtain ⟨j, hj, rfl⟩ := (inR_pred (by omega)).mp hy
          rw [c_bitsAt d h (ν v) i j (kN v i) (SV v) hV (by omega) (by omega) (fun _ => c1) c2, if_pos ⟨by omega, hj⟩, if_pos rfl, k_cl (by omega)]
        | false =>
          rw [if_neg (by decide)]
          rcases nlt_inR (by omega) hy with h0 | ⟨j, hj, hjn, rfl⟩
          · exact c_bitsAt_n d h (ν v) i (kN v i) y (SV v) hV (by omega) h0
          · rw [c_bitsAt d h (ν v) i j (kN v i) (SV v) hV (by omega) hj (fun _ => c1) c2, if_neg (by omega)]
      simp (disch := omega) only [q_124_0, q_124_1, q_124_4, q_124_5, q_124_8, q_124_10, q_124_12, q_124_15, q_124_17, q_124_20, q_124_21, q_124_24, q_124_27, q_124_28, q_124_31, q_124_33, q_124_34, q_124_36, q_124_39, hg_8_5 H, h_is H, h_ob H, ofs_len8, h_is HS, h_ob HS, ofs_len7, hg_9_5 hV, h_is hV, h_ob hV, ofs_len9, h_is k2, h_ob k2, ofs_len1, k_cr, k_ci, k_oR, k_oN, k_aR, k_aN, and_true, true_and, and_self, eq_self, Nat.reduceLT, Nat.reduceLeDiff, Nat.reduceEqDiff, Nat.reduceAdd, Nat.reduceMul, Bool.true_eq_false, Bool.false_eq_true, Nat.add_sub_cancel, Nat.not_lt_zero, Nat.zero_le, k_sub, k_sb1, k_r, k_n, k_ret, k_t1, k_t0, k_nr, k_nn, k_z0, k_z1, k_zb, x_okI, lit_nI, k_in, k_cl, k_lt, k_le, k_eq, k_neg, nI_add, nI_mul, k_clt, k_cgt, k_cle, k_cge, k_ceq, bI_0, k_sh8, ne_eq, Nat.add_eq_zero_iff, Nat.one_ne_zero, Nat.succ_ne_zero, and_false, false_and, not_false_eq_true, not_true_eq_false, ite_true, ite_false, if_true, if_false, hs, e1, oV, k1, e2, e3]
theorem c_set (d : Nat) (h : xH) (X σ n : Nat) (SX SS : gS) (ν κ nM : Nat → Nat) (SV SK : Nat → gS) (w : Int64) (x : Int32) (z : Int64) (tN : Nat → Nat → Nat) (H : isB 8 h X SX) (hs : sR SX 5 = .ref σ) (HS : isB 7 h σ SS) (hk : stOK h SS n ν SV) (hv : vkOK h SV κ SK nM n) (ht : ∀ v m, v < n → m < nM v → sA (SK v) 2 m = nI (tN v m) ∧ tN v m ≤ 7) : xm (d + 2) 30 [.ref X, .long w, .int x, .long z] h = (match fnd (fun i => sJ (SV i) 2) w n with
    | none => some (some (.int (-nI 2)), h)
    | some v => if inR x 0 (nI (nM v) - nI 1).toInt64 = true ∧ kRow (SK v) x.toNatClampNeg = false then (if fitT (sA (SK v) 2 x.toNatClampNeg) z = true then some (some (.int (nI 1)), oh 9 h (ν v) (uL (SV v) 1 (8 * x.toNatClampNeg) z)) else some (some (.int (-nI 1)), h)) else some (some (.int (-nI 2)), h)) := by
  rw [E_30 _ _ _ _ _ _ rfl]
  have e1 := c_sfind d h σ n SS ν SV w HS hk
  cases hf : fnd (fun i => sJ (SV i) 2) w n with
  | none =>
    rw [hf] at e1
    simp (disch := omega) only [q_30_0, q_30_1, q_30_4, q_30_5, q_30_8, q_30_10, q_30_12, q_30_15, q_30_17, q_30_20, q_30_21, q_30_24, q_30_27, q_30_29, q_30_32, q_30_33, q_30_36, q_30_39, q_30_41, q_30_42, q_30_44, q_30_46, q_30_49, q_30_50, q_30_53, q_30_56, q_30_59, q_30_60, q_30_61, q_30_63, q_30_64, q_30_65, q_30_67, q_30_70, q_30_71, hg_8_5 H, h_is H, h_ob H, ofs_len8, h_is HS, h_ob HS, ofs_len7, k_cr, k_ci, k_oR, k_oN, k_aR, k_aN, and_true, true_and, and_self, eq_self, Nat.reduceLT, Nat.reduceLeDiff, Nat.reduceEqDiff, Nat.reduceAdd, Nat.reduceMul, Bool.true_eq_false, Bool.false_eq_true, Nat.add_sub_cancel, Nat.not_lt_zero, Nat.zero_le, k_sub, k_sb1, k_r, k_n, k_ret, k_t1, k_t0, k_nr, k_nn, k_z0, k_z1, k_zb, x_okI, lit_nI, k_in, k_cl, k_lt, k_le, k_eq, k_neg, nI_add, nI_mul, k_clt, k_cgt, k_cle, k_cge, k_ceq, bI_0, k_sh8, ne_eq, Nat.add_eq_zero_iff, Nat.one_ne_zero, Nat.succ_ne_zero, and_false, false_and, not_false_eq_true, not_true_eq_false, ite_true, ite_false, if_true, if_false, hs, e1, oV]
  | some v =>
    rw [hf] at e1
    have hlt := (fnd_lt hf).1
    have hV := (hk.2.2 v hlt).2
    obtain ⟨k1, k2, k3⟩ := hv v hlt
    have h8 := k3.2.1
    have e2 := c_hasR d h (κ v) (nM v) x (SK v) k2 k3
    have e3 := c_isRowR d h (κ v) (nM v) x (SK v) k2 k3
    cases hx : inR x 0 (nI (nM v) - nI 1).toInt64 with
    | false =>
      rw [hx] at e2
      simp only [hx, Bool.false_eq_true, if_false, false_and]
      simp (disch := omega) only [q_30_0, q_30_1, q_30_4, q_30_5, q_30_8, q_30_10, q_30_12, q_30_15, q_30_17, q_30_20, q_30_21, q_30_24, q_30_27, q_30_29, q_30_32, q_30_33, q_30_36, q_30_39, q_30_41, q_30_42, q_30_44, q_30_46, q_30_49, q_30_50, q_30_53, q_30_56, q_30_59, q_30_60, q_30_61, q_30_63, q_30_64, q_30_65, q_30_67, q_30_70, q_30_71, hg_8_5 H, h_is H, h_ob H, ofs_len8, h_is HS, h_ob HS, ofs_len7, hg_9_5 hV, h_is hV, h_ob hV, ofs_len9, h_is k2, h_ob k2, ofs_len1, k_cr, k_ci, k_oR, k_oN, k_aR, k_aN, and_true, true_and, and_self, eq_self, Nat.reduceLT, Nat.reduceLeDiff, Nat.reduceEqDiff, Nat.reduceAdd, Nat.reduceMul, Bool.true_eq_false, Bool.false_eq_true, Nat.add_sub_cancel, Nat.not_lt_zero, Nat.zero_le, k_sub, k_sb1, k_r, k_n, k_ret, k_t1, k_t0, k_nr, k_nn, k_z0, k_z1, k_zb, x_okI, lit_nI, k_in, k_cl, k_lt, k_le, k_eq, k_neg, nI_add, nI_mul, k_clt, k_cgt, k_cle, k_cge, k_ceq, bI_0, k_sh8, ne_eq, Nat.add_eq_zero_iff, Nat.one_ne_zero, Nat.succ_ne_zero, and_false, false_and, not_false_eq_true, not_true_eq_false, ite_true, ite_false, if_true, if_false, hs, e1, oV, k1, e2]
    | true =>
      rw [hx] at e2
      rw [hx, Bool.true_and] at e3
      simp only [hx, true_and]
      obtain ⟨i, hi, rfl⟩ := (inR_pred (by omega)).mp hx
      rw [k_cl (by omega)] at e3 ⊢
      obtain ⟨t1, t2⟩ := ht v i hlt hi
      have e4 := c_typeAt d h (κ v) (nM v) i (SK v) k2 k3 (by omega)
      rw [if_pos hi, t1] at e4
      have e5 := c_isValue d h z (tN v i) t2
      have e6 := c_put d h (ν v) i 0 z (SV v) hV (by omega) (by omega)
      rw [t1]
      cases hr : kRow (SK v) i with
      | true =>
        rw [hr] at e3
        simp (disch := omega) only [q_30_0, q_30_1, q_30_4, q_30_5, q_30_8, q_30_10, q_30_12, q_30_15, q_30_17, q_30_20, q_30_21, q_30_24, q_30_27, q_30_29, q_30_32, q_30_33, q_30_36, q_30_39, q_30_41, q_30_42, q_30_44, q_30_46, q_30_49, q_30_50, q_30_53, q_30_56, q_30_59, q_30_60, q_30_61, q_30_63, q_30_64, q_30_65, q_30_67, q_30_70, q_30_71, hg_8_5 H, h_is H, h_ob H, ofs_len8, h_is HS, h_ob HS, ofs_len7, hg_9_5 hV, h_is hV, h_ob hV, ofs_len9, h_is k2, h_ob k2, ofs_len1, k_cr, k_ci, k_oR, k_oN, k_aR, k_aN, and_true, true_and, and_self, eq_self, Nat.reduceLT, Nat.reduceLeDiff, Nat.reduceEqDiff, Nat.reduceAdd, Nat.reduceMul, Bool.true_eq_false, Bool.false_eq_true, Nat.add_sub_cancel, Nat.not_lt_zero, Nat.zero_le, k_sub, k_sb1, k_r, k_n, k_ret, k_t1, k_t0, k_nr, k_nn, k_z0, k_z1, k_zb, x_okI, lit_nI, k_in, k_cl, k_lt, k_le, k_eq, k_neg, nI_add, nI_mul, k_clt, k_cgt, k_cle, k_cge, k_ceq, bI_0, k_sh8, ne_eq, Nat.add_eq_zero_iff, Nat.one_ne_zero, Nat.succ_ne_zero, and_false, false_and, not_false_eq_true, not_true_eq_false, ite_true, ite_false, if_true, if_false, hs, e1, oV, k1, e2, e3]
      | false =>
        rw [hr] at e3
        cases hft : fitT (nI (tN v i)) z with
        | false =>
          rw [hft] at e5
          simp (disch := omega) only [q_30_0, q_30_1, q_30_4, q_30_5, q_30_8, q_30_10, q_30_12, q_30_15, q_30_17, q_30_20, q_30_21, q_30_24, q_30_27, q_30_29, q_30_32, q_30_33, q_30_36, q_30_39, q_30_41, q_30_42, q_30_44, q_30_46, q_30_49, q_30_50, q_30_53, q_30_56, q_30_59, q_30_60, q_30_61, q_30_63, q_30_64, q_30_65, q_30_67, q_30_70, q_30_71, hg_8_5 H, h_is H, h_ob H, ofs_len8, h_is HS, h_ob HS, ofs_len7, hg_9_5 hV, h_is hV, h_ob hV, ofs_len9, h_is k2, h_ob k2, ofs_len1, k_cr, k_ci, k_oR, k_oN, k_aR, k_aN, and_true, true_and, and_self, eq_self, Nat.reduceLT, Nat.reduceLeDiff, Nat.reduceEqDiff, Nat.reduceAdd, Nat.reduceMul, Bool.true_eq_false, Bool.false_eq_true, Nat.add_sub_cancel, Nat.not_lt_zero, Nat.zero_le, k_sub, k_sb1, k_r, k_n, k_ret, k_t1, k_t0, k_nr, k_nn, k_z0, k_z1, k_zb, x_okI, lit_nI, k_in, k_cl, k_lt, k_le, k_eq, k_neg, nI_add, nI_mul, k_clt, k_cgt, k_cle, k_cge, k_ceq, bI_0, k_sh8, ne_eq, Nat.add_eq_zero_iff, Nat.one_ne_zero, Nat.succ_ne_zero, and_false, false_and, not_false_eq_true, not_true_eq_false, ite_true, ite_false, if_true, if_false, hs, e1, oV, k1, e2, e3, e4, e5]
        | true =>
          rw [hft] at e5
          simp (disch := omega) only [q_30_0, q_30_1, q_30_4, q_30_5, q_30_8, q_30_10, q_30_12, q_30_15, q_30_17, q_30_20, q_30_21, q_30_24, q_30_27, q_30_29, q_30_32, q_30_33, q_30_36, q_30_39, q_30_41, q_30_42, q_30_44, q_30_46, q_30_49, q_30_50, q_30_53, q_30_56, q_30_59, q_30_60, q_30_61, q_30_63, q_30_64, q_30_65, q_30_67, q_30_70, q_30_71, hg_8_5 H, h_is H, h_ob H, ofs_len8, h_is HS, h_ob HS, ofs_len7, hg_9_5 hV, h_is hV, h_ob hV, ofs_len9, h_is k2, h_ob k2, ofs_len1, k_cr, k_ci, k_oR, k_oN, k_aR, k_aN, and_true, true_and, and_self, eq_self, Nat.reduceLT, Nat.reduceLeDiff, Nat.reduceEqDiff, Nat.reduceAdd, Nat.reduceMul, Bool.true_eq_false, Bool.false_eq_true, Nat.add_sub_cancel, Nat.not_lt_zero, Nat.zero_le, k_sub, k_sb1, k_r, k_n, k_ret, k_t1, k_t0, k_nr, k_nn, k_z0, k_z1, k_zb, x_okI, lit_nI, k_in, k_cl, k_lt, k_le, k_eq, k_neg, nI_add, nI_mul, k_clt, k_cgt, k_cle, k_cge, k_ceq, bI_0, k_sh8, ne_eq, Nat.add_eq_zero_iff, Nat.one_ne_zero, Nat.succ_ne_zero, and_false, false_and, not_false_eq_true, not_true_eq_false, ite_true, ite_false, if_true, if_false, hs, e1, oV, k1, e2, e3, e4, e5, e6]
          rfl
