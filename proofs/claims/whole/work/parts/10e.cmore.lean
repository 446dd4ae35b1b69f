/-! The class: add, value, member, forget. -/
theorem c_add (d : Nat) (h : xH) (X σ n : Nat) (SX SS : gS) (ν κ nM : Nat → Nat) (kN tN : Nat → Nat → Nat) (SV SK : Nat → gS) (w : Int64) (x : Int32) (z : Int64) (H : isB 8 h X SX) (hs : sR SX 5 = .ref σ) (HS : isB 7 h σ SS) (hk : stOK h SS n ν SV) (hv : vkOK h SV κ SK nM n) (ht : ∀ v m, v < n → m < nM v → sA (SK v) 2 m = nI (tN v m) ∧ tN v m ≤ 7) (hc : ∀ v m, v < n → m < 8 → sA (SV v) 0 m = nI (kN v m) ∧ kN v m ≤ 8) : xm (d + 2) 35 [.ref X, .long w, .int x, .long z] h = (match fnd (fun i => sJ (SV i) 2) w n with
    | none => some (some (.int (-nI 2)), h)
    | some v => if inR x 0 (nI (nM v) - nI 1).toInt64 = true ∧ kRow (SK v) x.toNatClampNeg = true then (if fitT (sA (SK v) 2 x.toNatClampNeg) z = true then
          (if kN v x.toNatClampNeg = 8 then some (some (.int (-nI 3)), h)
           else some (some (.int (nI (kN v x.toNatClampNeg + 1))), oh 9 h (ν v) (uL (uA (SV v) 0 x.toNatClampNeg (nI (kN v x.toNatClampNeg + 1))) 1 (8 * x.toNatClampNeg + kN v x.toNatClampNeg) z)))
         else some (some (.int (-nI 1)), h)) else some (some (.int (-nI 2)), h)) := by
  rw [E_35 _ _ _ _ _ _ rfl]
  have e1 := c_sfind d h σ n SS ν SV w HS hk
  cases hf : fnd (fun i => sJ (SV i) 2) w n with
  | none =>
    rw [hf] at e1
    simp (disch := omega) only [q_35_0, q_35_1, q_35_4, q_35_5, q_35_8, q_35_10, q_35_12, q_35_15, q_35_17, q_35_20, q_35_21, q_35_24, q_35_27, q_35_29, q_35_30, q_35_32, q_35_34, q_35_37, q_35_38, q_35_41, q_35_44, q_35_47, q_35_48, q_35_49, q_35_51, q_35_52, q_35_55, q_35_57, q_35_59, q_35_61, q_35_64, q_35_66, q_35_67, q_35_69, q_35_70, q_35_72, q_35_73, q_35_74, q_35_77, q_35_79, q_35_80, q_35_82, q_35_84, q_35_87, q_35_89, q_35_90, q_35_91, hg_8_5 H, h_is H, h_ob H, ofs_len8, h_is HS, h_ob HS, ofs_len7, k_cr, k_ci, k_oR, k_oN, k_aR, k_aN, and_true, true_and, and_self, eq_self, Nat.reduceLT, Nat.reduceLeDiff, Nat.reduceEqDiff, Nat.reduceAdd, Nat.reduceMul, Bool.true_eq_false, Bool.false_eq_true, Nat.add_sub_cancel, Nat.not_lt_zero, Nat.zero_le, k_sub, k_sb1, k_r, k_n, k_ret, k_t1, k_t0, k_nr, k_nn, k_z0, k_z1, k_zb, x_okI, lit_nI, k_in, k_cl, k_lt, k_le, k_eq, k_neg, nI_add, nI_mul, k_clt, k_cgt, k_cle, k_cge, k_ceq, bI_0, k_sh8, ne_eq, Nat.add_eq_zero_iff, Nat.one_ne_zero, Nat.succ_ne_zero, and_false, false_and, not_false_eq_true, not_true_eq_false, ite_true, ite_false, if_true, if_false, hs, e1, oV]
  | some v =>
    rw [hf] at e1
    have hlt := (fnd_lt hf).1
    have hV := (hk.2.2 v hlt).2
    obtain ⟨k1, k2, k3⟩ := hv v hlt
    have h8 := k3.2.1
    have e3 := c_isRowR d h (κ v) (nM v) x (SK v) k2 k3
    cases hx : inR x 0 (nI (nM v) - nI 1).toInt64 with
    | false =>
      rw [hx, Bool.false_and] at e3
      simp only [hx, Bool.false_eq_true, if_false, false_and]
      simp (disch := omega) only [q_35_0, q_35_1, q_35_4, q_35_5, q_35_8, q_35_10, q_35_12, q_35_15, q_35_17, q_35_20, q_35_21, q_35_24, q_35_27, q_35_29, q_35_30, q_35_32, q_35_34, q_35_37, q_35_38, q_35_41, q_35_44, q_35_47, q_35_48, q_35_49, q_35_51, q_35_52, q_35_55, q_35_57, q_35_59, q_35_61, q_35_64, q_35_66, q_35_67, q_35_69, q_35_70, q_35_72, q_35_73, q_35_74, q_35_77, q_35_79, q_35_80, q_35_82, q_35_84, q_35_87, q_35_89, q_35_90, q_35_91, hg_8_5 H, h_is H, h_ob H, ofs_len8, h_is HS, h_ob HS, ofs_len7, hg_9_5 hV, h_is hV, h_ob hV, ofs_len9, h_is k2, h_ob k2, ofs_len1, k_cr, k_ci, k_oR, k_oN, k_aR, k_aN, and_true, true_and, and_self, eq_self, Nat.reduceLT, Nat.reduceLeDiff, Nat.reduceEqDiff, Nat.reduceAdd, Nat.reduceMul, Bool.true_eq_false, Bool.false_eq_true, Nat.add_sub_cancel, Nat.not_lt_zero, Nat.zero_le, k_sub, k_sb1, k_r, k_n, k_ret, k_t1, k_t0, k_nr, k_nn, k_z0, k_z1, k_zb, x_okI, lit_nI, k_in, k_cl, k_lt, k_le, k_eq, k_neg, nI_add, nI_mul, k_clt, k_cgt, k_cle, k_cge, k_ceq, bI_0, k_sh8, ne_eq, Nat.add_eq_zero_iff, Nat.one_ne_zero, Nat.succ_ne_zero, and_false, false_and, not_false_eq_true, not_true_eq_false, ite_true, ite_false, if_true, if_false, hs, e1, oV, k1, e3]
    | true =>
      rw [hx, Bool.true_and] at e3
      simp only [hx, true_and]
      obtain ⟨i, hi, rfl⟩ := (inR_pred (by omega)).mp hx
      rw [k_cl (by omega)] at e3 ⊢
      obtain ⟨t1, t2⟩ := ht v i hlt hi
      obtain ⟨c1, c2⟩ := hc v i hlt (by omega)
      have e4 := c_typeAt d h (κ v) (nM v) i (SK v) k2 k3 (by omega)
      rw [if_pos hi, t1] at e4
      have e5 := c_isValue d h z (tN v i) t2
      have e7 := c_countOf d h (ν v) i (SV v) hV (by omega)
      rw [if_pos (by omega), c1] at e7
      rw [t1]
      cases hr : kRow (SK v) i with
      | false =>
        rw [hr] at e3
        simp (disch := omega) only [q_35_0, q_35_1, q_35_4, q_35_5, q_35_8, q_35_10, q_35_12, q_35_15, q_35_17, q_35_20, q_35_21, q_35_24, q_35_27, q_35_29, q_35_30, q_35_32, q_35_34, q_35_37, q_35_38, q_35_41, q_35_44, q_35_47, q_35_48, q_35_49, q_35_51, q_35_52, q_35_55, q_35_57, q_35_59, q_35_61, q_35_64, q_35_66, q_35_67, q_35_69, q_35_70, q_35_72, q_35_73, q_35_74, q_35_77, q_35_79, q_35_80, q_35_82, q_35_84, q_35_87, q_35_89, q_35_90, q_35_91, hg_8_5 H, h_is H, h_ob H, ofs_len8, h_is HS, h_ob HS, ofs_len7, hg_9_5 hV, h_is hV, h_ob hV, ofs_len9, h_is k2, h_ob k2, ofs_len1, k_cr, k_ci, k_oR, k_oN, k_aR, k_aN, and_true, true_and, and_self, eq_self, Nat.reduceLT, Nat.reduceLeDiff, Nat.reduceEqDiff, Nat.reduceAdd, Nat.reduceMul, Bool.true_eq_false, Bool.false_eq_true, Nat.add_sub_cancel, Nat.not_lt_zero, Nat.zero_le, k_sub, k_sb1, k_r, k_n, k_ret, k_t1, k_t0, k_nr, k_nn, k_z0, k_z1, k_zb, x_okI, lit_nI, k_in, k_cl, k_lt, k_le, k_eq, k_neg, nI_add, nI_mul, k_clt, k_cgt, k_cle, k_cge, k_ceq, bI_0, k_sh8, ne_eq, Nat.add_eq_zero_iff, Nat.one_ne_zero, Nat.succ_ne_zero, and_false, false_and, not_false_eq_true, not_true_eq_false, ite_true, ite_false, if_true, if_false, hs, e1, oV, k1, e3]
      | true =>
        rw [hr] at e3
        cases hft : fitT (nI (tN v i)) z with
        | false =>
          rw [hft] at e5
          simp (disch := omega) only [q_35_0, q_35_1, q_35_4, q_35_5, q_35_8, q_35_10, q_35_12, q_35_15, q_35_17, q_35_20, q_35_21, q_35_24, q_35_27, q_35_29, q_35_30, q_35_32, q_35_34, q_35_37, q_35_38, q_35_41, q_35_44, q_35_47, q_35_48, q_35_49, q_35_51, q_35_52, q_35_55, q_35_57, q_35_59, q_35_61, q_35_64, q_35_66, q_35_67, q_35_69, q_35_70, q_35_72, q_35_73, q_35_74, q_35_77, q_35_79, q_35_80, q_35_82, q_35_84, q_35_87, q_35_89, q_35_90, q_35_91, hg_8_5 H, h_is H, h_ob H, ofs_len8, h_is HS, h_ob HS, ofs_len7, hg_9_5 hV, h_is hV, h_ob hV, ofs_len9, h_is k2, h_ob k2, ofs_len1, k_cr, k_ci, k_oR, k_oN, k_aR, k_aN, and_true, true_and, and_self, eq_self, Nat.reduceLT, Nat.reduceLeDiff, Nat.reduceEqDiff, Nat.reduceAdd, Nat.reduceMul, Bool.true_eq_false, Bool.false_eq_true, Nat.add_sub_cancel, Nat.not_lt_zero, Nat.zero_le, k_sub, k_sb1, k_r, k_n, k_ret, k_t1, k_t0, k_nr, k_nn, k_z0, k_z1, k_zb, x_okI, lit_nI, k_in, k_cl, k_lt, k_le, k_eq, k_neg, nI_add, nI_mul, k_clt, k_cgt, k_cle, k_cge, k_ceq, bI_0, k_sh8, ne_eq, Nat.add_eq_zero_iff, Nat.one_ne_zero, Nat.succ_ne_zero, and_false, false_and, not_false_eq_true, not_true_eq_false, ite_true, ite_false, if_true, if_false, hs, e1, oV, k1, e3, e4, e5]
        | true =>
          rw [hft] at e5
          by_cases h9 : kN v i = 8
          · rw [h9] at e7
            simp (disch := omega) only [q_35_0, q_35_1, q_35_4, q_35_5, q_35_8, q_35_10, q_35_12, q_35_15, q_35_17, q_35_20, q_35_21, q_35_24, q_35_27, q_35_29, q_35_30, q_35_32, q_35_34, q_35_37, q_35_38, q_35_41, q_35_44, q_35_47, q_35_48, q_35_49, q_35_51, q_35_52, q_35_55, q_35_57, q_35_59, q_35_61, q_35_64, q_35_66, q_35_67, q_35_69, q_35_70, q_35_72, q_35_73, q_35_74, q_35_77, q_35_79, q_35_80, q_35_82, q_35_84, q_35_87, q_35_89, q_35_90, q_35_91, hg_8_5 H, h_is H, h_ob H, ofs_len8, h_is HS, h_ob HS, ofs_len7, hg_9_5 hV, h_is hV, h_ob hV, ofs_len9, h_is k2, h_ob k2, ofs_len1, k_cr, k_ci, k_oR, k_oN, k_aR, k_aN, and_true, true_and, and_self, eq_self, Nat.reduceLT, Nat.reduceLeDiff, Nat.reduceEqDiff, Nat.reduceAdd, Nat.reduceMul, Bool.true_eq_false, Bool.false_eq_true, Nat.add_sub_cancel, Nat.not_lt_zero, Nat.zero_le, k_sub, k_sb1, k_r, k_n, k_ret, k_t1, k_t0, k_nr, k_nn, k_z0, k_z1, k_zb, x_okI, lit_nI, k_in, k_cl, k_lt, k_le, k_eq, k_neg, nI_add, nI_mul, k_clt, k_cgt, k_cle, k_cge, k_ceq, bI_0, k_sh8, ne_eq, Nat.add_eq_zero_iff, Nat.one_ne_zero, Nat.succ_ne_zero, and_false, false_and, not_false_eq_true, not_true_eq_false, ite_true, ite_false, if_true, if_false, hs, e1, oV, k1, e3, e4, e5, e7, h9]
          · have hl : kN v i < 8 := by omega
            have hg : ¬ 8 ≤ kN v i := by omega
            have e8 := c_resize d h (ν v) i (kN v i + 1) (SV v) hV (by omega) (by omega)
            have hV2 : isB 9 (oh 9 h (ν v) (uA (SV v) 0 i (nI (kN v i + 1)))) (ν v) (uA (SV v) 0 i (nI (kN v i + 1))) := isB_oh _ _ _ _
            have e9 := c_put d _ (ν v) i (kN v i) z _ hV2 (by omega) hl
            rw [oh_oh] at e9
            simp (disch := omega) only [q_35_0, q_35_1, q_35_4, q_35_5, q_35_8, q_35_10, q_35_12, q_35_15, q_35_17, q_35_20, q_35_21, q_35_24, q_35_27, q_35_29, q_35_30, q_35_32, q_35_34, q_35_37, q_35_38, q_35_41, q_35_44, q_35_47, q_35_48, q_35_49, q_35_51, q_35_52, q_35_55, q_35_57, q_35_59, q_35_61, q_35_64, q_35_66, q_35_67, q_35_69, q_35_70, q_35_72, q_35_73, q_35_74, q_35_77, q_35_79, q_35_80, q_35_82, q_35_84, q_35_87, q_35_89, q_35_90, q_35_91, hg_8_5 H, h_is H, h_ob H, ofs_len8, h_is HS, h_ob HS, ofs_len7, hg_9_5 hV, h_is hV, h_ob hV, ofs_len9, h_is k2, h_ob k2, ofs_len1, k_cr, k_ci, k_oR, k_oN, k_aR, k_aN, and_true, true_and, and_self, eq_self, Nat.reduceLT, Nat.reduceLeDiff, Nat.reduceEqDiff, Nat.reduceAdd, Nat.reduceMul, Bool.true_eq_false, Bool.false_eq_true, Nat.add_sub_cancel, Nat.not_lt_zero, Nat.zero_le, k_sub, k_sb1, k_r, k_n, k_ret, k_t1, k_t0, k_nr, k_nn, k_z0, k_z1, k_zb, x_okI, lit_nI, k_in, k_cl, k_lt, k_le, k_eq, k_neg, nI_add, nI_mul, k_clt, k_cgt, k_cle, k_cge, k_ceq, bI_0, k_sh8, ne_eq, Nat.add_eq_zero_iff, Nat.one_ne_zero, Nat.succ_ne_zero, and_false, false_and, not_false_eq_true, not_true_eq_false, ite_true, ite_false, if_true, if_false, hs, e1, oV, k1, e3, e4, e5, e7, h9, hl, hg, e8, e9, h_is hV2]
/-- kindAt(x) of a Build of n Kinds -/
theorem c_kindAtR (d : Nat) (h : xH) (a n : Nat) (x : Int32) (S : gS) (κ : Nat → Nat) (SK : Nat → gS) (H : isB 2 h a S) (hk : bOK h S n κ SK) : xm (d + 1) 18 [.ref a, .int x] h = some (some (if inR x 0 (nI n - nI 1).toInt64 = true then .ref (κ x.toNatClampNeg) else .null), h) := by
  have h6 := hk.2.1
  cases hx : inR x 0 (nI n - nI 1).toInt64 with
  | true =>
    obtain ⟨i, hi, rfl⟩ := (inR_pred (by omega)).mp hx
    rw [c_kindAt d h a n i S κ SK H hk (by omega), if_pos hi, if_pos rfl, k_cl (by omega)]
  | false =>
    rw [if_neg (by decide)]
    rcases nlt_inR (by omega) hx with h0 | ⟨i, hi, hin, rfl⟩
    · exact c_kindAt_neg d h a x S H h0
    · rw [c_kindAt d h a n i S κ SK H hk hi, if_neg (by omega)]
theorem c_value_no (d : Nat) (h : xH) (X σ n bd nc : Nat) (SX SS SB : gS) (ν β κ : Nat → Nat) (SV SK : Nat → gS) (w : Int64) (x : Int32) (H : isB 8 h X SX) (hs : sR SX 5 = .ref σ) (HS : isB 7 h σ SS) (hbd : sI SS 1 = nI bd) (h8 : bd < 8) (hβ : sQ SX 0 bd = .ref (β bd)) (HB : isB 2 h (β bd) SB) (hb : bOK h SB nc κ SK) (hk : stOK h SS n ν SV) (hno : inR x 0 (nI nc - nI 1).toInt64 = false ∨ (inR x 0 (nI nc - nI 1).toInt64 = true ∧ ∃ i, fnd (fun i => sJ (SV i) 2) w n = some i)) : xm (d + 2) 23 [.ref X, .long w, .int x] h = some (some (.int (if inR x 0 (nI nc - nI 1).toInt64 = false then -nI 2 else -nI 4)), h) := by
  rw [E_23 _ _ _ _ _ rfl]
  have e1 := c_buildAt d h X bd (β bd) SX H h8 hβ
  have e2 := c_kindAtR d h (β bd) nc x SB κ SK HB hb
  rcases hno with hx | ⟨hx, i, hf⟩
  · rw [hx, if_neg (by decide)] at e2
    rw [hx]
    simp (disch := omega) only [q_23_0, q_23_1, q_23_2, q_23_5, q_23_8, q_23_11, q_23_13, q_23_15, q_23_18, q_23_19, q_23_22, q_23_24, q_23_25, q_23_28, q_23_30, q_23_32, q_23_35, q_23_37, q_23_38, q_23_39, q_23_42, q_23_43, q_23_46, q_23_49, q_23_51, q_23_52, q_23_53, q_23_56, q_23_57, q_23_58, q_23_60, q_23_63, q_23_66, q_23_68, q_23_71, q_23_72, q_23_75, q_23_78, hg_8_5 H, h_is H, h_ob H, ofs_len8, hg_7_1 HS, hg_7_2 HS, h_is HS, h_ob HS, ofs_len7, h_is HB, h_ob HB, ofs_len2, k_cr, k_ci, k_oR, k_oN, k_aR, k_aN, and_true, true_and, and_self, eq_self, Nat.reduceLT, Nat.reduceLeDiff, Nat.reduceEqDiff, Nat.reduceAdd, Nat.reduceMul, Bool.true_eq_false, Bool.false_eq_true, Nat.add_sub_cancel, Nat.not_lt_zero, Nat.zero_le, k_sub, k_sb1, k_r, k_n, k_ret, k_t1, k_t0, k_nr, k_nn, k_z0, k_z1, k_zb, x_okI, lit_nI, k_in, k_cl, k_lt, k_le, k_eq, k_neg, nI_add, nI_mul, k_clt, k_cgt, k_cle, k_cge, k_ceq, bI_0, k_sh8, ne_eq, Nat.add_eq_zero_iff, Nat.one_ne_zero, Nat.succ_ne_zero, and_false, false_and, not_false_eq_true, not_true_eq_false, ite_true, ite_false, if_true, if_false, hs, hbd, e1, e2]
  · rw [hx, if_pos rfl] at e2
    have e3 := c_sfind d h σ n SS ν SV w HS hk
    rw [hf] at e3
    rw [hx]
    simp (disch := omega) only [q_23_0, q_23_1, q_23_2, q_23_5, q_23_8, q_23_11, q_23_13, q_23_15, q_23_18, q_23_19, q_23_22, q_23_24, q_23_25, q_23_28, q_23_30, q_23_32, q_23_35, q_23_37, q_23_38, q_23_39, q_23_42, q_23_43, q_23_46, q_23_49, q_23_51, q_23_52, q_23_53, q_23_56, q_23_57, q_23_58, q_23_60, q_23_63, q_23_66, q_23_68, q_23_71, q_23_72, q_23_75, q_23_78, hg_8_5 H, h_is H, h_ob H, ofs_len8, hg_7_1 HS, hg_7_2 HS, h_is HS, h_ob HS, ofs_len7, h_is HB, h_ob HB, ofs_len2, k_cr, k_ci, k_oR, k_oN, k_aR, k_aN, and_true, true_and, and_self, eq_self, Nat.reduceLT, Nat.reduceLeDiff, Nat.reduceEqDiff, Nat.reduceAdd, Nat.reduceMul, Bool.true_eq_false, Bool.false_eq_true, Nat.add_sub_cancel, Nat.not_lt_zero, Nat.zero_le, k_sub, k_sb1, k_r, k_n, k_ret, k_t1, k_t0, k_nr, k_nn, k_z0, k_z1, k_zb, x_okI, lit_nI, k_in, k_cl, k_lt, k_le, k_eq, k_neg, nI_add, nI_mul, k_clt, k_cgt, k_cle, k_cge, k_ceq, bI_0, k_sh8, ne_eq, Nat.add_eq_zero_iff, Nat.one_ne_zero, Nat.succ_ne_zero, and_false, false_and, not_false_eq_true, not_true_eq_false, ite_true, ite_false, if_true, if_false, hs, hbd, e1, e2, e3, oV]
theorem c_value_in (d : Nat) (h h' : xH) (X σ n bd nc q f : Nat) (SX SS SS' SB : gS) (ν β κ : Nat → Nat) (SV SK : Nat → gS) (w : Int64) (H : isB 8 h X SX) (hs : sR SX 5 = .ref σ) (HS : isB 7 h σ SS) (hbd : sI SS 1 = nI bd) (h8 : bd < 8) (hβ : sQ SX 0 bd = .ref (β bd)) (HB : isB 2 h (β bd) SB) (hb : bOK h SB nc κ SK) (hk : stOK h SS n ν SV) (hq : q < nc) (hf : fnd (fun i => sJ (SV i) 2) w n = none) (hi : xm (d + 3) 25 [.ref σ, .long w, .int (nI q), .ref (κ q)] h = some (some (.ref f), h')) (H' : isB 8 h' X SX) (HS' : isB 7 h' σ SS') (hn' : sI SS' 2 = nI (n + 1)) : xm (d + 4) 23 [.ref X, .long w, .int (nI q)] h = some (some (.int (nI (n + 1))), h') := by
  rw [E_23 _ _ _ _ _ rfl]
  have h6 := hb.2.1
  have e1 := c_buildAt (d + 2) h X bd (β bd) SX H h8 hβ
  have e2 := c_kindAt (d + 2) h (β bd) nc q SB κ SK HB hb (by omega)
  rw [if_pos hq] at e2
  have e3 := c_sfind (d + 2) h σ n SS ν SV w HS hk
  rw [hf] at e3
  simp (disch := omega) only [q_23_0, q_23_1, q_23_2, q_23_5, q_23_8, q_23_11, q_23_13, q_23_15, q_23_18, q_23_19, q_23_22, q_23_24, q_23_25, q_23_28, q_23_30, q_23_32, q_23_35, q_23_37, q_23_38, q_23_39, q_23_42, q_23_43, q_23_46, q_23_49, q_23_51, q_23_52, q_23_53, q_23_56, q_23_57, q_23_58, q_23_60, q_23_63, q_23_66, q_23_68, q_23_71, q_23_72, q_23_75, q_23_78, hg_8_5 H, h_is H, h_ob H, ofs_len8, hg_7_1 HS, hg_7_2 HS, h_is HS, h_ob HS, ofs_len7, h_is HB, h_ob HB, ofs_len2, hg_8_5 H', h_is H', h_ob H', ofs_len8, hg_7_1 HS', hg_7_2 HS', h_is HS', h_ob HS', ofs_len7, k_cr, k_ci, k_oR, k_oN, k_aR, k_aN, and_true, true_and, and_self, eq_self, Nat.reduceLT, Nat.reduceLeDiff, Nat.reduceEqDiff, Nat.reduceAdd, Nat.reduceMul, Bool.true_eq_false, Bool.false_eq_true, Nat.add_sub_cancel, Nat.not_lt_zero, Nat.zero_le, k_sub, k_sb1, k_r, k_n, k_ret, k_t1, k_t0, k_nr, k_nn, k_z0, k_z1, k_zb, x_okI, lit_nI, k_in, k_cl, k_lt, k_le, k_eq, k_neg, nI_add, nI_mul, k_clt, k_cgt, k_cle, k_cge, k_ceq, bI_0, k_sh8, ne_eq, Nat.add_eq_zero_iff, Nat.one_ne_zero, Nat.succ_ne_zero, and_false, false_and, not_false_eq_true, not_true_eq_false, ite_true, ite_false, if_true, if_false, hs, hbd, e1, e2, e3, oV, hi, hn']
theorem c_value_full (d : Nat) (h : xH) (X σ bd nc q : Nat) (SX SS SB : gS) (ν β κ : Nat → Nat) (SV SK : Nat → gS) (w : Int64) (H : isB 8 h X SX) (hs : sR SX 5 = .ref σ) (HS : isB 7 h σ SS) (hbd : sI SS 1 = nI bd) (h8 : bd < 8) (hβ : sQ SX 0 bd = .ref (β bd)) (HB : isB 2 h (β bd) SB) (hb : bOK h SB nc κ SK) (hk : stOK h SS 60 ν SV) (hq : q < nc) (hf : fnd (fun i => sJ (SV i) 2) w 60 = none) : xm (d + 2) 23 [.ref X, .long w, .int (nI q)] h = some (some (.int (-nI 3)), h) := by
  rw [E_23 _ _ _ _ _ rfl]
  have h6 := hb.2.1
  have e1 := c_buildAt d h X bd (β bd) SX H h8 hβ
  have e2 := c_kindAt d h (β bd) nc q SB κ SK HB hb (by omega)
  rw [if_pos hq] at e2
  have e3 := c_sfind d h σ 60 SS ν SV w HS hk
  rw [hf] at e3
  have e4 := c_insert_full d h σ (κ q) SS w (nI q) HS hk.1
  simp (disch := omega) only [q_23_0, q_23_1, q_23_2, q_23_5, q_23_8, q_23_11, q_23_13, q_23_15, q_23_18, q_23_19, q_23_22, q_23_24, q_23_25, q_23_28, q_23_30, q_23_32, q_23_35, q_23_37, q_23_38, q_23_39, q_23_42, q_23_43, q_23_46, q_23_49, q_23_51, q_23_52, q_23_53, q_23_56, q_23_57, q_23_58, q_23_60, q_23_63, q_23_66, q_23_68, q_23_71, q_23_72, q_23_75, q_23_78, hg_8_5 H, h_is H, h_ob H, ofs_len8, hg_7_1 HS, hg_7_2 HS, h_is HS, h_ob HS, ofs_len7, h_is HB, h_ob HB, ofs_len2, k_cr, k_ci, k_oR, k_oN, k_aR, k_aN, and_true, true_and, and_self, eq_self, Nat.reduceLT, Nat.reduceLeDiff, Nat.reduceEqDiff, Nat.reduceAdd, Nat.reduceMul, Bool.true_eq_false, Bool.false_eq_true, Nat.add_sub_cancel, Nat.not_lt_zero, Nat.zero_le, k_sub, k_sb1, k_r, k_n, k_ret, k_t1, k_t0, k_nr, k_nn, k_z0, k_z1, k_zb, x_okI, lit_nI, k_in, k_cl, k_lt, k_le, k_eq, k_neg, nI_add, nI_mul, k_clt, k_cgt, k_cle, k_cge, k_ceq, bI_0, k_sh8, ne_eq, Nat.add_eq_zero_iff, Nat.one_ne_zero, Nat.succ_ne_zero, and_false, false_and, not_false_eq_true, not_true_eq_false, ite_true, ite_false, if_true, if_false, hs, hbd, e1, e2, e3, oV, e4]
