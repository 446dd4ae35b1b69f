/-! The class: bits and add, where only the counts of MEMBERS are known. -/
theorem c_bitsM (d : Nat) (h : xH) (X σ n : Nat) (SX SS : gS) (ν κ nM : Nat → Nat) (kN : Nat → Nat → Nat) (SV SK : Nat → gS) (w : Int64) (x y : Int32) (H : isB 8 h X SX) (hs : sR SX 5 = .ref σ) (HS : isB 7 h σ SS) (hk : stOK h SS n ν SV) (hv : vkOK h SV κ SK nM n) (hc : ∀ v m, v < n → m < nM v → sA (SV v) 0 m = nI (kN v m) ∧ kN v m ≤ 8) : xm (d + 2) 124 [.ref X, .long w, .int x, .int y] h = some (some (.long (match fnd (fun i => sJ (SV i) 2) w n with | none => 0 | some v => if inR x 0 (nI (nM v) - nI 1).toInt64 = true then (if inR y 0 (nI (kN v x.toNatClampNeg) - nI 1).toInt64 = true then sL (SV v) 1 (8 * x.toNatClampNeg + y.toNatClampNeg) else 0) else 0)), h) := by
  rw [E_124 _ _ _ _ _ _ rfl]
  have e1 := c_sfind d h σ n SS ν SV w HS hk
  cases hf : fnd (fun i => sJ (SV i) 2) w n with
  | none =>
    rw [hf] at e1
    simp (disch := omega) only [q_124_0, q_124_1, q_124_4, q_124_5, q_124_8, q_124_10, q_124_12, q_124_15, q_124_17, q_124_20, q_124_21, q_124_24, q_124_27, q_124_28, q_124_31, q_124_33, q_124_34, q_124_36, q_124_39, hg_8_5 H, h_is H, h_ob H, ofs_len8, h_is HS, h_ob HS, ofs_len7, ↓reduceIte, k_cr, k_ci, k_oR, k_oN, k_aR, k_aN, and_true, true_and, and_self, eq_self, Nat.reduceLT, Nat.reduceLeDiff, Nat.reduceEqDiff, Nat.reduceAdd, Nat.reduceMul, Bool.true_eq_false, Bool.false_eq_true, Nat.add_sub_cancel, Nat.not_lt_zero, Nat.zero_le, k_sub, k_sb1, k_r, k_n, k_ret, k_t1, k_t0, k_nr, k_nn, k_z0, k_z1, k_zb, x_okI, lit_nI, k_in, k_cl, k_lt, k_le, k_eq, k_neg, nI_add, nI_mul, k_clt, k_cgt, k_cle, k_cge, k_ceq, bI_0, k_sh8, ne_eq, Nat.add_eq_zero_iff, Nat.one_ne_zero, Nat.succ_ne_zero, and_false, false_and, not_false_eq_true, not_true_eq_false, ite_true, ite_false, if_true, if_false, hs, e1, oV]
  | some v =>
    rw [hf] at e1
    have hlt := (fnd_lt hf).1
    have hV := (hk.2.2 v hlt).2
    obtain ⟨k1, k2, k3⟩ := hv v hlt
    have h8 := k3.2.1
    have e2 := c_hasR d h (κ v) (nM v) x (SK v) k2 k3
    cases hx : inR x 0 (nI (nM v) - nI 1).toInt64 with
    | false =>
      rw [hx] at e2
      simp only [hx, Bool.false_eq_true, if_false]
      simp (disch := omega) only [q_124_0, q_124_1, q_124_4, q_124_5, q_124_8, q_124_10, q_124_12, q_124_15, q_124_17, q_124_20, q_124_21, q_124_24, q_124_27, q_124_28, q_124_31, q_124_33, q_124_34, q_124_36, q_124_39, hg_8_5 H, h_is H, h_ob H, ofs_len8, h_is HS, h_ob HS, ofs_len7, hg_9_5 hV, h_is hV, h_ob hV, ofs_len9, h_is k2, h_ob k2, ofs_len1, ↓reduceIte, k_cr, k_ci, k_oR, k_oN, k_aR, k_aN, and_true, true_and, and_self, eq_self, Nat.reduceLT, Nat.reduceLeDiff, Nat.reduceEqDiff, Nat.reduceAdd, Nat.reduceMul, Bool.true_eq_false, Bool.false_eq_true, Nat.add_sub_cancel, Nat.not_lt_zero, Nat.zero_le, k_sub, k_sb1, k_r, k_n, k_ret, k_t1, k_t0, k_nr, k_nn, k_z0, k_z1, k_zb, x_okI, lit_nI, k_in, k_cl, k_lt, k_le, k_eq, k_neg, nI_add, nI_mul, k_clt, k_cgt, k_cle, k_cge, k_ceq, bI_0, k_sh8, ne_eq, Nat.add_eq_zero_iff, Nat.one_ne_zero, Nat.succ_ne_zero, and_false, false_and, not_false_eq_true, not_true_eq_false, ite_true, ite_false, if_true, if_false, hs, e1, oV, k1, e2]
    | true =>
      rw [hx] at e2
      simp only [hx, if_true]
      obtain ⟨i, hi, rfl⟩ := (inR_pred (by omega)).mp hx
      obtain ⟨c1, c2⟩ := hc v i hlt hi
      rw [k_cl (by omega)]
      have e3 : xm (d + 1) 86 [.ref (ν v), .int (nI i), .int y] h = some (some (.long (if inR y 0 (nI (kN v i) - nI 1).toInt64 = true then sL (SV v) 1 (8 * i + y.toNatClampNeg) else 0)), h) := by
        cases hy : inR y 0 (nI (kN v i) - nI 1).toInt64 with
        | true =>
          obtain ⟨j, hj, rfl⟩ := (inR_pred (by omega)).mp hy
          rw [c_bitsAt d h (ν v) i j (kN v i) (SV v) hV (by omega) (by omega) (fun _ => c1) c2, if_pos ⟨by omega, hj⟩, if_pos rfl, k_cl (by omega)]
        | false =>
          rw [if_neg (by decide)]
          rcases nlt_inR (by omega) hy with h0 | ⟨j, hj, hjn, rfl⟩
          · exact c_bitsAt_n d h (ν v) i (kN v i) y (SV v) hV (by omega) h0
          · rw [c_bitsAt d h (ν v) i j (kN v i) (SV v) hV (by omega) hj (fun _ => c1) c2, if_neg (by omega)]
      simp (disch := omega) only [q_124_0, q_124_1, q_124_4, q_124_5, q_124_8, q_124_10, q_124_12, q_124_15, q_124_17, q_124_20, q_124_21, q_124_24, q_124_27, q_124_28, q_124_31, q_124_33, q_124_34, q_124_36, q_124_39, hg_8_5 H, h_is H, h_ob H, ofs_len8, h_is HS, h_ob HS, ofs_len7, hg_9_5 hV, h_is hV, h_ob hV, ofs_len9, h_is k2, h_ob k2, ofs_len1, ↓reduceIte, k_cr, k_ci, k_oR, k_oN, k_aR, k_aN, and_true, true_and, and_self, eq_self, Nat.reduceLT, Nat.reduceLeDiff, Nat.reduceEqDiff, Nat.reduceAdd, Nat.reduceMul, Bool.true_eq_false, Bool.false_eq_true, Nat.add_sub_cancel, Nat.not_lt_zero, Nat.zero_le, k_sub, k_sb1, k_r, k_n, k_ret, k_t1, k_t0, k_nr, k_nn, k_z0, k_z1, k_zb, x_okI, lit_nI, k_in, k_cl, k_lt, k_le, k_eq, k_neg, nI_add, nI_mul, k_clt, k_cgt, k_cle, k_cge, k_ceq, bI_0, k_sh8, ne_eq, Nat.add_eq_zero_iff, Nat.one_ne_zero, Nat.succ_ne_zero, and_false, false_and, not_false_eq_true, not_true_eq_false, ite_true, ite_false, if_true, if_false, hs, e1, oV, k1, e2, e3]
theorem c_addM (d : Nat) (h : xH) (X σ n : Nat) (SX SS : gS) (ν κ nM : Nat → Nat) (kN tN : Nat → Nat → Nat) (SV SK : Nat → gS) (w : Int64) (x : Int32) (z : Int64) (H : isB 8 h X SX) (hs : sR SX 5 = .ref σ) (HS : isB 7 h σ SS) (hk : stOK h SS n ν SV) (hv : vkOK h SV κ SK nM n) (ht : ∀ v m, v < n → m < nM v → sA (SK v) 2 m = nI (tN v m) ∧ tN v m ≤ 7) (hc : ∀ v m, v < n → m < nM v → sA (SV v) 0 m = nI (kN v m) ∧ kN v m ≤ 8) : xm (d + 2) 35 [.ref X, .long w, .int x, .long z] h = (match fnd (fun i => sJ (SV i) 2) w n with
    | none => some (some (.int (-nI 2)), h)
    | some v => if inR x 0 (nI (nM v) - nI 1).toInt64 = true ∧ kRow (SK v) x.toNatClampNeg = true then (if fitT (sA (SK v) 2 x.toNatClampNeg) z = true then
          (if kN v x.toNatClampNeg = 8 then some (some (.int (-nI 3)), h)
           else some (some (.int (nI (kN v x.toNatClampNeg + 1))), oh 9 h (ν v) (uL (uA (SV v) 0 x.toNatClampNeg (nI (kN v x.toNatClampNeg + 1))) 1 (8 * x.toNatClampNeg + kN v x.toNatClampNeg) z)))
         else some (some (.int (-nI 1)), h)) else some (some (.int (-nI 2)), h)) := by
  rw [E_35 _ _ _ _ _ _ rfl]
  have e1 := c_sfind d h σ n SS ν SV w HS hk
  cases hf : fnd (fun i => sJ (SV i) 2) w n with
  | none =>
    rw [hf] at e1
    simp (disch := omega) only [q_35_0, q_35_1, q_35_4, q_35_5, q_35_8, q_35_10, q_35_12, q_35_15, q_35_17, q_35_20, q_35_21, q_35_24, q_35_27, q_35_29, q_35_30, q_35_32, q_35_34, q_35_37, q_35_38, q_35_41, q_35_44, q_35_47, q_35_48, q_35_49, q_35_51, q_35_52, q_35_55, q_35_57, q_35_59, q_35_61, q_35_64, q_35_66, q_35_67, q_35_69, q_35_70, q_35_72, q_35_73, q_35_74, q_35_77, q_35_79, q_35_80, q_35_82, q_35_84, q_35_87, q_35_89, q_35_90, q_35_91, hg_8_5 H, h_is H, h_ob H, ofs_len8, h_is HS, h_ob HS, ofs_len7, ↓reduceIte, k_cr, k_ci, k_oR, k_oN, k_aR, k_aN, and_true, true_and, and_self, eq_self, Nat.reduceLT, Nat.reduceLeDiff, Nat.reduceEqDiff, Nat.reduceAdd, Nat.reduceMul, Bool.true_eq_false, Bool.false_eq_true, Nat.add_sub_cancel, Nat.not_lt_zero, Nat.zero_le, k_sub, k_sb1, k_r, k_n, k_ret, k_t1, k_t0, k_nr, k_nn, k_z0, k_z1, k_zb, x_okI, lit_nI, k_in, k_cl, k_lt, k_le, k_eq, k_neg, nI_add, nI_mul, k_clt, k_cgt, k_cle, k_cge, k_ceq, bI_0, k_sh8, ne_eq, Nat.add_eq_zero_iff, Nat.one_ne_zero, Nat.succ_ne_zero, and_false, false_and, not_false_eq_true, not_true_eq_false, ite_true, ite_false, if_true, if_false, hs, e1, oV]
  | some v =>
    rw [hf] at e1
    have hlt := (fnd_lt hf).1
    have hV := (hk.2.2 v hlt).2
    obtain ⟨k1, k2, k3⟩ := hv v hlt
    have h8 := k3.2.1
    have e3 := c_isRowR d h (κ v) (nM v) x (SK v) k2 k3
    cases hx : inR x 0 (nI (nM v) - nI 1).toInt64 with
    | false =>
      rw [hx, Bool.false_and] at e3
      simp only [hx, Bool.false_eq_true, if_false, false_and]
      simp (disch := omega) only [q_35_0, q_35_1, q_35_4, q_35_5, q_35_8, q_35_10, q_35_12, q_35_15, q_35_17, q_35_20, q_35_21, q_35_24, q_35_27, q_35_29, q_35_30, q_35_32, q_35_34, q_35_37, q_35_38, q_35_41, q_35_44, q_35_47, q_35_48, q_35_49, q_35_51, q_35_52, q_35_55, q_35_57, q_35_59, q_35_61, q_35_64, q_35_66, q_35_67, q_35_69, q_35_70, q_35_72, q_35_73, q_35_74, q_35_77, q_35_79, q_35_80, q_35_82, q_35_84, q_35_87, q_35_89, q_35_90, q_35_91, hg_8_5 H, h_is H, h_ob H, ofs_len8, h_is HS, h_ob HS, ofs_len7, hg_9_5 hV, h_is hV, h_ob hV, ofs_len9, h_is k2, h_ob k2, ofs_len1, ↓reduceIte, k_cr, k_ci, k_oR, k_oN, k_aR, k_aN, and_true, true_and, and_self, eq_self, Nat.reduceLT, Nat.reduceLeDiff, Nat.reduceEqDiff, Nat.reduceAdd, Nat.reduceMul, Bool.true_eq_false, Bool.false_eq_true, Nat.add_sub_cancel, Nat.not_lt_zero, Nat.zero_le, k_sub, k_sb1, k_r, k_n, k_ret, k_t1, k_t0, k_nr, k_nn, k_z0, k_z1, k_zb, x_okI, lit_nI, k_in, k_cl, k_lt, k_le, k_eq, k_neg, nI_add, nI_mul, k_clt, k_cgt, k_cle, k_cge, k_ceq, bI_0, k_sh8, ne_eq, Nat.add_eq_zero_iff, Nat.one_ne_zero, Nat.succ_ne_zero, and_false, false_and, not_false_eq_true, not_true_eq_false, ite_true, ite_false, if_true, if_false, hs, e1, oV, k1, e3]
    | true =>
      rw [hx, Bool.true_and] at e3
      simp only [hx, true_and]
      obtain ⟨i, hi, rfl⟩ := (inR_pred (by omega)).mp hx
      rw [k_cl (by omega)] at e3 ⊢
      obtain ⟨t1, t2⟩ := ht v i hlt hi
      obtain ⟨c1, c2⟩ := hc v i hlt hi
      have e4 := c_typeAt d h (κ v) (nM v) i (SK v) k2 k3 (by omega)
      rw [if_pos hi, t1] at e4
      have e5 := c_isValue d h z (tN v i) t2
      have e7 := c_countOf d h (ν v) i (SV v) hV (by omega)
      rw [if_pos (by omega), c1] at e7
      rw [t1]
      cases hr : kRow (SK v) i with
      | false =>
        rw [hr] at e3
        simp (disch := omega) only [q_35_0, q_35_1, q_35_4, q_35_5, q_35_8, q_35_10, q_35_12, q_35_15, q_35_17, q_35_20, q_35_21, q_35_24, q_35_27, q_35_29, q_35_30, q_35_32, q_35_34, q_35_37, q_35_38, q_35_41, q_35_44, q_35_47, q_35_48, q_35_49, q_35_51, q_35_52, q_35_55, q_35_57, q_35_59, q_35_61, q_35_64, q_35_66, q_35_67, q_35_69, q_35_70, q_35_72, q_35_73, q_35_74, q_35_77, q_35_79, q_35_80, q_35_82, q_35_84, q_35_87, q_35_89, q_35_90, q_35_91, hg_8_5 H, h_is H, h_ob H, ofs_len8, h_is HS, h_ob HS, ofs_len7, hg_9_5 hV, h_is hV, h_ob hV, ofs_len9, h_is k2, h_ob k2, ofs_len1, ↓reduceIte, k_cr, k_ci, k_oR, k_oN, k_aR, k_aN, and_true, true_and, and_self, eq_self, Nat.reduceLT, Nat.reduceLeDiff, Nat.reduceEqDiff, Nat.reduceAdd, Nat.reduceMul, Bool.true_eq_false, Bool.false_eq_true, Nat.add_sub_cancel, Nat.not_lt_zero, Nat.zero_le, k_sub, k_sb1, k_r, k_n, k_ret, k_t1, k_t0, k_nr, k_nn, k_z0, k_z1, k_zb, x_okI, lit_nI, k_in, k_cl, k_lt, k_le, k_eq, k_neg, nI_add, nI_mul, k_clt, k_cgt, k_cle, k_cge, k_ceq, bI_0, k_sh8, ne_eq, Nat.add_eq_zero_iff, Nat.one_ne_zero, Nat.succ_ne_zero, and_false, false_and, not_false_eq_true, not_true_eq_false, ite_true, ite_false, if_true, if_false, hs, e1, oV, k1, e3]
      | true =>
        rw [hr] at e3
        cases hft : fitT (nI (tN v i)) z with
        | false =>
          rw [hft] at e5
          simp (disch := omega) only [q_35_0, q_35_1, q_35_4, q_35_5, q_35_8, q_35_10, q_35_12, q_35_15, q_35_17, q_35_20, q_35_21, q_35_24, q_35_27, q_35_29, q_35_30, q_35_32, q_35_34, q_35_37, q_35_38, q_35_41, q_35_44, q_35_47, q_35_48, q_35_49, q_35_51, q_35_52, q_35_55, q_35_57, q_35_59, q_35_61, q_35_64, q_35_66, q_35_67, q_35_69, q_35_70, q_35_72, q_35_73, q_35_74, q_35_77, q_35_79, q_35_80, q_35_82, q_35_84, q_35_87, q_35_89, q_35_90, q_35_91, hg_8_5 H, h_is H, h_ob H, ofs_len8, h_is HS, h_ob HS, ofs_len7, hg_9_5 hV, h_is hV, h_ob hV, ofs_len9, h_is k2, h_ob k2, ofs_len1, ↓reduceIte, k_cr, k_ci, k_oR, k_oN, k_aR, k_aN, and_true, true_and, and_self, eq_self, Nat.reduceLT, Nat.reduceLeDiff, Nat.reduceEqDiff, Nat.reduceAdd, Nat.reduceMul, Bool.true_eq_false, Bool.false_eq_true, Nat.add_sub_cancel, Nat.not_lt_zero, Nat.zero_le, k_sub, k_sb1, k_r, k_n, k_ret, k_t1, k_t0, k_nr, k_nn, k_z0, k_z1, k_zb, x_okI, lit_nI, k_in, k_cl, k_lt, k_le, k_eq, k_neg, nI_add, nI_mul, k_clt, k_cgt, k_cle, k_cge, k_ceq, bI_0, k_sh8, ne_eq, Nat.add_eq_zero_iff, Nat.one_ne_zero, Nat.succ_ne_zero, and_false, false_and, not_false_eq_true, not_true_eq_false, ite_true, ite_false, if_true, if_false, hs, e1, oV, k1, e3, e4, e5]
        | true =>
          rw [hft] at e5
          by_cases h9 : kN v i = 8
          · rw [h9] at e7
            simp (disch := omega) only [q_35_0, q_35_1, q_35_4, q_35_5, q_35_8, q_35_10, q_35_12, q_35_15, q_35_17, q_35_20, q_35_21, q_35_24, q_35_27, q_35_29, q_35_30, q_35_32, q_35_34, q_35_37, q_35_38, q_35_41, q_35_44, q_35_47, q_35_48, q_35_49, q_35_51, q_35_52, q_35_55, q_35_57, q_35_59, q_35_61, q_35_64, q_35_66, q_35_67, q_35_69, q_35_70, q_35_72, q_35_73, q_35_74, q_35_77, q_35_79, q_35_80, q_35_82, q_35_84, q_35_87, q_35_89, q_35_90, q_35_91, hg_8_5 H, h_is H, h_ob H, ofs_len8, h_is HS, h_ob HS, ofs_len7, hg_9_5 hV, h_is hV, h_ob hV, ofs_len9, h_is k2, h_ob k2, ofs_len1, ↓reduceIte, k_cr, k_ci, k_oR, k_oN, k_aR, k_aN, and_true, true_and, and_self, eq_self, Nat.reduceLT, Nat.reduceLeDiff, Nat.reduceEqDiff, Nat.reduceAdd, Nat.reduceMul, Bool.true_eq_false, Bool.false_eq_true, Nat.add_sub_cancel, Nat.not_lt_zero, Nat.zero_le, k_sub, k_sb1, k_r, k_n, k_ret, k_t1, k_t0, k_nr, k_nn, k_z0, k_z1, k_zb, x_okI, lit_nI, k_in, k_cl, k_lt, k_le, k_eq, k_neg, nI_add, nI_mul, k_clt, k_cgt, k_cle, k_cge, k_ceq, bI_0, k_sh8, ne_eq, Nat.add_eq_zero_iff, Nat.one_ne_zero, Nat.succ_ne_zero, and_false, false_and, not_false_eq_true, not_true_eq_false, ite_true, ite_false, if_true, if_false, hs, e1, oV, k1, e3, e4, e5, e7, h9]
          · have hl : kN v i < 8 := by omega
            have hg : ¬ 8 ≤ kN v i := by omega
            have e8 := c_resize d h (ν v) i (kN v i + 1) (SV v) hV (by omega) (by omega)
            have hV2 : isB 9 (oh 9 h (ν v) (uA (SV v) 0 i (nI (kN v i + 1)))) (ν v) (uA (SV v) 0 i (nI (kN v i + 1))) := isB_oh _ _ _ _
            have e9 := c_put d _ (ν v) i (kN v i) z _ hV2 (by omega) hl
            rw [oh_oh] at e9
            simp (disch := omega) only [q_35_0, q_35_1, q_35_4, q_35_5, q_35_8, q_35_10, q_35_12, q_35_15, q_35_17, q_35_20, q_35_21, q_35_24, q_35_27, q_35_29, q_35_30, q_35_32, q_35_34, q_35_37, q_35_38, q_35_41, q_35_44, q_35_47, q_35_48, q_35_49, q_35_51, q_35_52, q_35_55, q_35_57, q_35_59, q_35_61, q_35_64, q_35_66, q_35_67, q_35_69, q_35_70, q_35_72, q_35_73, q_35_74, q_35_77, q_35_79, q_35_80, q_35_82, q_35_84, q_35_87, q_35_89, q_35_90, q_35_91, hg_8_5 H, h_is H, h_ob H, ofs_len8, h_is HS, h_ob HS, ofs_len7, hg_9_5 hV, h_is hV, h_ob hV, ofs_len9, h_is k2, h_ob k2, ofs_len1, ↓reduceIte, k_cr, k_ci, k_oR, k_oN, k_aR, k_aN, and_true, true_and, and_self, eq_self, Nat.reduceLT, Nat.reduceLeDiff, Nat.reduceEqDiff, Nat.reduceAdd, Nat.reduceMul, Bool.true_eq_false, Bool.false_eq_true, Nat.add_sub_cancel, Nat.not_lt_zero, Nat.zero_le, k_sub, k_sb1, k_r, k_n, k_ret, k_t1, k_t0, k_nr, k_nn, k_z0, k_z1, k_zb, x_okI, lit_nI, k_in, k_cl, k_lt, k_le, k_eq, k_neg, nI_add, nI_mul, k_clt, k_cgt, k_cle, k_cge, k_ceq, bI_0, k_sh8, ne_eq, Nat.add_eq_zero_iff, Nat.one_ne_zero, Nat.succ_ne_zero, and_false, false_and, not_false_eq_true, not_true_eq_false, ite_true, ite_false, if_true, if_false, hs, e1, oV, k1, e3, e4, e5, e7, h9, hl, hg, e8, e9, h_is hV2]
