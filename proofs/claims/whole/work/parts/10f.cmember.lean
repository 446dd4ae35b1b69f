/-! The class: member, forget. -/
theorem inR_t {t : Int32} : inR t 0 7 = false → t < nI 0 ∨ nI 7 < t := by
  intro h
  rcases inR_f (n := 7) (by omega) h with h1 | h1
  · exact Or.inl h1
  · refine Or.inr ?_
    have h2 : nI 8 ≤ t := Int32.not_lt.mp h1
    rw [Int32.lt_iff_toInt_lt]
    have h3 := Int32.le_iff_toInt_le.mp h2
    rw [nI_toInt (by omega)] at h3 ⊢
    omega
theorem c_member (d : Nat) (h : xH) (X σ bd n : Nat) (SX SS S : gS) (b c : Int32) (w : Int64) (t : Int32) (r : Bool) (ρ : Nat → Option Nat) (G : gG) (β : Nat → Nat) (SB : Nat → gS) (κ : Nat → Nat → Nat) (SK : Nat → Nat → gS) (cN mN : Nat → Nat) (H : isB 8 h X SX) (hr : ∀ i, i < 64 → sQ SX 1 i = va_rf (ρ i)) (hρ : ∀ i, i < 64 → (ρ i).isSome = hz S i) (hs : sR SX 5 = .ref σ) (HS : isB 7 h σ SS) (h1 : sI SS 1 = nI bd) (h8 : bd < 8) (h2 : sI SS 2 = nI n) (h60 : n ≤ 60) (hC : cBld G h SX β SB κ SK S cN mN) (hB : bdOK S cN mN) : xm (d + 4) 17 [.ref X, .int b, .int c, .long w, .int t, .int (bI r)] h =
    if inR b 0 7 = true ∧ inR c 0 (nI (cN b.toNatClampNeg) - nI 1).toInt64 = true ∧ isN w = true ∧ fnd (fun i => sL S 3 (8 * (6 * b.toNatClampNeg + c.toNatClampNeg) + i)) w (mN (6 * b.toNatClampNeg + c.toNatClampNeg)) = none ∧ inR t 0 7 = true then
      (if mN (6 * b.toNatClampNeg + c.toNatClampNeg) = 8 then some (some (.int (-nI 3)), h)
       else if fixd S b.toNatClampNeg bd n = true then some (some (.int (-nI 4)), h)
       else some (some (.int (nI (mN (6 * b.toNatClampNeg + c.toNatClampNeg)))), oh 1 h (κ b.toNatClampNeg c.toNatClampNeg) (uI (uA (uA (uL (SK b.toNatClampNeg c.toNatClampNeg) 1 (mN (6 * b.toNatClampNeg + c.toNatClampNeg)) w) 2 (mN (6 * b.toNatClampNeg + c.toNatClampNeg)) t) 3 (mN (6 * b.toNatClampNeg + c.toNatClampNeg)) (bI r)) 4 (nI (mN (6 * b.toNatClampNeg + c.toNatClampNeg) + 1)))))
    else some (some (.int (-nI 2)), h) := by
  rw [E_17 _ _ _ _ _ _ _ _ rfl]
  cases hb : inR b 0 7 with
  | false =>
    have e1 := c_buildAt_n (d + 2) h X b SX H hb
    simp (disch := omega) only [q_17_0, q_17_1, q_17_2, q_17_5, q_17_7, q_17_9, q_17_12, q_17_13, q_17_16, q_17_18, q_17_19, q_17_22, q_17_24, q_17_26, q_17_29, q_17_30, q_17_33, q_17_36, q_17_38, q_17_39, q_17_42, q_17_43, q_17_46, q_17_48, q_17_51, q_17_53, q_17_55, q_17_58, q_17_60, q_17_61, q_17_63, q_17_66, q_17_68, q_17_71, q_17_73, q_17_74, q_17_75, q_17_76, q_17_79, q_17_82, q_17_84, q_17_87, q_17_89, q_17_90, q_17_92, q_17_94, q_17_97, h_is H, h_ob H, ofs_len8, k_cr, k_ci, k_oR, k_oN, k_aR, k_aN, and_true, true_and, and_self, eq_self, Nat.reduceLT, Nat.reduceLeDiff, Nat.reduceEqDiff, Nat.reduceAdd, Nat.reduceMul, Bool.true_eq_false, Bool.false_eq_true, Nat.add_sub_cancel, Nat.not_lt_zero, Nat.zero_le, k_sub, k_sb1, k_r, k_n, k_ret, k_t1, k_t0, k_nr, k_nn, k_z0, k_z1, k_zb, x_okI, lit_nI, k_in, k_cl, k_lt, k_le, k_eq, k_neg, nI_add, nI_mul, k_clt, k_cgt, k_cle, k_cge, k_ceq, bI_0, k_sh8, ne_eq, Nat.add_eq_zero_iff, Nat.one_ne_zero, Nat.succ_ne_zero, and_false, false_and, not_false_eq_true, not_true_eq_false, ite_true, ite_false, if_true, if_false, e1, Bool.false_eq_true, false_and]
  | true =>
    obtain ⟨a, ha, rfl⟩ := inR_of (hi := 7) (by omega) hb
    rw [k_cl (by omega)]
    obtain ⟨f1, f2, f3, f4⟩ := hC.1 a (by omega)
    have hF := f2.1
    have hbo := hC.bOK hB (b := a) (by omega)
    have hc6 := hbo.2.1
    have e1 := c_buildAt (d + 2) h X a (β a) SX H (by omega) f1
    have e2 := c_kindAtR (d + 2) h (β a) (cN a) c (SB a) (κ a) (SK a) hF hbo
    cases hc : inR c 0 (nI (cN a) - nI 1).toInt64 with
    | false =>
      rw [hc, if_neg (by decide)] at e2
      simp only [Bool.false_eq_true, false_and, and_false, if_false]
      simp (disch := omega) only [q_17_0, q_17_1, q_17_2, q_17_5, q_17_7, q_17_9, q_17_12, q_17_13, q_17_16, q_17_18, q_17_19, q_17_22, q_17_24, q_17_26, q_17_29, q_17_30, q_17_33, q_17_36, q_17_38, q_17_39, q_17_42, q_17_43, q_17_46, q_17_48, q_17_51, q_17_53, q_17_55, q_17_58, q_17_60, q_17_61, q_17_63, q_17_66, q_17_68, q_17_71, q_17_73, q_17_74, q_17_75, q_17_76, q_17_79, q_17_82, q_17_84, q_17_87, q_17_89, q_17_90, q_17_92, q_17_94, q_17_97, h_is H, h_ob H, ofs_len8, h_is hF, h_ob hF, ofs_len2, k_cr, k_ci, k_oR, k_oN, k_aR, k_aN, and_true, true_and, and_self, eq_self, Nat.reduceLT, Nat.reduceLeDiff, Nat.reduceEqDiff, Nat.reduceAdd, Nat.reduceMul, Bool.true_eq_false, Bool.false_eq_true, Nat.add_sub_cancel, Nat.not_lt_zero, Nat.zero_le, k_sub, k_sb1, k_r, k_n, k_ret, k_t1, k_t0, k_nr, k_nn, k_z0, k_z1, k_zb, x_okI, lit_nI, k_in, k_cl, k_lt, k_le, k_eq, k_neg, nI_add, nI_mul, k_clt, k_cgt, k_cle, k_cge, k_ceq, bI_0, k_sh8, ne_eq, Nat.add_eq_zero_iff, Nat.one_ne_zero, Nat.succ_ne_zero, and_false, false_and, not_false_eq_true, not_true_eq_false, ite_true, ite_false, if_true, if_false, e1, e2]
    | true =>
      rw [hc, if_pos rfl] at e2
      obtain ⟨q, hq, rfl⟩ := (inR_pred (by omega)).mp hc
      rw [k_cl (by omega)] at e2 ⊢
      obtain ⟨g1, g2, g3, g4, g5⟩ := hC.2.1 a q (by omega) hq
      have hK := g2.1
      have m8 := g3.2.1
      have e3 := c_isName (d + 1) h w
      have e4 := c_kfind (d + 2) h (κ a q) (mN (6 * a + q)) (SK a q) w hK g3
      rw [fnd_congr (g := fun i => sL S 3 (8 * (6 * a + q) + i)) (fun i hi => (g5 i hi).1)] at e4
      have e5 := c_isInUse (d + 1) h X a σ bd n SX SS ρ H (by omega) hr hs HS h1 h8 h2 h60
      rw [inuB_fix hρ (by omega) 8 0 (by omega)] at e5
      simp only [true_and]
      cases hN : isN w with
      | false =>
        rw [hN] at e3
        simp (disch := omega) only [q_17_0, q_17_1, q_17_2, q_17_5, q_17_7, q_17_9, q_17_12, q_17_13, q_17_16, q_17_18, q_17_19, q_17_22, q_17_24, q_17_26, q_17_29, q_17_30, q_17_33, q_17_36, q_17_38, q_17_39, q_17_42, q_17_43, q_17_46, q_17_48, q_17_51, q_17_53, q_17_55, q_17_58, q_17_60, q_17_61, q_17_63, q_17_66, q_17_68, q_17_71, q_17_73, q_17_74, q_17_75, q_17_76, q_17_79, q_17_82, q_17_84, q_17_87, q_17_89, q_17_90, q_17_92, q_17_94, q_17_97, h_is H, h_ob H, ofs_len8, h_is hF, h_ob hF, ofs_len2, hg_1_4 hK, h_is hK, h_ob hK, ofs_len1, k_cr, k_ci, k_oR, k_oN, k_aR, k_aN, and_true, true_and, and_self, eq_self, Nat.reduceLT, Nat.reduceLeDiff, Nat.reduceEqDiff, Nat.reduceAdd, Nat.reduceMul, Bool.true_eq_false, Bool.false_eq_true, Nat.add_sub_cancel, Nat.not_lt_zero, Nat.zero_le, k_sub, k_sb1, k_r, k_n, k_ret, k_t1, k_t0, k_nr, k_nn, k_z0, k_z1, k_zb, x_okI, lit_nI, k_in, k_cl, k_lt, k_le, k_eq, k_neg, nI_add, nI_mul, k_clt, k_cgt, k_cle, k_cge, k_ceq, bI_0, k_sh8, ne_eq, Nat.add_eq_zero_iff, Nat.one_ne_zero, Nat.succ_ne_zero, and_false, false_and, not_false_eq_true, not_true_eq_false, ite_true, ite_false, if_true, if_false, e1, e2, e3, Bool.false_eq_true, false_and]
      | true =>
        rw [hN] at e3
        cases hf : fnd (fun i => sL S 3 (8 * (6 * a + q) + i)) w (mN (6 * a + q)) with
        | some i =>
          rw [hf] at e4
          have := fnd_lt hf
          have z1 : (oI (some i) = -nI 1) = False := k_neg (by omega)
          simp (disch := omega) only [q_17_0, q_17_1, q_17_2, q_17_5, q_17_7, q_17_9, q_17_12, q_17_13, q_17_16, q_17_18, q_17_19, q_17_22, q_17_24, q_17_26, q_17_29, q_17_30, q_17_33, q_17_36, q_17_38, q_17_39, q_17_42, q_17_43, q_17_46, q_17_48, q_17_51, q_17_53, q_17_55, q_17_58, q_17_60, q_17_61, q_17_63, q_17_66, q_17_68, q_17_71, q_17_73, q_17_74, q_17_75, q_17_76, q_17_79, q_17_82, q_17_84, q_17_87, q_17_89, q_17_90, q_17_92, q_17_94, q_17_97, h_is H, h_ob H, ofs_len8, h_is hF, h_ob hF, ofs_len2, hg_1_4 hK, h_is hK, h_ob hK, ofs_len1, k_cr, k_ci, k_oR, k_oN, k_aR, k_aN, and_true, true_and, and_self, eq_self, Nat.reduceLT, Nat.reduceLeDiff, Nat.reduceEqDiff, Nat.reduceAdd, Nat.reduceMul, Bool.true_eq_false, Bool.false_eq_true, Nat.add_sub_cancel, Nat.not_lt_zero, Nat.zero_le, k_sub, k_sb1, k_r, k_n, k_ret, k_t1, k_t0, k_nr, k_nn, k_z0, k_z1, k_zb, x_okI, lit_nI, k_in, k_cl, k_lt, k_le, k_eq, k_neg, nI_add, nI_mul, k_clt, k_cgt, k_cle, k_cge, k_ceq, bI_0, k_sh8, ne_eq, Nat.add_eq_zero_iff, Nat.one_ne_zero, Nat.succ_ne_zero, and_false, false_and, not_false_eq_true, not_true_eq_false, ite_true, ite_false, if_true, if_false, e1, e2, e3, e4, z1, reduceCtorEq, false_and, and_false]
        | none =>
          rw [hf] at e4
          have z1 : (oI none = -nI 1) = True := eq_self _
          cases ht : inR t 0 7 with
          | false =>
            simp only [Bool.false_eq_true, and_false, if_false]
            rcases inR_t ht with t1 | t1
            · simp (disch := omega) only [q_17_0, q_17_1, q_17_2, q_17_5, q_17_7, q_17_9, q_17_12, q_17_13, q_17_16, q_17_18, q_17_19, q_17_22, q_17_24, q_17_26, q_17_29, q_17_30, q_17_33, q_17_36, q_17_38, q_17_39, q_17_42, q_17_43, q_17_46, q_17_48, q_17_51, q_17_53, q_17_55, q_17_58, q_17_60, q_17_61, q_17_63, q_17_66, q_17_68, q_17_71, q_17_73, q_17_74, q_17_75, q_17_76, q_17_79, q_17_82, q_17_84, q_17_87, q_17_89, q_17_90, q_17_92, q_17_94, q_17_97, h_is H, h_ob H, ofs_len8, h_is hF, h_ob hF, ofs_len2, hg_1_4 hK, h_is hK, h_ob hK, ofs_len1, k_cr, k_ci, k_oR, k_oN, k_aR, k_aN, and_true, true_and, and_self, eq_self, Nat.reduceLT, Nat.reduceLeDiff, Nat.reduceEqDiff, Nat.reduceAdd, Nat.reduceMul, Bool.true_eq_false, Bool.false_eq_true, Nat.add_sub_cancel, Nat.not_lt_zero, Nat.zero_le, k_sub, k_sb1, k_r, k_n, k_ret, k_t1, k_t0, k_nr, k_nn, k_z0, k_z1, k_zb, x_okI, lit_nI, k_in, k_cl, k_lt, k_le, k_eq, k_neg, nI_add, nI_mul, k_clt, k_cgt, k_cle, k_cge, k_ceq, bI_0, k_sh8, ne_eq, Nat.add_eq_zero_iff, Nat.one_ne_zero, Nat.succ_ne_zero, and_false, false_and, not_false_eq_true, not_true_eq_false, ite_true, ite_false, if_true, if_false, e1, e2, e3, e4, z1, t1]
            · by_cases t2 : t < nI 0
              · simp (disch := omega) only [q_17_0, q_17_1, q_17_2, q_17_5, q_17_7, q_17_9, q_17_12, q_17_13, q_17_16, q_17_18, q_17_19, q_17_22, q_17_24, q_17_26, q_17_29, q_17_30, q_17_33, q_17_36, q_17_38, q_17_39, q_17_42, q_17_43, q_17_46, q_17_48, q_17_51, q_17_53, q_17_55, q_17_58, q_17_60, q_17_61, q_17_63, q_17_66, q_17_68, q_17_71, q_17_73, q_17_74, q_17_75, q_17_76, q_17_79, q_17_82, q_17_84, q_17_87, q_17_89, q_17_90, q_17_92, q_17_94, q_17_97, h_is H, h_ob H, ofs_len8, h_is hF, h_ob hF, ofs_len2, hg_1_4 hK, h_is hK, h_ob hK, ofs_len1, k_cr, k_ci, k_oR, k_oN, k_aR, k_aN, and_true, true_and, and_self, eq_self, Nat.reduceLT, Nat.reduceLeDiff, Nat.reduceEqDiff, Nat.reduceAdd, Nat.reduceMul, Bool.true_eq_false, Bool.false_eq_true, Nat.add_sub_cancel, Nat.not_lt_zero, Nat.zero_le, k_sub, k_sb1, k_r, k_n, k_ret, k_t1, k_t0, k_nr, k_nn, k_z0, k_z1, k_zb, x_okI, lit_nI, k_in, k_cl, k_lt, k_le, k_eq, k_neg, nI_add, nI_mul, k_clt, k_cgt, k_cle, k_cge, k_ceq, bI_0, k_sh8, ne_eq, Nat.add_eq_zero_iff, Nat.one_ne_zero, Nat.succ_ne_zero, and_false, false_and, not_false_eq_true, not_true_eq_false, ite_true, ite_false, if_true, if_false, e1, e2, e3, e4, z1, t2]
              · have t3 : ¬ t ≤ nI 7 := Int32.not_le.mpr t1
                simp (disch := omega) only [q_17_0, q_17_1, q_17_2, q_17_5, q_17_7, q_17_9, q_17_12, q_17_13, q_17_16, q_17_18, q_17_19, q_17_22, q_17_24, q_17_26, q_17_29, q_17_30, q_17_33, q_17_36, q_17_38, q_17_39, q_17_42, q_17_43, q_17_46, q_17_48, q_17_51, q_17_53, q_17_55, q_17_58, q_17_60, q_17_61, q_17_63, q_17_66, q_17_68, q_17_71, q_17_73, q_17_74, q_17_75, q_17_76, q_17_79, q_17_82, q_17_84, q_17_87, q_17_89, q_17_90, q_17_92, q_17_94, q_17_97, h_is H, h_ob H, ofs_len8, h_is hF, h_ob hF, ofs_len2, hg_1_4 hK, h_is hK, h_ob hK, ofs_len1, k_cr, k_ci, k_oR, k_oN, k_aR, k_aN, and_true, true_and, and_self, eq_self, Nat.reduceLT, Nat.reduceLeDiff, Nat.reduceEqDiff, Nat.reduceAdd, Nat.reduceMul, Bool.true_eq_false, Bool.false_eq_true, Nat.add_sub_cancel, Nat.not_lt_zero, Nat.zero_le, k_sub, k_sb1, k_r, k_n, k_ret, k_t1, k_t0, k_nr, k_nn, k_z0, k_z1, k_zb, x_okI, lit_nI, k_in, k_cl, k_lt, k_le, k_eq, k_neg, nI_add, nI_mul, k_clt, k_cgt, k_cle, k_cge, k_ceq, bI_0, k_sh8, ne_eq, Nat.add_eq_zero_iff, Nat.one_ne_zero, Nat.succ_ne_zero, and_false, false_and, not_false_eq_true, not_true_eq_false, ite_true, ite_false, if_true, if_false, e1, e2, e3, e4, z1, t1, t2, t3]
          | true =>
            obtain ⟨tt, htt, rfl⟩ := inR_of (hi := 7) (by omega) ht
            have t2 : ¬ 7 < tt := by omega
            by_cases h9 : mN (6 * a + q) = 8
            · have k4 := g3.1
              rw [h9] at k4
              simp (disch := omega) only [q_17_0, q_17_1, q_17_2, q_17_5, q_17_7, q_17_9, q_17_12, q_17_13, q_17_16, q_17_18, q_17_19, q_17_22, q_17_24, q_17_26, q_17_29, q_17_30, q_17_33, q_17_36, q_17_38, q_17_39, q_17_42, q_17_43, q_17_46, q_17_48, q_17_51, q_17_53, q_17_55, q_17_58, q_17_60, q_17_61, q_17_63, q_17_66, q_17_68, q_17_71, q_17_73, q_17_74, q_17_75, q_17_76, q_17_79, q_17_82, q_17_84, q_17_87, q_17_89, q_17_90, q_17_92, q_17_94, q_17_97, h_is H, h_ob H, ofs_len8, h_is hF, h_ob hF, ofs_len2, hg_1_4 hK, h_is hK, h_ob hK, ofs_len1, k_cr, k_ci, k_oR, k_oN, k_aR, k_aN, and_true, true_and, and_self, eq_self, Nat.reduceLT, Nat.reduceLeDiff, Nat.reduceEqDiff, Nat.reduceAdd, Nat.reduceMul, Bool.true_eq_false, Bool.false_eq_true, Nat.add_sub_cancel, Nat.not_lt_zero, Nat.zero_le, k_sub, k_sb1, k_r, k_n, k_ret, k_t1, k_t0, k_nr, k_nn, k_z0, k_z1, k_zb, x_okI, lit_nI, k_in, k_cl, k_lt, k_le, k_eq, k_neg, nI_add, nI_mul, k_clt, k_cgt, k_cle, k_cge, k_ceq, bI_0, k_sh8, ne_eq, Nat.add_eq_zero_iff, Nat.one_ne_zero, Nat.succ_ne_zero, and_false, false_and, not_false_eq_true, not_true_eq_false, ite_true, ite_false, if_true, if_false, e1, e2, e3, e4, z1, htt, t2, k4, h9]
            · have k4 := g3.1
              have h5 : ¬ 8 ≤ mN (6 * a + q) := by omega
              have h4 : mN (6 * a + q) < 8 := by omega
              have e6 := c_kappend (d + 2) h (κ a q) (mN (6 * a + q)) (SK a q) w (nI tt) r hK g3 h4
              cases hx : fixd S a bd n with
              | true =>
                rw [show ((decide (bd = a) && decide (0 < n)) || orF (fixB S a) 8 0) = true from hx] at e5
                simp (disch := omega) only [q_17_0, q_17_1, q_17_2, q_17_5, q_17_7, q_17_9, q_17_12, q_17_13, q_17_16, q_17_18, q_17_19, q_17_22, q_17_24, q_17_26, q_17_29, q_17_30, q_17_33, q_17_36, q_17_38, q_17_39, q_17_42, q_17_43, q_17_46, q_17_48, q_17_51, q_17_53, q_17_55, q_17_58, q_17_60, q_17_61, q_17_63, q_17_66, q_17_68, q_17_71, q_17_73, q_17_74, q_17_75, q_17_76, q_17_79, q_17_82, q_17_84, q_17_87, q_17_89, q_17_90, q_17_92, q_17_94, q_17_97, h_is H, h_ob H, ofs_len8, h_is hF, h_ob hF, ofs_len2, hg_1_4 hK, h_is hK, h_ob hK, ofs_len1, k_cr, k_ci, k_oR, k_oN, k_aR, k_aN, and_true, true_and, and_self, eq_self, Nat.reduceLT, Nat.reduceLeDiff, Nat.reduceEqDiff, Nat.reduceAdd, Nat.reduceMul, Bool.true_eq_false, Bool.false_eq_true, Nat.add_sub_cancel, Nat.not_lt_zero, Nat.zero_le, k_sub, k_sb1, k_r, k_n, k_ret, k_t1, k_t0, k_nr, k_nn, k_z0, k_z1, k_zb, x_okI, lit_nI, k_in, k_cl, k_lt, k_le, k_eq, k_neg, nI_add, nI_mul, k_clt, k_cgt, k_cle, k_cge, k_ceq, bI_0, k_sh8, ne_eq, Nat.add_eq_zero_iff, Nat.one_ne_zero, Nat.succ_ne_zero, and_false, false_and, not_false_eq_true, not_true_eq_false, ite_true, ite_false, if_true, if_false, e1, e2, e3, e4, z1, htt, t2, k4, h9, h5, h4, e5]
              | false =>
                rw [show ((decide (bd = a) && decide (0 < n)) || orF (fixB S a) 8 0) = false from hx] at e5
                simp (disch := omega) only [q_17_0, q_17_1, q_17_2, q_17_5, q_17_7, q_17_9, q_17_12, q_17_13, q_17_16, q_17_18, q_17_19, q_17_22, q_17_24, q_17_26, q_17_29, q_17_30, q_17_33, q_17_36, q_17_38, q_17_39, q_17_42, q_17_43, q_17_46, q_17_48, q_17_51, q_17_53, q_17_55, q_17_58, q_17_60, q_17_61, q_17_63, q_17_66, q_17_68, q_17_71, q_17_73, q_17_74, q_17_75, q_17_76, q_17_79, q_17_82, q_17_84, q_17_87, q_17_89, q_17_90, q_17_92, q_17_94, q_17_97, h_is H, h_ob H, ofs_len8, h_is hF, h_ob hF, ofs_len2, hg_1_4 hK, h_is hK, h_ob hK, ofs_len1, k_cr, k_ci, k_oR, k_oN, k_aR, k_aN, and_true, true_and, and_self, eq_self, Nat.reduceLT, Nat.reduceLeDiff, Nat.reduceEqDiff, Nat.reduceAdd, Nat.reduceMul, Bool.true_eq_false, Bool.false_eq_true, Nat.add_sub_cancel, Nat.not_lt_zero, Nat.zero_le, k_sub, k_sb1, k_r, k_n, k_ret, k_t1, k_t0, k_nr, k_nn, k_z0, k_z1, k_zb, x_okI, lit_nI, k_in, k_cl, k_lt, k_le, k_eq, k_neg, nI_add, nI_mul, k_clt, k_cgt, k_cle, k_cge, k_ceq, bI_0, k_sh8, ne_eq, Nat.add_eq_zero_iff, Nat.one_ne_zero, Nat.succ_ne_zero, and_false, false_and, not_false_eq_true, not_true_eq_false, ite_true, ite_false, if_true, if_false, e1, e2, e3, e4, z1, htt, t2, k4, h9, h5, h4, e5, e6]
theorem c_forget (d : Nat) (h : xH) (X : Nat) (SX : gS) (f t : Int32) (ρ : Nat → Option Nat) (rc : Nat) (H : isB 8 h X SX) (hr : ∀ i, i < 64 → sQ SX 1 i = va_rf (ρ i)) (hrc : sI SX 9 = nI rc) : xm (d + 2) 72 [.ref X, .int f, .int t] h = if inR f 0 7 = true ∧ inR t 0 7 = true ∧ (ρ (8 * f.toNatClampNeg + t.toNatClampNeg)).isSome = true then some (some (.int (nI 1)), oh 8 h X (uI (uQ SX 1 (8 * f.toNatClampNeg + t.toNatClampNeg) .null) 9 (nI rc - nI 1))) else some (some (.int (nI 0)), h) := by
  rw [E_72 _ _ _ _ _ rfl]
  cases hf : inR f 0 7 with
  | false =>
    have e1 := c_rulesFrom_n d h X f t SX H (Or.inl hf)
    simp (disch := omega) only [q_72_0, q_72_1, q_72_2, q_72_3, q_72_6, q_72_9, q_72_10, q_72_11, q_72_12, q_72_15, q_72_16, q_72_18, q_72_19, q_72_20, q_72_21, q_72_22, q_72_23, q_72_24, q_72_25, q_72_28, q_72_29, q_72_30, q_72_33, q_72_34, hg_8_1 H, hr_8_1 H, hw_8_1 H, hn_8_1 H, hg_8_9 H, hp_8_9 H, h_is H, h_ob H, ofs_len8, k_cr, k_ci, k_oR, k_oN, k_aR, k_aN, and_true, true_and, and_self, eq_self, Nat.reduceLT, Nat.reduceLeDiff, Nat.reduceEqDiff, Nat.reduceAdd, Nat.reduceMul, Bool.true_eq_false, Bool.false_eq_true, Nat.add_sub_cancel, Nat.not_lt_zero, Nat.zero_le, k_sub, k_sb1, k_r, k_n, k_ret, k_t1, k_t0, k_nr, k_nn, k_z0, k_z1, k_zb, x_okI, lit_nI, k_in, k_cl, k_lt, k_le, k_eq, k_neg, nI_add, nI_mul, k_clt, k_cgt, k_cle, k_cge, k_ceq, bI_0, k_sh8, ne_eq, Nat.add_eq_zero_iff, Nat.one_ne_zero, Nat.succ_ne_zero, and_false, false_and, not_false_eq_true, not_true_eq_false, ite_true, ite_false, if_true, if_false, e1, Bool.false_eq_true, false_and]
  | true =>
    cases ht : inR t 0 7 with
    | false =>
      have e1 := c_rulesFrom_n d h X f t SX H (Or.inr ht)
      simp (disch := omega) only [q_72_0, q_72_1, q_72_2, q_72_3, q_72_6, q_72_9, q_72_10, q_72_11, q_72_12, q_72_15, q_72_16, q_72_18, q_72_19, q_72_20, q_72_21, q_72_22, q_72_23, q_72_24, q_72_25, q_72_28, q_72_29, q_72_30, q_72_33, q_72_34, hg_8_1 H, hr_8_1 H, hw_8_1 H, hn_8_1 H, hg_8_9 H, hp_8_9 H, h_is H, h_ob H, ofs_len8, k_cr, k_ci, k_oR, k_oN, k_aR, k_aN, and_true, true_and, and_self, eq_self, Nat.reduceLT, Nat.reduceLeDiff, Nat.reduceEqDiff, Nat.reduceAdd, Nat.reduceMul, Bool.true_eq_false, Bool.false_eq_true, Nat.add_sub_cancel, Nat.not_lt_zero, Nat.zero_le, k_sub, k_sb1, k_r, k_n, k_ret, k_t1, k_t0, k_nr, k_nn, k_z0, k_z1, k_zb, x_okI, lit_nI, k_in, k_cl, k_lt, k_le, k_eq, k_neg, nI_add, nI_mul, k_clt, k_cgt, k_cle, k_cge, k_ceq, bI_0, k_sh8, ne_eq, Nat.add_eq_zero_iff, Nat.one_ne_zero, Nat.succ_ne_zero, and_false, false_and, not_false_eq_true, not_true_eq_false, ite_true, ite_false, if_true, if_false, e1, Bool.false_eq_true, false_and, and_false]
    | true =>
      obtain ⟨a, ha, rfl⟩ := inR_of (hi := 7) (by omega) hf
      obtain ⟨b, hb, rfl⟩ := inR_of (hi := 7) (by omega) ht
      rw [k_cl (by omega), k_cl (by omega)]
      have e1 := c_rulesFrom d h X a b SX ρ H (by omega) (by omega) (hr _ (by omega))
      cases hp : ρ (8 * a + b) with
      | none =>
        rw [hp] at e1
        simp (disch := omega) only [q_72_0, q_72_1, q_72_2, q_72_3, q_72_6, q_72_9, q_72_10, q_72_11, q_72_12, q_72_15, q_72_16, q_72_18, q_72_19, q_72_20, q_72_21, q_72_22, q_72_23, q_72_24, q_72_25, q_72_28, q_72_29, q_72_30, q_72_33, q_72_34, hg_8_1 H, hr_8_1 H, hw_8_1 H, hn_8_1 H, hg_8_9 H, hp_8_9 H, h_is H, h_ob H, ofs_len8, k_cr, k_ci, k_oR, k_oN, k_aR, k_aN, and_true, true_and, and_self, eq_self, Nat.reduceLT, Nat.reduceLeDiff, Nat.reduceEqDiff, Nat.reduceAdd, Nat.reduceMul, Bool.true_eq_false, Bool.false_eq_true, Nat.add_sub_cancel, Nat.not_lt_zero, Nat.zero_le, k_sub, k_sb1, k_r, k_n, k_ret, k_t1, k_t0, k_nr, k_nn, k_z0, k_z1, k_zb, x_okI, lit_nI, k_in, k_cl, k_lt, k_le, k_eq, k_neg, nI_add, nI_mul, k_clt, k_cgt, k_cle, k_cge, k_ceq, bI_0, k_sh8, ne_eq, Nat.add_eq_zero_iff, Nat.one_ne_zero, Nat.succ_ne_zero, and_false, false_and, not_false_eq_true, not_true_eq_false, ite_true, ite_false, if_true, if_false, e1, va_rf, Option.isSome_none, Bool.false_eq_true, and_false]
      | some z =>
        rw [hp] at e1
        simp (disch := omega) only [q_72_0, q_72_1, q_72_2, q_72_3, q_72_6, q_72_9, q_72_10, q_72_11, q_72_12, q_72_15, q_72_16, q_72_18, q_72_19, q_72_20, q_72_21, q_72_22, q_72_23, q_72_24, q_72_25, q_72_28, q_72_29, q_72_30, q_72_33, q_72_34, hg_8_1 H, hr_8_1 H, hw_8_1 H, hn_8_1 H, hg_8_9 H, hp_8_9 H, h_is H, h_ob H, ofs_len8, q_72_0, q_72_1, q_72_2, q_72_3, q_72_6, q_72_9, q_72_10, q_72_11, q_72_12, q_72_15, q_72_16, q_72_18, q_72_19, q_72_20, q_72_21, q_72_22, q_72_23, q_72_24, q_72_25, q_72_28, q_72_29, q_72_30, q_72_33, q_72_34, og_8_1, or_8_1, ow_8_1, on_8_1, og_8_9, op_8_9, o_is, o_ob, ofs_len8, k_cr, k_ci, k_oR, k_oN, k_aR, k_aN, and_true, true_and, and_self, eq_self, Nat.reduceLT, Nat.reduceLeDiff, Nat.reduceEqDiff, Nat.reduceAdd, Nat.reduceMul, Bool.true_eq_false, Bool.false_eq_true, Nat.add_sub_cancel, Nat.not_lt_zero, Nat.zero_le, k_sub, k_sb1, k_r, k_n, k_ret, k_t1, k_t0, k_nr, k_nn, k_z0, k_z1, k_zb, x_okI, lit_nI, k_in, k_cl, k_lt, k_le, k_eq, k_neg, nI_add, nI_mul, k_clt, k_cgt, k_cle, k_cge, k_ceq, bI_0, k_sh8, ne_eq, Nat.add_eq_zero_iff, Nat.one_ne_zero, Nat.succ_ne_zero, and_false, false_and, not_false_eq_true, not_true_eq_false, ite_true, ite_false, if_true, if_false, sI_uI, sJ_uI, sA_uI, sL_uI, sR_uI, sQ_uI, sI_uJ, sJ_uJ, sA_uJ, sL_uJ, sR_uJ, sQ_uJ, sI_uA, sJ_uA, sA_uA, sL_uA, sR_uA, sQ_uA, sI_uL, sJ_uL, sA_uL, sL_uL, sR_uL, sQ_uL, sI_uR, sJ_uR, sA_uR, sL_uR, sR_uR, sQ_uR, sI_uQ, sJ_uQ, sA_uQ, sL_uQ, sR_uQ, sQ_uQ, e1, va_rf, Option.isSome_some, Nat.mul_comm a 8, hrc]
