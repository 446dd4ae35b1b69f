/-! type() of the class. -/
theorem c_isInUse (d : Nat) (h : xH) (X b σ bd n : Nat) (SX SS : gS) (ρ : Nat → Option Nat) (H : isB 8 h X SX) (hb : b < 8) (hr : ∀ i, i < 64 → sQ SX 1 i = va_rf (ρ i)) (hs : sR SX 5 = .ref σ) (HS : isB 7 h σ SS) (h1 : sI SS 1 = nI bd) (h8 : bd < 8) (h2 : sI SS 2 = nI n) (h60 : n ≤ 60) : xm (d + 2) 14 [.ref X, .int (nI b)] h = some (some (.int (bI ((decide (bd = b) && decide (0 < n)) || orF (inuB ρ b) 8 0))), h) := by
  rw [E_14 _ _ _ _ rfl]
  have hl := c_isInUse_loop d h X b SX ρ H hb hr 8 0 (by omega)
  simp (disch := omega) only [q_14_0, q_14_1, q_14_4, q_14_7, q_14_8, q_14_11, q_14_12, q_14_15, q_14_18, q_14_21, q_14_22, q_14_23, q_14_24, q_14_26, q_14_28, q_14_31, q_14_32, q_14_33, q_14_34, q_14_37, q_14_40, q_14_41, q_14_42, q_14_43, q_14_46, q_14_49, q_14_50, q_14_51, q_14_54, q_14_57, q_14_58, hg_8_5 H, h_is H, h_ob H, ofs_len8, hg_7_1 HS, hg_7_2 HS, h_is HS, h_ob HS, ofs_len7, k_cr, k_ci, k_oR, k_oN, k_aR, k_aN, and_true, true_and, and_self, eq_self, Nat.reduceLT, Nat.reduceLeDiff, Nat.reduceEqDiff, Nat.reduceAdd, Nat.reduceMul, Bool.true_eq_false, Bool.false_eq_true, Nat.add_sub_cancel, Nat.not_lt_zero, Nat.zero_le, k_sub, k_sb1, k_r, k_n, k_ret, k_t1, k_t0, k_nr, k_nn, k_z0, k_z1, k_zb, x_okI, lit_nI, k_in, k_cl, k_lt, k_le, k_eq, k_neg, nI_add, nI_mul, k_clt, k_cgt, k_cle, k_cge, k_ceq, bI_0, k_sh8, ne_eq, Nat.add_eq_zero_iff, Nat.one_ne_zero, Nat.succ_ne_zero, and_false, false_and, not_false_eq_true, not_true_eq_false, ite_true, ite_false, if_true, if_false, hs, h1, h2, hl]
  by_cases e1 : bd = b
  · by_cases e2 : 0 < n
    · have e3 : ¬ n ≤ 0 := by omega
      simp [e1, e2, e3, bI]
    · have e3 : n ≤ 0 := by omega
      simp [e1, e2, e3]
  · simp [e1]
theorem inuB_fix {S : gS} {ρ : Nat → Option Nat} (h : ∀ i, i < 64 → (ρ i).isSome = hz S i) {b : Nat} (hb : b < 8) : ∀ (k i : Nat), i + k ≤ 8 → orF (inuB ρ b) k i = orF (fixB S b) k i
  | 0, i, hi => rfl
  | k + 1, i, hi => by
    rw [orF_s, orF_s, inuB_fix h hb k (i + 1) (by omega)]
    unfold inuB fixB
    rw [h _ (by omega), h _ (by omega)]
theorem c_type (d : Nat) (h : xH) (X σ bd n : Nat) (SX SS S : gS) (b : Int32) (w : Int64) (ρ : Nat → Option Nat) (G : gG) (β : Nat → Nat) (SB : Nat → gS) (κ : Nat → Nat → Nat) (SK : Nat → Nat → gS) (cN mN : Nat → Nat) (H : isB 8 h X SX) (hr : ∀ i, i < 64 → sQ SX 1 i = va_rf (ρ i)) (hρ : ∀ i, i < 64 → (ρ i).isSome = hz S i) (hs : sR SX 5 = .ref σ) (HS : isB 7 h σ SS) (h1 : sI SS 1 = nI bd) (h8 : bd < 8) (h2 : sI SS 2 = nI n) (h60 : n ≤ 60) (hC : cBld G h SX β SB κ SK S cN mN) (hB : bdOK S cN mN) : xm (d + 4) 9 [.ref X, .int b, .long w] h =
    if inR b 0 7 = true ∧ isN w = true ∧ fnd (fun c => sL S 1 (6 * b.toNatClampNeg + c)) w (cN b.toNatClampNeg) = none then
      (if cN b.toNatClampNeg = 6 then some (some (.int (-nI 3)), h)
       else if fixd S b.toNatClampNeg bd n = true then some (some (.int (-nI 4)), h)
       else some (some (.int (nI (cN b.toNatClampNeg))), oh 2 (oh 1 (grow h 4 29) h.2.2.1 (K0 w)) (β b.toNatClampNeg) (uI (uQ (SB b.toNatClampNeg) 0 (cN b.toNatClampNeg) (.ref h.2.2.1)) 1 (nI (cN b.toNatClampNeg + 1)))))
    else some (some (.int (-nI 2)), h) := by
  rw [E_9 _ _ _ _ _ rfl]
  cases hb : inR b 0 7 with
  | false =>
    have e1 := c_buildAt_n (d + 2) h X b SX H hb
    simp (disch := omega) only [q_9_0, q_9_1, q_9_2, q_9_5, q_9_7, q_9_9, q_9_12, q_9_13, q_9_16, q_9_19, q_9_21, q_9_22, q_9_25, q_9_26, q_9_29, q_9_31, q_9_32, q_9_34, q_9_37, q_9_39, q_9_42, q_9_44, q_9_45, q_9_46, q_9_47, q_9_50, q_9_53, q_9_55, q_9_58, q_9_60, q_9_61, q_9_64, h_is H, h_ob H, ofs_len8, k_cr, k_ci, k_oR, k_oN, k_aR, k_aN, and_true, true_and, and_self, eq_self, Nat.reduceLT, Nat.reduceLeDiff, Nat.reduceEqDiff, Nat.reduceAdd, Nat.reduceMul, Bool.true_eq_false, Bool.false_eq_true, Nat.add_sub_cancel, Nat.not_lt_zero, Nat.zero_le, k_sub, k_sb1, k_r, k_n, k_ret, k_t1, k_t0, k_nr, k_nn, k_z0, k_z1, k_zb, x_okI, lit_nI, k_in, k_cl, k_lt, k_le, k_eq, k_neg, nI_add, nI_mul, k_clt, k_cgt, k_cle, k_cge, k_ceq, bI_0, k_sh8, ne_eq, Nat.add_eq_zero_iff, Nat.one_ne_zero, Nat.succ_ne_zero, and_false, false_and, not_false_eq_true, not_true_eq_false, ite_true, ite_false, if_true, if_false, e1, Bool.false_eq_true, false_and]
  | true =>
    obtain ⟨a, ha, rfl⟩ := inR_of (hi := 7) (by omega) hb
    rw [k_cl (by omega)]
    obtain ⟨f1, f2, f3, f4⟩ := hC.1 a (by omega)
    have e1 := c_buildAt (d + 2) h X a (β a) SX H (by omega) f1
    have e2 := c_isName (d + 1) h w
    have e3 := c_bfind (d + 2) h (β a) (cN a) (SB a) (κ a) (SK a) w f2.1 (hC.bOK hB (by omega))
    rw [fnd_congr (g := fun c => sL S 1 (6 * a + c)) (fun c hc => (hC.2.1 a c (by omega) hc).2.2.2.1)] at e3
    have e4 := c_isInUse (d + 1) h X a σ bd n SX SS ρ H (by omega) hr hs HS h1 h8 h2 h60
    rw [inuB_fix hρ (by omega) 8 0 (by omega)] at e4
    have hF := f2.1
    obtain ⟨g1, g2⟩ := hB.1 a (by omega)
    cases hN : isN w with
    | false =>
      rw [hN] at e2
      simp (disch := omega) only [q_9_0, q_9_1, q_9_2, q_9_5, q_9_7, q_9_9, q_9_12, q_9_13, q_9_16, q_9_19, q_9_21, q_9_22, q_9_25, q_9_26, q_9_29, q_9_31, q_9_32, q_9_34, q_9_37, q_9_39, q_9_42, q_9_44, q_9_45, q_9_46, q_9_47, q_9_50, q_9_53, q_9_55, q_9_58, q_9_60, q_9_61, q_9_64, h_is H, h_ob H, ofs_len8, hg_2_1 hF, h_is hF, h_ob hF, ofs_len2, k_cr, k_ci, k_oR, k_oN, k_aR, k_aN, and_true, true_and, and_self, eq_self, Nat.reduceLT, Nat.reduceLeDiff, Nat.reduceEqDiff, Nat.reduceAdd, Nat.reduceMul, Bool.true_eq_false, Bool.false_eq_true, Nat.add_sub_cancel, Nat.not_lt_zero, Nat.zero_le, k_sub, k_sb1, k_r, k_n, k_ret, k_t1, k_t0, k_nr, k_nn, k_z0, k_z1, k_zb, x_okI, lit_nI, k_in, k_cl, k_lt, k_le, k_eq, k_neg, nI_add, nI_mul, k_clt, k_cgt, k_cle, k_cge, k_ceq, bI_0, k_sh8, ne_eq, Nat.add_eq_zero_iff, Nat.one_ne_zero, Nat.succ_ne_zero, and_false, false_and, not_false_eq_true, not_true_eq_false, ite_true, ite_false, if_true, if_false, e1, e2, Bool.false_eq_true, false_and, and_false]
    | true =>
      rw [hN] at e2
      cases hf : fnd (fun c => sL S 1 (6 * a + c)) w (cN a) with
      | some i =>
        rw [hf] at e3
        have := fnd_lt hf
        have z1 : (oI (some i) = -nI 1) = False := k_neg (by omega)
        simp (disch := omega) only [q_9_0, q_9_1, q_9_2, q_9_5, q_9_7, q_9_9, q_9_12, q_9_13, q_9_16, q_9_19, q_9_21, q_9_22, q_9_25, q_9_26, q_9_29, q_9_31, q_9_32, q_9_34, q_9_37, q_9_39, q_9_42, q_9_44, q_9_45, q_9_46, q_9_47, q_9_50, q_9_53, q_9_55, q_9_58, q_9_60, q_9_61, q_9_64, h_is H, h_ob H, ofs_len8, hg_2_1 hF, h_is hF, h_ob hF, ofs_len2, k_cr, k_ci, k_oR, k_oN, k_aR, k_aN, and_true, true_and, and_self, eq_self, Nat.reduceLT, Nat.reduceLeDiff, Nat.reduceEqDiff, Nat.reduceAdd, Nat.reduceMul, Bool.true_eq_false, Bool.false_eq_true, Nat.add_sub_cancel, Nat.not_lt_zero, Nat.zero_le, k_sub, k_sb1, k_r, k_n, k_ret, k_t1, k_t0, k_nr, k_nn, k_z0, k_z1, k_zb, x_okI, lit_nI, k_in, k_cl, k_lt, k_le, k_eq, k_neg, nI_add, nI_mul, k_clt, k_cgt, k_cle, k_cge, k_ceq, bI_0, k_sh8, ne_eq, Nat.add_eq_zero_iff, Nat.one_ne_zero, Nat.succ_ne_zero, and_false, false_and, not_false_eq_true, not_true_eq_false, ite_true, ite_false, if_true, if_false, e1, e2, e3, z1, reduceCtorEq, and_false]
      | none =>
        rw [hf] at e3
        have z1 : (oI none = -nI 1) = True := eq_self _
        by_cases h6 : cN a = 6
        · rw [h6] at f3
          simp (disch := omega) only [q_9_0, q_9_1, q_9_2, q_9_5, q_9_7, q_9_9, q_9_12, q_9_13, q_9_16, q_9_19, q_9_21, q_9_22, q_9_25, q_9_26, q_9_29, q_9_31, q_9_32, q_9_34, q_9_37, q_9_39, q_9_42, q_9_44, q_9_45, q_9_46, q_9_47, q_9_50, q_9_53, q_9_55, q_9_58, q_9_60, q_9_61, q_9_64, h_is H, h_ob H, ofs_len8, hg_2_1 hF, h_is hF, h_ob hF, ofs_len2, k_cr, k_ci, k_oR, k_oN, k_aR, k_aN, and_true, true_and, and_self, eq_self, Nat.reduceLT, Nat.reduceLeDiff, Nat.reduceEqDiff, Nat.reduceAdd, Nat.reduceMul, Bool.true_eq_false, Bool.false_eq_true, Nat.add_sub_cancel, Nat.not_lt_zero, Nat.zero_le, k_sub, k_sb1, k_r, k_n, k_ret, k_t1, k_t0, k_nr, k_nn, k_z0, k_z1, k_zb, x_okI, lit_nI, k_in, k_cl, k_lt, k_le, k_eq, k_neg, nI_add, nI_mul, k_clt, k_cgt, k_cle, k_cge, k_ceq, bI_0, k_sh8, ne_eq, Nat.add_eq_zero_iff, Nat.one_ne_zero, Nat.succ_ne_zero, and_false, false_and, not_false_eq_true, not_true_eq_false, ite_true, ite_false, if_true, if_false, e1, e2, e3, z1, f3, h6]
        · have h5 : ¬ 6 ≤ cN a := by omega
          have h4 : cN a < 6 := by omega
          have e5 := c_bappend d h (β a) (cN a) (SB a) w f2.1 f3 h4 f2.2.2
          cases hx : fixd S a bd n with
          | true =>
            rw [show ((decide (bd = a) && decide (0 < n)) || orF (fixB S a) 8 0) = true from hx] at e4
            simp (disch := omega) only [q_9_0, q_9_1, q_9_2, q_9_5, q_9_7, q_9_9, q_9_12, q_9_13, q_9_16, q_9_19, q_9_21, q_9_22, q_9_25, q_9_26, q_9_29, q_9_31, q_9_32, q_9_34, q_9_37, q_9_39, q_9_42, q_9_44, q_9_45, q_9_46, q_9_47, q_9_50, q_9_53, q_9_55, q_9_58, q_9_60, q_9_61, q_9_64, h_is H, h_ob H, ofs_len8, hg_2_1 hF, h_is hF, h_ob hF, ofs_len2, k_cr, k_ci, k_oR, k_oN, k_aR, k_aN, and_true, true_and, and_self, eq_self, Nat.reduceLT, Nat.reduceLeDiff, Nat.reduceEqDiff, Nat.reduceAdd, Nat.reduceMul, Bool.true_eq_false, Bool.false_eq_true, Nat.add_sub_cancel, Nat.not_lt_zero, Nat.zero_le, k_sub, k_sb1, k_r, k_n, k_ret, k_t1, k_t0, k_nr, k_nn, k_z0, k_z1, k_zb, x_okI, lit_nI, k_in, k_cl, k_lt, k_le, k_eq, k_neg, nI_add, nI_mul, k_clt, k_cgt, k_cle, k_cge, k_ceq, bI_0, k_sh8, ne_eq, Nat.add_eq_zero_iff, Nat.one_ne_zero, Nat.succ_ne_zero, and_false, false_and, not_false_eq_true, not_true_eq_false, ite_true, ite_false, if_true, if_false, e1, e2, e3, z1, f3, h6, h5, h4, e4]
          | false =>
            rw [show ((decide (bd = a) && decide (0 < n)) || orF (fixB S a) 8 0) = false from hx] at e4
            simp (disch := omega) only [q_9_0, q_9_1, q_9_2, q_9_5, q_9_7, q_9_9, q_9_12, q_9_13, q_9_16, q_9_19, q_9_21, q_9_22, q_9_25, q_9_26, q_9_29, q_9_31, q_9_32, q_9_34, q_9_37, q_9_39, q_9_42, q_9_44, q_9_45, q_9_46, q_9_47, q_9_50, q_9_53, q_9_55, q_9_58, q_9_60, q_9_61, q_9_64, h_is H, h_ob H, ofs_len8, hg_2_1 hF, h_is hF, h_ob hF, ofs_len2, k_cr, k_ci, k_oR, k_oN, k_aR, k_aN, and_true, true_and, and_self, eq_self, Nat.reduceLT, Nat.reduceLeDiff, Nat.reduceEqDiff, Nat.reduceAdd, Nat.reduceMul, Bool.true_eq_false, Bool.false_eq_true, Nat.add_sub_cancel, Nat.not_lt_zero, Nat.zero_le, k_sub, k_sb1, k_r, k_n, k_ret, k_t1, k_t0, k_nr, k_nn, k_z0, k_z1, k_zb, x_okI, lit_nI, k_in, k_cl, k_lt, k_le, k_eq, k_neg, nI_add, nI_mul, k_clt, k_cgt, k_cle, k_cge, k_ceq, bI_0, k_sh8, ne_eq, Nat.add_eq_zero_iff, Nat.one_ne_zero, Nat.succ_ne_zero, and_false, false_and, not_false_eq_true, not_true_eq_false, ite_true, ite_false, if_true, if_false, e1, e2, e3, z1, f3, h6, h5, h4, e4, e5]
