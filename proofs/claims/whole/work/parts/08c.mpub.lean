/-! More of the reference: RULES that there are, members of VALUES, type(). -/
def hz (S : gS) (i : Nat) : Bool := decide (¬ sA S 12 i = nI 0)
def hzOK (S : gS) : Prop := ∀ i, sA S 12 i = bI (hz S i)
/-- g at one of k places from i on -/
def orF (g : Nat → Bool) : Nat → Nat → Bool
  | 0, _ => false
  | k + 1, i => g i || orF g k (i + 1)
theorem orF_s (g : Nat → Bool) (k i : Nat) : orF g (k + 1) i = (g i || orF g k (i + 1)) := rfl
def fixB (S : gS) (b : Nat) (k : Nat) : Bool := hz S (8 * b + k) || hz S (8 * k + b)
theorem m_isFixed_loop (d : Nat) (h : xH) (M : Nat) (S : gS) (b : Nat) (hb : b < 8) (hh : hzOK S) : ∀ (n i : Nat) (q : Bool), i + n = 8 → xrun d 131 25 [(1, .ref M), (1, .int (nI b)), (1, .int (bI q)), (1, .int (nI i))] [] (oh 11 h M S) = some (some (.int (bI (q || orF (fixB S b) n i))), oh 11 h M S)
  | 0, i, q, hi => by
    have h8 : i = 8 := by omega
    subst h8
    rw [q_131_25]
    simp (disch := omega) only [q_131_0, q_131_1, q_131_4, q_131_5, q_131_8, q_131_9, q_131_12, q_131_13, q_131_14, q_131_17, q_131_18, q_131_21, q_131_22, q_131_23, q_131_24, q_131_26, q_131_28, q_131_31, q_131_32, q_131_35, q_131_36, q_131_39, q_131_41, q_131_42, q_131_43, q_131_44, q_131_45, q_131_46, q_131_49, q_131_50, q_131_53, q_131_55, q_131_56, q_131_57, q_131_58, q_131_59, q_131_60, q_131_63, q_131_64, q_131_67, q_131_68, q_131_69, q_131_72, q_131_75, q_131_76, og_11_6, og_11_7, or_11_7, ow_11_7, og_11_12, or_11_12, ow_11_12, o_is, o_ob, ofs_len11, k_cr, k_ci, k_oR, k_oN, k_aR, k_aN, and_true, true_and, and_self, eq_self, Nat.reduceLT, Nat.reduceLeDiff, Nat.reduceEqDiff, Nat.reduceAdd, Nat.reduceMul, Bool.true_eq_false, Bool.false_eq_true, Nat.add_sub_cancel, Nat.not_lt_zero, Nat.zero_le, k_sub, k_sb1, k_r, k_n, k_ret, k_t1, k_t0, k_nr, k_nn, k_z0, k_z1, k_zb, x_okI, lit_nI, k_in, k_cl, k_lt, k_le, k_eq, k_neg, nI_add, nI_mul, k_clt, k_cgt, k_cle, k_cge, k_ceq, bI_0, k_sh8, ne_eq, Nat.add_eq_zero_iff, Nat.one_ne_zero, Nat.succ_ne_zero, and_false, false_and, not_false_eq_true, not_true_eq_false, ite_true, ite_false, if_true, if_false]
    cases q <;> simp [orF]
  | n + 1, i, q, hi => by
    rw [q_131_25]
    have h8 : ¬ 8 ≤ i := by omega
    have e1 := m_isFixed_loop d h M S b hb hh n (i + 1) true (by omega)
    have e0 := m_isFixed_loop d h M S b hb hh n (i + 1) false (by omega)
    rw [bI_t] at e1
    rw [bI_f] at e0
    simp (disch := omega) only [q_131_0, q_131_1, q_131_4, q_131_5, q_131_8, q_131_9, q_131_12, q_131_13, q_131_14, q_131_17, q_131_18, q_131_21, q_131_22, q_131_23, q_131_24, q_131_26, q_131_28, q_131_31, q_131_32, q_131_35, q_131_36, q_131_39, q_131_41, q_131_42, q_131_43, q_131_44, q_131_45, q_131_46, q_131_49, q_131_50, q_131_53, q_131_55, q_131_56, q_131_57, q_131_58, q_131_59, q_131_60, q_131_63, q_131_64, q_131_67, q_131_68, q_131_69, q_131_72, q_131_75, q_131_76, og_11_6, og_11_7, or_11_7, ow_11_7, og_11_12, or_11_12, ow_11_12, o_is, o_ob, ofs_len11, k_cr, k_ci, k_oR, k_oN, k_aR, k_aN, and_true, true_and, and_self, eq_self, Nat.reduceLT, Nat.reduceLeDiff, Nat.reduceEqDiff, Nat.reduceAdd, Nat.reduceMul, Bool.true_eq_false, Bool.false_eq_true, Nat.add_sub_cancel, Nat.not_lt_zero, Nat.zero_le, k_sub, k_sb1, k_r, k_n, k_ret, k_t1, k_t0, k_nr, k_nn, k_z0, k_z1, k_zb, x_okI, lit_nI, k_in, k_cl, k_lt, k_le, k_eq, k_neg, nI_add, nI_mul, k_clt, k_cgt, k_cle, k_cge, k_ceq, bI_0, k_sh8, ne_eq, Nat.add_eq_zero_iff, Nat.one_ne_zero, Nat.succ_ne_zero, and_false, false_and, not_false_eq_true, not_true_eq_false, ite_true, ite_false, if_true, if_false, h8, hh (8 * b + i), hh (8 * i + b), e1, e0, orF_s]
    unfold fixB
    cases q <;> cases hz S (8 * b + i) <;> cases hz S (8 * i + b) <;> simp
/-- THE STATE is of BUILD b and has VALUES, or there are RULES from it or to it -/
def fixd (S : gS) (b bd n : Nat) : Bool := (decide (bd = b) && decide (0 < n)) || orF (fixB S b) 8 0
theorem m_isFixed (d : Nat) (h : xH) (M : Nat) (S : gS) (b bd n : Nat) (hb : b < 8) (hh : hzOK S) (hbd : sI S 6 = nI bd) (h8 : bd < 8) (hn : sA S 7 0 = nI n) (h60 : n ≤ 60) : xm (d + 1) 131 [.ref M, .int (nI b)] (oh 11 h M S) = some (some (.int (bI (fixd S b bd n))), oh 11 h M S) := by
  rw [E_131 _ _ _ _ rfl]
  have e1 := m_isFixed_loop d h M S b hb hh 8 0 true (by omega)
  have e0 := m_isFixed_loop d h M S b hb hh 8 0 false (by omega)
  rw [bI_t] at e1
  rw [bI_f] at e0
  simp (disch := omega) only [q_131_0, q_131_1, q_131_4, q_131_5, q_131_8, q_131_9, q_131_12, q_131_13, q_131_14, q_131_17, q_131_18, q_131_21, q_131_22, q_131_23, q_131_24, q_131_26, q_131_28, q_131_31, q_131_32, q_131_35, q_131_36, q_131_39, q_131_41, q_131_42, q_131_43, q_131_44, q_131_45, q_131_46, q_131_49, q_131_50, q_131_53, q_131_55, q_131_56, q_131_57, q_131_58, q_131_59, q_131_60, q_131_63, q_131_64, q_131_67, q_131_68, q_131_69, q_131_72, q_131_75, q_131_76, og_11_6, og_11_7, or_11_7, ow_11_7, og_11_12, or_11_12, ow_11_12, o_is, o_ob, ofs_len11, k_cr, k_ci, k_oR, k_oN, k_aR, k_aN, and_true, true_and, and_self, eq_self, Nat.reduceLT, Nat.reduceLeDiff, Nat.reduceEqDiff, Nat.reduceAdd, Nat.reduceMul, Bool.true_eq_false, Bool.false_eq_true, Nat.add_sub_cancel, Nat.not_lt_zero, Nat.zero_le, k_sub, k_sb1, k_r, k_n, k_ret, k_t1, k_t0, k_nr, k_nn, k_z0, k_z1, k_zb, x_okI, lit_nI, k_in, k_cl, k_lt, k_le, k_eq, k_neg, nI_add, nI_mul, k_clt, k_cgt, k_cle, k_cge, k_ceq, bI_0, k_sh8, ne_eq, Nat.add_eq_zero_iff, Nat.one_ne_zero, Nat.succ_ne_zero, and_false, false_and, not_false_eq_true, not_true_eq_false, ite_true, ite_false, if_true, if_false, hbd, hn, e1, e0]
  unfold fixd
  by_cases h1 : bd = b
  · by_cases h2 : 0 < n
    · have h3 : ¬ n ≤ 0 := by omega
      simp [h1, h2, h3]
    · have h3 : n ≤ 0 := by omega
      simp [h1, h2, h3]
  · simp [h1]
theorem m_forget (d : Nat) (h : xH) (M : Nat) (S : gS) (f t : Int32) (hh : hzOK S) : xm (d + 2) 169 [.ref M, .int f, .int t] (oh 11 h M S) = if inR f 0 7 = true ∧ inR t 0 7 = true ∧ hz S (8 * f.toNatClampNeg + t.toNatClampNeg) = true then some (some (.int (nI 1)), oh 11 h M (uA S 12 (8 * f.toNatClampNeg + t.toNatClampNeg) (nI 0))) else some (some (.int (nI 0)), oh 11 h M S) := by
  rw [E_169 _ _ _ _ _ rfl]
  cases hf : inR f 0 7 with
  | false =>
    have hf' : (decide (0 ≤ f.toInt64) && decide (f.toInt64 ≤ 7)) = false := hf
    simp (disch := omega) only [q_169_0, q_169_1, q_169_2, q_169_3, q_169_6, q_169_9, q_169_12, q_169_13, q_169_14, q_169_15, q_169_18, q_169_21, q_169_24, q_169_25, q_169_28, q_169_30, q_169_31, q_169_32, q_169_33, q_169_34, q_169_35, q_169_38, q_169_39, q_169_40, q_169_41, q_169_44, q_169_46, q_169_47, q_169_48, q_169_49, q_169_50, q_169_51, q_169_52, q_169_53, og_11_12, or_11_12, ow_11_12, o_is, o_ob, ofs_len11, k_cr, k_ci, k_oR, k_oN, k_aR, k_aN, and_true, true_and, and_self, eq_self, Nat.reduceLT, Nat.reduceLeDiff, Nat.reduceEqDiff, Nat.reduceAdd, Nat.reduceMul, Bool.true_eq_false, Bool.false_eq_true, Nat.add_sub_cancel, Nat.not_lt_zero, Nat.zero_le, k_sub, k_sb1, k_r, k_n, k_ret, k_t1, k_t0, k_nr, k_nn, k_z0, k_z1, k_zb, x_okI, lit_nI, k_in, k_cl, k_lt, k_le, k_eq, k_neg, nI_add, nI_mul, k_clt, k_cgt, k_cle, k_cge, k_ceq, bI_0, k_sh8, ne_eq, Nat.add_eq_zero_iff, Nat.one_ne_zero, Nat.succ_ne_zero, and_false, false_and, not_false_eq_true, not_true_eq_false, ite_true, ite_false, if_true, if_false, m_in, hf', Bool.false_eq_true, false_and]
  | true =>
    have hf' : (decide (0 ≤ f.toInt64) && decide (f.toInt64 ≤ 7)) = true := hf
    cases ht : inR t 0 7 with
    | false =>
      have ht' : (decide (0 ≤ t.toInt64) && decide (t.toInt64 ≤ 7)) = false := ht
      simp (disch := omega) only [q_169_0, q_169_1, q_169_2, q_169_3, q_169_6, q_169_9, q_169_12, q_169_13, q_169_14, q_169_15, q_169_18, q_169_21, q_169_24, q_169_25, q_169_28, q_169_30, q_169_31, q_169_32, q_169_33, q_169_34, q_169_35, q_169_38, q_169_39, q_169_40, q_169_41, q_169_44, q_169_46, q_169_47, q_169_48, q_169_49, q_169_50, q_169_51, q_169_52, q_169_53, og_11_12, or_11_12, ow_11_12, o_is, o_ob, ofs_len11, k_cr, k_ci, k_oR, k_oN, k_aR, k_aN, and_true, true_and, and_self, eq_self, Nat.reduceLT, Nat.reduceLeDiff, Nat.reduceEqDiff, Nat.reduceAdd, Nat.reduceMul, Bool.true_eq_false, Bool.false_eq_true, Nat.add_sub_cancel, Nat.not_lt_zero, Nat.zero_le, k_sub, k_sb1, k_r, k_n, k_ret, k_t1, k_t0, k_nr, k_nn, k_z0, k_z1, k_zb, x_okI, lit_nI, k_in, k_cl, k_lt, k_le, k_eq, k_neg, nI_add, nI_mul, k_clt, k_cgt, k_cle, k_cge, k_ceq, bI_0, k_sh8, ne_eq, Nat.add_eq_zero_iff, Nat.one_ne_zero, Nat.succ_ne_zero, and_false, false_and, not_false_eq_true, not_true_eq_false, ite_true, ite_false, if_true, if_false, m_in, hf', ht', Bool.false_eq_true, false_and, and_false]
    | true =>
      have ht' : (decide (0 ≤ t.toInt64) && decide (t.toInt64 ≤ 7)) = true := ht
      obtain ⟨a, ha, rfl⟩ := inR_of (hi := 7) (by omega) hf
      obtain ⟨b, hb, rfl⟩ := inR_of (hi := 7) (by omega) ht
      simp (disch := omega) only [q_169_0, q_169_1, q_169_2, q_169_3, q_169_6, q_169_9, q_169_12, q_169_13, q_169_14, q_169_15, q_169_18, q_169_21, q_169_24, q_169_25, q_169_28, q_169_30, q_169_31, q_169_32, q_169_33, q_169_34, q_169_35, q_169_38, q_169_39, q_169_40, q_169_41, q_169_44, q_169_46, q_169_47, q_169_48, q_169_49, q_169_50, q_169_51, q_169_52, q_169_53, og_11_12, or_11_12, ow_11_12, o_is, o_ob, ofs_len11, k_cr, k_ci, k_oR, k_oN, k_aR, k_aN, and_true, true_and, and_self, eq_self, Nat.reduceLT, Nat.reduceLeDiff, Nat.reduceEqDiff, Nat.reduceAdd, Nat.reduceMul, Bool.true_eq_false, Bool.false_eq_true, Nat.add_sub_cancel, Nat.not_lt_zero, Nat.zero_le, k_sub, k_sb1, k_r, k_n, k_ret, k_t1, k_t0, k_nr, k_nn, k_z0, k_z1, k_zb, x_okI, lit_nI, k_in, k_cl, k_lt, k_le, k_eq, k_neg, nI_add, nI_mul, k_clt, k_cgt, k_cle, k_cge, k_ceq, bI_0, k_sh8, ne_eq, Nat.add_eq_zero_iff, Nat.one_ne_zero, Nat.succ_ne_zero, and_false, false_and, not_false_eq_true, not_true_eq_false, ite_true, ite_false, if_true, if_false, m_in, hf', ht', hh (8 * a + b)]
      cases hz S (8 * a + b)
      · simp
      · simp
        rfl
theorem m_isMember (d : Nat) (h : xH) (M : Nat) (S : gS) (v bd c n : Nat) (i : Int32) (hv : v < 180) (hbd : sI S 6 = nI bd) (h8 : bd < 8) (hc : sA S 9 v = nI c) (h6 : c < 6) (hn : sA S 2 (6 * bd + c) = nI n) (hn8 : n ≤ 8) : xm (d + 2) 140 [.ref M, .int (nI v), .int i] (oh 11 h M S) = some (some (.int (bI (inR i 0 (nI n - nI 1).toInt64))), oh 11 h M S) := by
  rw [E_140 _ _ _ _ _ rfl]
  simp (disch := omega) only [q_140_0, q_140_1, q_140_2, q_140_5, q_140_6, q_140_7, q_140_8, q_140_9, q_140_12, q_140_14, q_140_15, q_140_18, q_140_19, q_140_20, q_140_23, q_140_24, q_140_25, q_140_26, q_140_27, q_140_28, q_140_29, q_140_30, q_140_33, q_140_36, q_140_37, q_140_40, q_140_41, og_11_2, or_11_2, ow_11_2, og_11_6, og_11_9, or_11_9, ow_11_9, o_is, o_ob, ofs_len11, k_cr, k_ci, k_oR, k_oN, k_aR, k_aN, and_true, true_and, and_self, eq_self, Nat.reduceLT, Nat.reduceLeDiff, Nat.reduceEqDiff, Nat.reduceAdd, Nat.reduceMul, Bool.true_eq_false, Bool.false_eq_true, Nat.add_sub_cancel, Nat.not_lt_zero, Nat.zero_le, k_sub, k_sb1, k_r, k_n, k_ret, k_t1, k_t0, k_nr, k_nn, k_z0, k_z1, k_zb, x_okI, lit_nI, k_in, k_cl, k_lt, k_le, k_eq, k_neg, nI_add, nI_mul, k_clt, k_cgt, k_cle, k_cge, k_ceq, bI_0, k_sh8, ne_eq, Nat.add_eq_zero_iff, Nat.one_ne_zero, Nat.succ_ne_zero, and_false, false_and, not_false_eq_true, not_true_eq_false, ite_true, ite_false, if_true, if_false, hbd, hc, hn, m_in]
  show (if inR i 0 (nI n - nI 1).toInt64 = false then _ else _) = _
  cases inR i 0 (nI n - nI 1).toInt64 <;> simp [bI]
theorem m_isMember_n (d : Nat) (h : xH) (M : Nat) (S : gS) (i : Int32) : xm (d + 2) 140 [.ref M, .int (-nI 1), .int i] (oh 11 h M S) = some (some (.int (bI false)), oh 11 h M S) := by
  rw [E_140 _ _ _ _ _ rfl]
  simp (disch := omega) only [q_140_0, q_140_1, q_140_2, q_140_5, q_140_6, q_140_7, q_140_8, q_140_9, q_140_12, q_140_14, q_140_15, q_140_18, q_140_19, q_140_20, q_140_23, q_140_24, q_140_25, q_140_26, q_140_27, q_140_28, q_140_29, q_140_30, q_140_33, q_140_36, q_140_37, q_140_40, q_140_41, og_11_2, or_11_2, ow_11_2, og_11_6, og_11_9, or_11_9, ow_11_9, o_is, o_ob, ofs_len11, k_cr, k_ci, k_oR, k_oN, k_aR, k_aN, and_true, true_and, and_self, eq_self, Nat.reduceLT, Nat.reduceLeDiff, Nat.reduceEqDiff, Nat.reduceAdd, Nat.reduceMul, Bool.true_eq_false, Bool.false_eq_true, Nat.add_sub_cancel, Nat.not_lt_zero, Nat.zero_le, k_sub, k_sb1, k_r, k_n, k_ret, k_t1, k_t0, k_nr, k_nn, k_z0, k_z1, k_zb, x_okI, lit_nI, k_in, k_cl, k_lt, k_le, k_eq, k_neg, nI_add, nI_mul, k_clt, k_cgt, k_cle, k_cge, k_ceq, bI_0, k_sh8, ne_eq, Nat.add_eq_zero_iff, Nat.one_ne_zero, Nat.succ_ne_zero, and_false, false_and, not_false_eq_true, not_true_eq_false, ite_true, ite_false, if_true, if_false, m_in]
  rfl
/-- what the reference knows of its BUILDS: cN classes, mN members -/
def bdOK (S : gS) (cN : Nat → Nat) (mN : Nat → Nat) : Prop := (∀ b, b < 8 → sA S 0 b = nI (cN b) ∧ cN b ≤ 6) ∧ (∀ b c, b < 8 → c < 6 → sA S 2 (6 * b + c) = nI (mN (6 * b + c)) ∧ mN (6 * b + c) ≤ 8)
theorem m_type (d : Nat) (h : xH) (M : Nat) (S : gS) (b : Int32) (w : Int64) (cN mN : Nat → Nat) (bd n : Nat) (hB : bdOK S cN mN) (hh : hzOK S) (hbd : sI S 6 = nI bd) (h8 : bd < 8) (hn : sA S 7 0 = nI n) (h60 : n ≤ 60) : xm (d + 3) 126 [.ref M, .int b, .long w] (oh 11 h M S) =
    if inR b 0 7 = true ∧ isN w = true ∧ fnd (fun c => sL S 1 (6 * b.toNatClampNeg + c)) w (cN b.toNatClampNeg) = none then
      (if cN b.toNatClampNeg = 6 then some (some (.int (-nI 3)), oh 11 h M S)
       else if fixd S b.toNatClampNeg bd n = true then some (some (.int (-nI 4)), oh 11 h M S)
       else some (some (.int (nI (cN b.toNatClampNeg))), oh 11 h M (uA (uA (uL S 1 (6 * b.toNatClampNeg + cN b.toNatClampNeg) w) 2 (6 * b.toNatClampNeg + cN b.toNatClampNeg) (nI 0)) 0 b.toNatClampNeg (nI (cN b.toNatClampNeg + 1)))))
    else some (some (.int (-nI 2)), oh 11 h M S) := by
  rw [E_126 _ _ _ _ _ rfl]
  cases hb : inR b 0 7 with
  | false =>
    have hb' : (decide (0 ≤ b.toInt64) && decide (b.toInt64 ≤ 7)) = false := hb
    simp (disch := omega) only [q_126_0, q_126_1, q_126_2, q_126_3, q_126_6, q_126_9, q_126_12, q_126_13, q_126_16, q_126_19, q_126_20, q_126_21, q_126_22, q_126_25, q_126_26, q_126_29, q_126_31, q_126_32, q_126_33, q_126_36, q_126_37, q_126_38, q_126_40, q_126_43, q_126_45, q_126_46, q_126_47, q_126_48, q_126_51, q_126_54, q_126_56, q_126_57, q_126_58, q_126_61, q_126_62, q_126_63, q_126_65, q_126_66, q_126_69, q_126_71, q_126_72, q_126_73, q_126_75, q_126_76, q_126_77, q_126_78, q_126_79, q_126_82, q_126_84, q_126_85, q_126_86, q_126_88, q_126_89, q_126_90, q_126_91, q_126_92, q_126_95, q_126_96, q_126_97, q_126_98, q_126_99, q_126_100, q_126_101, q_126_103, og_11_0, or_11_0, ow_11_0, og_11_1, or_11_1, ow_11_1, og_11_2, or_11_2, ow_11_2, o_is, o_ob, ofs_len11, k_cr, k_ci, k_oR, k_oN, k_aR, k_aN, and_true, true_and, and_self, eq_self, Nat.reduceLT, Nat.reduceLeDiff, Nat.reduceEqDiff, Nat.reduceAdd, Nat.reduceMul, Bool.true_eq_false, Bool.false_eq_true, Nat.add_sub_cancel, Nat.not_lt_zero, Nat.zero_le, k_sub, k_sb1, k_r, k_n, k_ret, k_t1, k_t0, k_nr, k_nn, k_z0, k_z1, k_zb, x_okI, lit_nI, k_in, k_cl, k_lt, k_le, k_eq, k_neg, nI_add, nI_mul, k_clt, k_cgt, k_cle, k_cge, k_ceq, bI_0, k_sh8, ne_eq, Nat.add_eq_zero_iff, Nat.one_ne_zero, Nat.succ_ne_zero, and_false, false_and, not_false_eq_true, not_true_eq_false, ite_true, ite_false, if_true, if_false, m_in, hb', Bool.false_eq_true, false_and]
  | true =>
    have hb' : (decide (0 ≤ b.toInt64) && decide (b.toInt64 ≤ 7)) = true := hb
    obtain ⟨a, ha, rfl⟩ := inR_of (hi := 7) (by omega) hb
    obtain ⟨hc1, hc2⟩ := hB.1 a (by omega)
    have hF := m_findClass (d + 1) h M S a (cN a) w (by omega) hc1 hc2
    have hX := m_isFixed (d + 1) h M S a bd n (by omega) hh hbd h8 hn h60
    simp (disch := omega) only [q_126_0, q_126_1, q_126_2, q_126_3, q_126_6, q_126_9, q_126_12, q_126_13, q_126_16, q_126_19, q_126_20, q_126_21, q_126_22, q_126_25, q_126_26, q_126_29, q_126_31, q_126_32, q_126_33, q_126_36, q_126_37, q_126_38, q_126_40, q_126_43, q_126_45, q_126_46, q_126_47, q_126_48, q_126_51, q_126_54, q_126_56, q_126_57, q_126_58, q_126_61, q_126_62, q_126_63, q_126_65, q_126_66, q_126_69, q_126_71, q_126_72, q_126_73, q_126_75, q_126_76, q_126_77, q_126_78, q_126_79, q_126_82, q_126_84, q_126_85, q_126_86, q_126_88, q_126_89, q_126_90, q_126_91, q_126_92, q_126_95, q_126_96, q_126_97, q_126_98, q_126_99, q_126_100, q_126_101, q_126_103, og_11_0, or_11_0, ow_11_0, og_11_1, or_11_1, ow_11_1, og_11_2, or_11_2, ow_11_2, o_is, o_ob, ofs_len11, k_cr, k_ci, k_oR, k_oN, k_aR, k_aN, and_true, true_and, and_self, eq_self, Nat.reduceLT, Nat.reduceLeDiff, Nat.reduceEqDiff, Nat.reduceAdd, Nat.reduceMul, Bool.true_eq_false, Bool.false_eq_true, Nat.add_sub_cancel, Nat.not_lt_zero, Nat.zero_le, k_sub, k_sb1, k_r, k_n, k_ret, k_t1, k_t0, k_nr, k_nn, k_z0, k_z1, k_zb, x_okI, lit_nI, k_in, k_cl, k_lt, k_le, k_eq, k_neg, nI_add, nI_mul, k_clt, k_cgt, k_cle, k_cge, k_ceq, bI_0, k_sh8, ne_eq, Nat.add_eq_zero_iff, Nat.one_ne_zero, Nat.succ_ne_zero, and_false, false_and, not_false_eq_true, not_true_eq_false, ite_true, ite_false, if_true, if_false, m_in, hb', m_isName, hF, hX, hc1, k_oI]
    cases isN w with
    | false => simp
    | true =>
      cases hfn : fnd (fun c => sL S 1 (6 * a + c)) w (cN a) with
      | some i => simp
      | none =>
        by_cases h6 : cN a = 6
        · simp [h6]
        · have h5 : cN a < 6 := by omega
          have h48 : 6 * a + cN a < 48 := by omega
          cases hx : fixd S a bd n with
          | true => simp [h6]
          | false => 
            simp (disch := omega) only [h6, k_cr, k_ci, k_oR, k_oN, k_aR, k_aN, and_true, true_and, and_self, eq_self, Nat.reduceLT, Nat.reduceLeDiff, Nat.reduceEqDiff, Nat.reduceAdd, Nat.reduceMul, Bool.true_eq_false, Bool.false_eq_true, Nat.add_sub_cancel, Nat.not_lt_zero, Nat.zero_le, k_sub, k_sb1, k_r, k_n, k_ret, k_t1, k_t0, k_nr, k_nn, k_z0, k_z1, k_zb, x_okI, lit_nI, k_in, k_cl, k_lt, k_le, k_eq, k_neg, nI_add, nI_mul, k_clt, k_cgt, k_cle, k_cge, k_ceq, bI_0, k_sh8, ne_eq, Nat.add_eq_zero_iff, Nat.one_ne_zero, Nat.succ_ne_zero, and_false, false_and, not_false_eq_true, not_true_eq_false, ite_true, ite_false, if_true, if_false, q_126_0, q_126_1, q_126_2, q_126_3, q_126_6, q_126_9, q_126_12, q_126_13, q_126_16, q_126_19, q_126_20, q_126_21, q_126_22, q_126_25, q_126_26, q_126_29, q_126_31, q_126_32, q_126_33, q_126_36, q_126_37, q_126_38, q_126_40, q_126_43, q_126_45, q_126_46, q_126_47, q_126_48, q_126_51, q_126_54, q_126_56, q_126_57, q_126_58, q_126_61, q_126_62, q_126_63, q_126_65, q_126_66, q_126_69, q_126_71, q_126_72, q_126_73, q_126_75, q_126_76, q_126_77, q_126_78, q_126_79, q_126_82, q_126_84, q_126_85, q_126_86, q_126_88, q_126_89, q_126_90, q_126_91, q_126_92, q_126_95, q_126_96, q_126_97, q_126_98, q_126_99, q_126_100, q_126_101, q_126_103, og_11_0, or_11_0, ow_11_0, og_11_1, or_11_1, ow_11_1, og_11_2, or_11_2, ow_11_2, o_is, o_ob, ofs_len11, sI_uI, sJ_uI, sA_uI, sL_uI, sR_uI, sQ_uI, sI_uJ, sJ_uJ, sA_uJ, sL_uJ, sR_uJ, sQ_uJ, sI_uA, sJ_uA, sA_uA, sL_uA, sR_uA, sQ_uA, sI_uL, sJ_uL, sA_uL, sL_uL, sR_uL, sQ_uL, sI_uR, sJ_uR, sA_uR, sL_uR, sR_uR, sQ_uR, sI_uQ, sJ_uQ, sA_uQ, sL_uQ, sR_uQ, sQ_uQ, hc1, true_and]
