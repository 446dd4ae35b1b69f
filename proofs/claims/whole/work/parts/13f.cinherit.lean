/-! Move.inherit. -/
def mAh (S : gS) (i : Nat) : Bool := decide (¬ sA S 4 i = nI 0)
def mDr (S : gS) (i : Nat) : Bool := decide (¬ sA S 5 i = nI 0)
def mvOK (S : gS) : Prop := (∀ i, sA S 4 i = bI (mAh S i)) ∧ ∀ i, sA S 5 i = bI (mDr S i)
/-- the old member that a new one takes by its NAME -/
def ihO (S SO SN : gS) (nO i : Nat) : Option Nat := if mAh S i = true then none else match fnd (sL SO 1) (sL SN 1 i) nO with
  | none => none
  | some s => if mDr S s = false ∧ kRow SO s = kRow SN i then some s else none
def ihS (S SO SN : gS) (nO i : Nat) : gS := match ihO S SO SN nO i with
  | none => S
  | some s => uA (uA S 1 i (nI s)) 6 s (nI 1)
def ihF (SO SN : gS) (nO : Nat) : Nat → Nat → gS → gS
  | 0, _, S => S
  | k + 1, i, S => ihF SO SN nO k (i + 1) (ihS S SO SN nO i)
theorem ihS_ok {S SO SN : gS} {nO i : Nat} (h : mvOK S) : mvOK (ihS S SO SN nO i) := by
  unfold ihS
  split
  · exact h
  · rename_i s hs
    have e4 : ∀ q, sA (uA (uA S 1 i (nI s)) 6 s (nI 1)) 4 q = sA S 4 q := by
      intro q
      simp only [sA_uA]
      simp
    have e5 : ∀ q, sA (uA (uA S 1 i (nI s)) 6 s (nI 1)) 5 q = sA S 5 q := by
      intro q
      simp only [sA_uA]
      simp
    refine ⟨fun q => ?_, fun q => ?_⟩
    · unfold mAh
      rw [e4]
      exact h.1 q
    · unfold mDr
      rw [e5]
      exact h.2 q
theorem bI_inj (a b : Bool) : (bI a = bI b) = (a = b) := by cases a <;> cases b <;> decide
theorem c_inherit_loop (d : Nat) (h : xH) (A κO κN nO nN : Nat) (SO SN : gS) (HO : isB 1 h κO SO) (HN : isB 1 h κN SN) (hdO : dj 3 A 1 κO) (hdN : dj 3 A 1 κN) (hkO : kOK SO nO) (hkN : kOK SN nN) : ∀ (k i : Nat) (S : gS) (u : Nat × Value), i + k = nN → mvOK S → xrun (d + 1) 54 2 [(1, .ref A), (1, .ref κO), (1, .ref κN), (1, .int (nI i)), u] [] (oh 3 h A S) = some (none, oh 3 h A (ihF SO SN nO k i S))
  | 0, i, S, u, hi, hm => by
    have : i = nN := by omega
    subst this
    rw [q_54_2]
    have n8 := hkN.2.1
    have HN2 : isB 1 (oh 3 h A S) κN SN := HN.frame hdN
    have k4 := hkN.1
    simp (disch := omega) only [q_54_0, q_54_1, q_54_3, q_54_4, q_54_7, q_54_10, q_54_11, q_54_13, q_54_16, q_54_17, q_54_20, q_54_21, q_54_22, q_54_25, q_54_26, q_54_29, q_54_30, q_54_31, q_54_34, q_54_35, q_54_36, q_54_39, q_54_41, q_54_43, q_54_44, q_54_47, q_54_48, q_54_51, q_54_53, q_54_54, q_54_57, q_54_58, q_54_60, q_54_63, q_54_64, q_54_65, q_54_68, q_54_71, q_54_72, q_54_73, q_54_75, q_54_78, q_54_81, q_54_84, hg_1_4 HN2, hg_1_1 HN2, hr_1_1 HN2, hw_1_1 HN2, h_is HN2, h_ob HN2, ofs_len1, ↓reduceIte, k_cr, k_ci, k_oR, k_oN, k_aR, k_aN, and_true, true_and, and_self, eq_self, Nat.reduceLT, Nat.reduceLeDiff, Nat.reduceEqDiff, Nat.reduceAdd, Nat.reduceMul, Bool.true_eq_false, Bool.false_eq_true, Nat.add_sub_cancel, Nat.not_lt_zero, Nat.zero_le, k_sub, k_sb1, k_r, k_n, k_ret, k_t1, k_t0, k_nr, k_nn, k_z0, k_z1, k_zb, x_okI, lit_nI, k_in, k_cl, k_lt, k_le, k_eq, k_neg, nI_add, nI_mul, k_clt, k_cgt, k_cle, k_cge, k_ceq, bI_0, k_sh8, ne_eq, Nat.add_eq_zero_iff, Nat.one_ne_zero, Nat.succ_ne_zero, and_false, false_and, not_false_eq_true, not_true_eq_false, ite_true, ite_false, if_true, if_false, k4, Nat.le_refl]
    rfl
  | k + 1, i, S, u, hi, hm => by
    rw [q_54_2]
    have n8 := hkN.2.1
    have o8 := hkO.2.1
    have HN2 : isB 1 (oh 3 h A S) κN SN := HN.frame hdN
    have HO2 : isB 1 (oh 3 h A S) κO SO := HO.frame hdO
    have HA : isB 3 (oh 3 h A S) A S := isB_oh _ _ _ _
    have k4 := hkN.1
    have h1 : ¬ nN ≤ i := by omega
    have h2 : ¬ 8 ≤ i := by omega
    have m4 := hm.1 i
    have ih := fun u => c_inherit_loop d h A κO κN nO nN SO SN HO HN hdO hdN hkO hkN k (i + 1) (ihS S SO SN nO i) u (by omega) (ihS_ok hm)
    show _ = some (none, oh 3 h A (ihF SO SN nO k (i + 1) (ihS S SO SN nO i)))
    have hF := c_kfind d (oh 3 h A S) κO nO SO (sL SN 1 i) HO2 hkO
    unfold ihS ihO at ih ⊢
    cases ha : mAh S i with
    | true =>
      rw [ha] at m4
      simp only [ha, if_true] at ih ⊢
      simp (disch := omega) only [q_54_0, q_54_1, q_54_3, q_54_4, q_54_7, q_54_10, q_54_11, q_54_13, q_54_16, q_54_17, q_54_20, q_54_21, q_54_22, q_54_25, q_54_26, q_54_29, q_54_30, q_54_31, q_54_34, q_54_35, q_54_36, q_54_39, q_54_41, q_54_43, q_54_44, q_54_47, q_54_48, q_54_51, q_54_53, q_54_54, q_54_57, q_54_58, q_54_60, q_54_63, q_54_64, q_54_65, q_54_68, q_54_71, q_54_72, q_54_73, q_54_75, q_54_78, q_54_81, q_54_84, hg_1_4 HN2, hg_1_1 HN2, hr_1_1 HN2, hw_1_1 HN2, h_is HN2, h_ob HN2, ofs_len1, hg_3_4 HA, hr_3_4 HA, hw_3_4 HA, hg_3_5 HA, hr_3_5 HA, hw_3_5 HA, h_is HA, h_ob HA, ofs_len3, ↓reduceIte, k_cr, k_ci, k_oR, k_oN, k_aR, k_aN, and_true, true_and, and_self, eq_self, Nat.reduceLT, Nat.reduceLeDiff, Nat.reduceEqDiff, Nat.reduceAdd, Nat.reduceMul, Bool.true_eq_false, Bool.false_eq_true, Nat.add_sub_cancel, Nat.not_lt_zero, Nat.zero_le, k_sub, k_sb1, k_r, k_n, k_ret, k_t1, k_t0, k_nr, k_nn, k_z0, k_z1, k_zb, x_okI, lit_nI, k_in, k_cl, k_lt, k_le, k_eq, k_neg, nI_add, nI_mul, k_clt, k_cgt, k_cle, k_cge, k_ceq, bI_0, k_sh8, ne_eq, Nat.add_eq_zero_iff, Nat.one_ne_zero, Nat.succ_ne_zero, and_false, false_and, not_false_eq_true, not_true_eq_false, ite_true, ite_false, if_true, if_false, k4, h1, h2, m4, ih]
    | false =>
      rw [ha] at m4
      simp only [ha, Bool.false_eq_true, if_false] at ih ⊢
      cases hf : fnd (sL SO 1) (sL SN 1 i) nO with
      | none =>
        rw [hf] at hF
        simp only [hf] at ih ⊢
        have z1 : (oI none = -nI 1) = True := eq_self _
        simp (disch := omega) only [q_54_0, q_54_1, q_54_3, q_54_4, q_54_7, q_54_10, q_54_11, q_54_13, q_54_16, q_54_17, q_54_20, q_54_21, q_54_22, q_54_25, q_54_26, q_54_29, q_54_30, q_54_31, q_54_34, q_54_35, q_54_36, q_54_39, q_54_41, q_54_43, q_54_44, q_54_47, q_54_48, q_54_51, q_54_53, q_54_54, q_54_57, q_54_58, q_54_60, q_54_63, q_54_64, q_54_65, q_54_68, q_54_71, q_54_72, q_54_73, q_54_75, q_54_78, q_54_81, q_54_84, hg_1_4 HN2, hg_1_1 HN2, hr_1_1 HN2, hw_1_1 HN2, h_is HN2, h_ob HN2, ofs_len1, hg_3_4 HA, hr_3_4 HA, hw_3_4 HA, hg_3_5 HA, hr_3_5 HA, hw_3_5 HA, h_is HA, h_ob HA, ofs_len3, ↓reduceIte, k_cr, k_ci, k_oR, k_oN, k_aR, k_aN, and_true, true_and, and_self, eq_self, Nat.reduceLT, Nat.reduceLeDiff, Nat.reduceEqDiff, Nat.reduceAdd, Nat.reduceMul, Bool.true_eq_false, Bool.false_eq_true, Nat.add_sub_cancel, Nat.not_lt_zero, Nat.zero_le, k_sub, k_sb1, k_r, k_n, k_ret, k_t1, k_t0, k_nr, k_nn, k_z0, k_z1, k_zb, x_okI, lit_nI, k_in, k_cl, k_lt, k_le, k_eq, k_neg, nI_add, nI_mul, k_clt, k_cgt, k_cle, k_cge, k_ceq, bI_0, k_sh8, ne_eq, Nat.add_eq_zero_iff, Nat.one_ne_zero, Nat.succ_ne_zero, and_false, false_and, not_false_eq_true, not_true_eq_false, ite_true, ite_false, if_true, if_false, k4, h1, h2, m4, h_is HO2, hF, z1, ih]
      | some s =>
        rw [hf] at hF
        simp only [hf] at ih ⊢
        have hs := (fnd_lt hf).1
        have m5 := hm.2 s
        have r1 := c_isRow d (oh 3 h A S) κO nO s SO HO2 hkO (by omega)
        have r2 := c_isRow d (oh 3 h A S) κN nN i SN HN2 hkN (by omega)
        rw [decide_eq_true hs, Bool.true_and] at r1
        rw [decide_eq_true (show i < nN by omega), Bool.true_and] at r2
        have hC := c_mcopy d (oh 3 h A S) A i s S HA (by omega) (by omega)
        rw [oh_oh] at hC
        cases hd : mDr S s with
        | true =>
          rw [hd] at m5
          simp only [hd, Bool.true_eq_false, false_and, if_false] at ih ⊢
          simp (disch := omega) only [q_54_0, q_54_1, q_54_3, q_54_4, q_54_7, q_54_10, q_54_11, q_54_13, q_54_16, q_54_17, q_54_20, q_54_21, q_54_22, q_54_25, q_54_26, q_54_29, q_54_30, q_54_31, q_54_34, q_54_35, q_54_36, q_54_39, q_54_41, q_54_43, q_54_44, q_54_47, q_54_48, q_54_51, q_54_53, q_54_54, q_54_57, q_54_58, q_54_60, q_54_63, q_54_64, q_54_65, q_54_68, q_54_71, q_54_72, q_54_73, q_54_75, q_54_78, q_54_81, q_54_84, hg_1_4 HN2, hg_1_1 HN2, hr_1_1 HN2, hw_1_1 HN2, h_is HN2, h_ob HN2, ofs_len1, hg_3_4 HA, hr_3_4 HA, hw_3_4 HA, hg_3_5 HA, hr_3_5 HA, hw_3_5 HA, h_is HA, h_ob HA, ofs_len3, ↓reduceIte, k_cr, k_ci, k_oR, k_oN, k_aR, k_aN, and_true, true_and, and_self, eq_self, Nat.reduceLT, Nat.reduceLeDiff, Nat.reduceEqDiff, Nat.reduceAdd, Nat.reduceMul, Bool.true_eq_false, Bool.false_eq_true, Nat.add_sub_cancel, Nat.not_lt_zero, Nat.zero_le, k_sub, k_sb1, k_r, k_n, k_ret, k_t1, k_t0, k_nr, k_nn, k_z0, k_z1, k_zb, x_okI, lit_nI, k_in, k_cl, k_lt, k_le, k_eq, k_neg, nI_add, nI_mul, k_clt, k_cgt, k_cle, k_cge, k_ceq, bI_0, k_sh8, ne_eq, Nat.add_eq_zero_iff, Nat.one_ne_zero, Nat.succ_ne_zero, and_false, false_and, not_false_eq_true, not_true_eq_false, ite_true, ite_false, if_true, if_false, k4, h1, h2, m4, m5, h_is HO2, hF, oI, ih]
        | false =>
          rw [hd] at m5
          simp only [hd, true_and] at ih ⊢
          by_cases hr : kRow SO s = kRow SN i
          · simp only [hr, if_true] at ih ⊢
            simp (disch := omega) only [q_54_0, q_54_1, q_54_3, q_54_4, q_54_7, q_54_10, q_54_11, q_54_13, q_54_16, q_54_17, q_54_20, q_54_21, q_54_22, q_54_25, q_54_26, q_54_29, q_54_30, q_54_31, q_54_34, q_54_35, q_54_36, q_54_39, q_54_41, q_54_43, q_54_44, q_54_47, q_54_48, q_54_51, q_54_53, q_54_54, q_54_57, q_54_58, q_54_60, q_54_63, q_54_64, q_54_65, q_54_68, q_54_71, q_54_72, q_54_73, q_54_75, q_54_78, q_54_81, q_54_84, hg_1_4 HN2, hg_1_1 HN2, hr_1_1 HN2, hw_1_1 HN2, h_is HN2, h_ob HN2, ofs_len1, hg_3_4 HA, hr_3_4 HA, hw_3_4 HA, hg_3_5 HA, hr_3_5 HA, hw_3_5 HA, h_is HA, h_ob HA, ofs_len3, ↓reduceIte, k_cr, k_ci, k_oR, k_oN, k_aR, k_aN, and_true, true_and, and_self, eq_self, Nat.reduceLT, Nat.reduceLeDiff, Nat.reduceEqDiff, Nat.reduceAdd, Nat.reduceMul, Bool.true_eq_false, Bool.false_eq_true, Nat.add_sub_cancel, Nat.not_lt_zero, Nat.zero_le, k_sub, k_sb1, k_r, k_n, k_ret, k_t1, k_t0, k_nr, k_nn, k_z0, k_z1, k_zb, x_okI, lit_nI, k_in, k_cl, k_lt, k_le, k_eq, k_neg, nI_add, nI_mul, k_clt, k_cgt, k_cle, k_cge, k_ceq, bI_0, k_sh8, ne_eq, Nat.add_eq_zero_iff, Nat.one_ne_zero, Nat.succ_ne_zero, and_false, false_and, not_false_eq_true, not_true_eq_false, ite_true, ite_false, if_true, if_false, k4, h1, h2, m4, m5, h_is HO2, h_is HN2, hF, oI, r1, r2, bI_inj, hr, hC, ih]
          · simp only [hr, if_false] at ih ⊢
            simp (disch := omega) only [q_54_0, q_54_1, q_54_3, q_54_4, q_54_7, q_54_10, q_54_11, q_54_13, q_54_16, q_54_17, q_54_20, q_54_21, q_54_22, q_54_25, q_54_26, q_54_29, q_54_30, q_54_31, q_54_34, q_54_35, q_54_36, q_54_39, q_54_41, q_54_43, q_54_44, q_54_47, q_54_48, q_54_51, q_54_53, q_54_54, q_54_57, q_54_58, q_54_60, q_54_63, q_54_64, q_54_65, q_54_68, q_54_71, q_54_72, q_54_73, q_54_75, q_54_78, q_54_81, q_54_84, hg_1_4 HN2, hg_1_1 HN2, hr_1_1 HN2, hw_1_1 HN2, h_is HN2, h_ob HN2, ofs_len1, hg_3_4 HA, hr_3_4 HA, hw_3_4 HA, hg_3_5 HA, hr_3_5 HA, hw_3_5 HA, h_is HA, h_ob HA, ofs_len3, ↓reduceIte, k_cr, k_ci, k_oR, k_oN, k_aR, k_aN, and_true, true_and, and_self, eq_self, Nat.reduceLT, Nat.reduceLeDiff, Nat.reduceEqDiff, Nat.reduceAdd, Nat.reduceMul, Bool.true_eq_false, Bool.false_eq_true, Nat.add_sub_cancel, Nat.not_lt_zero, Nat.zero_le, k_sub, k_sb1, k_r, k_n, k_ret, k_t1, k_t0, k_nr, k_nn, k_z0, k_z1, k_zb, x_okI, lit_nI, k_in, k_cl, k_lt, k_le, k_eq, k_neg, nI_add, nI_mul, k_clt, k_cgt, k_cle, k_cge, k_ceq, bI_0, k_sh8, ne_eq, Nat.add_eq_zero_iff, Nat.one_ne_zero, Nat.succ_ne_zero, and_false, false_and, not_false_eq_true, not_true_eq_false, ite_true, ite_false, if_true, if_false, k4, h1, h2, m4, m5, h_is HO2, h_is HN2, hF, oI, r1, r2, bI_inj, hr, ih]
