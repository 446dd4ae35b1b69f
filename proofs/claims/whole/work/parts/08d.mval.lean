/-! The reference's VALUES: copy, clear, value. -/
def rA (S : gS) (k : Nat) (z : Nat → Int32) : gS := (S.1, S.2.1, va_up S.2.2.1 k z, S.2.2.2.1, S.2.2.2.2.1, S.2.2.2.2.2)
def rL (S : gS) (k : Nat) (z : Nat → Int64) : gS := (S.1, S.2.1, S.2.2.1, va_up S.2.2.2.1 k z, S.2.2.2.2.1, S.2.2.2.2.2)
theorem sI_rA (S : gS) (k : Nat) (z : Nat → Int32) : sI (rA S k z) = sI S := rfl
theorem sJ_rA (S : gS) (k : Nat) (z : Nat → Int32) : sJ (rA S k z) = sJ S := rfl
theorem sL_rA (S : gS) (k : Nat) (z : Nat → Int32) : sL (rA S k z) = sL S := rfl
theorem sR_rA (S : gS) (k : Nat) (z : Nat → Int32) : sR (rA S k z) = sR S := rfl
theorem sQ_rA (S : gS) (k : Nat) (z : Nat → Int32) : sQ (rA S k z) = sQ S := rfl
theorem sI_rL (S : gS) (k : Nat) (z : Nat → Int64) : sI (rL S k z) = sI S := rfl
theorem sJ_rL (S : gS) (k : Nat) (z : Nat → Int64) : sJ (rL S k z) = sJ S := rfl
theorem sA_rL (S : gS) (k : Nat) (z : Nat → Int64) : sA (rL S k z) = sA S := rfl
theorem sR_rL (S : gS) (k : Nat) (z : Nat → Int64) : sR (rL S k z) = sR S := rfl
theorem sQ_rL (S : gS) (k : Nat) (z : Nat → Int64) : sQ (rL S k z) = sQ S := rfl
theorem sA_rA (S : gS) (k : Nat) (z : Nat → Int32) (q j : Nat) : sA (rA S k z) q j = if q = k then z j else sA S q j := by
  show va_up _ k z q j = _
  unfold va_up
  by_cases h : q = k <;> simp [h, sA]
theorem sL_rL (S : gS) (k : Nat) (z : Nat → Int64) (q j : Nat) : sL (rL S k z) q j = if q = k then z j else sL S q j := by
  show va_up _ k z q j = _
  unfold va_up
  by_cases h : q = k <;> simp [h, sL]
theorem va_up_up {α : Type} (f : Nat → α) (k : Nat) (x y : α) : va_up (va_up f k x) k y = va_up f k y := by
  funext q
  unfold va_up
  by_cases h : q = k <;> simp [h]
theorem uA_rA (S : gS) (k i : Nat) (z : Nat → Int32) (v : Int32) : uA (rA S k z) k i v = rA S k (va_up z i v) := by
  unfold uA rA
  dsimp only
  rw [va_up_up, va_up_self]
theorem uL_rL (S : gS) (k i : Nat) (z : Nat → Int64) (v : Int64) : uL (rL S k z) k i v = rL S k (va_up z i v) := by
  unfold uL rL
  dsimp only
  rw [va_up_up, va_up_self]
theorem uA_rL (S : gS) (k l i : Nat) (z : Nat → Int64) (v : Int32) : uA (rL S l z) k i v = rL (uA S k i v) l z := rfl
theorem rA_rL (S : gS) (k l : Nat) (z : Nat → Int64) (y : Nat → Int32) : rA (rL S l z) k y = rL (rA S k y) l z := rfl
theorem rA_id (S : gS) (k : Nat) : rA S k (sA S k) = S := by
  unfold rA sA
  have : va_up S.2.2.1 k (S.2.2.1 k) = S.2.2.1 := by
    funext q
    unfold va_up
    by_cases h : q = k <;> simp [h]
  rw [this]
theorem rL_id (S : gS) (k : Nat) : rL S k (sL S k) = S := by
  unfold rL sL
  have : va_up S.2.2.2.1 k (S.2.2.2.1 k) = S.2.2.2.1 := by
    funext q
    unfold va_up
    by_cases h : q = k <;> simp [h]
  rw [this]
/-- z, with j values of y from place o on -/
def fillF {α : Type} (z y : Nat → α) (o j : Nat) : Nat → α := fun i => if o ≤ i ∧ i < o + j then y (i - o) else z i
theorem fillF_0 {α : Type} (z y : Nat → α) (o : Nat) : fillF z y o 0 = z := by
  funext i
  unfold fillF
  rw [if_neg (by omega)]
theorem fillF_s {α : Type} (z y : Nat → α) (o j : Nat) : va_up (fillF z y o j) (o + j) (y j) = fillF z y o (j + 1) := by
  funext i
  unfold fillF va_up
  by_cases h : i = o + j
  · subst h
    rw [if_pos rfl, if_pos (by omega)]
    congr 1
    omega
  · rw [if_neg h]
    dsimp only
    by_cases h2 : o ≤ i ∧ i < o + j
    · rw [if_pos h2, if_pos (by omega)]
    · rw [if_neg h2, if_neg (by omega)]
theorem fillF_out {α : Type} (z y : Nat → α) {o j i : Nat} (h : i < o ∨ o + j ≤ i) : fillF z y o j i = z i := by
  unfold fillF
  rw [if_neg (by omega)]
theorem fillF_in {α : Type} (z y : Nat → α) {o j i : Nat} (h : i < j) : fillF z y o j (o + i) = y i := by
  unfold fillF
  rw [if_pos (by omega)]
  congr 1
  omega
/-- VALUE v copied to place t -/
def cpA (S : gS) (v t j : Nat) : gS := rA (uA (uL S 8 t (sL S 8 v)) 9 t (sA S 9 v)) 10 (fillF (sA S 10) (fun i => sA S 10 (8 * v + i)) (8 * t) j)
def cpV (S : gS) (v t j : Nat) : gS := rL (cpA S v t 8) 11 (fillF (sL S 11) (fun i => sL S 11 (64 * v + i)) (64 * t) j)
theorem m_copy_loop2 (d : Nat) (h : xH) (M : Nat) (S : gS) (v t : Nat) (hv : v < 180) (ht : t < 180) (hne : v ≠ t) : ∀ (n i : Nat) (u : Nat × Value), i + n = 64 → xrun d 137 62 [(1, .ref M), (1, .int (nI v)), (1, .int (nI t)), (1, .int (nI i))] [] (oh 11 h M (cpV S v t i)) = some (none, oh 11 h M (cpV S v t 64))
  | 0, i, u, hi => by
    have h8 : i = 64 := by omega
    subst h8
    rw [q_137_62]
    simp (disch := omega) only [q_137_0, q_137_1, q_137_4, q_137_5, q_137_6, q_137_9, q_137_10, q_137_11, q_137_12, q_137_13, q_137_16, q_137_17, q_137_18, q_137_21, q_137_22, q_137_23, q_137_24, q_137_25, q_137_27, q_137_29, q_137_32, q_137_33, q_137_36, q_137_38, q_137_39, q_137_40, q_137_41, q_137_42, q_137_43, q_137_46, q_137_48, q_137_49, q_137_50, q_137_51, q_137_52, q_137_53, q_137_54, q_137_57, q_137_60, q_137_61, q_137_63, q_137_65, q_137_68, q_137_69, q_137_72, q_137_74, q_137_75, q_137_76, q_137_77, q_137_78, q_137_79, q_137_82, q_137_84, q_137_85, q_137_86, q_137_87, q_137_88, q_137_89, q_137_90, q_137_93, q_137_96, og_11_8, or_11_8, ow_11_8, og_11_9, or_11_9, ow_11_9, og_11_10, or_11_10, ow_11_10, og_11_11, or_11_11, ow_11_11, o_is, o_ob, ofs_len11, k_cr, k_ci, k_oR, k_oN, k_aR, k_aN, and_true, true_and, and_self, eq_self, Nat.reduceLT, Nat.reduceLeDiff, Nat.reduceEqDiff, Nat.reduceAdd, Nat.reduceMul, Bool.true_eq_false, Bool.false_eq_true, Nat.add_sub_cancel, Nat.not_lt_zero, Nat.zero_le, k_sub, k_sb1, k_r, k_n, k_ret, k_t1, k_t0, k_nr, k_nn, k_z0, k_z1, k_zb, x_okI, lit_nI, k_in, k_cl, k_lt, k_le, k_eq, k_neg, nI_add, nI_mul, k_clt, k_cgt, k_cle, k_cge, k_ceq, bI_0, k_sh8, ne_eq, Nat.add_eq_zero_iff, Nat.one_ne_zero, Nat.succ_ne_zero, and_false, false_and, not_false_eq_true, not_true_eq_false, ite_true, ite_false, if_true, if_false]
  | n + 1, i, u, hi => by
    rw [q_137_62]
    have h8 : ¬ 64 ≤ i := by omega
    have hr : sL (cpV S v t i) 11 (64 * v + i) = sL S 11 (64 * v + i) := by
      unfold cpV
      rw [sL_rL, if_pos rfl, fillF_out]
      omega
    have hu : uL (cpV S v t i) 11 (64 * t + i) (sL S 11 (64 * v + i)) = cpV S v t (i + 1) := by
      unfold cpV
      rw [uL_rL, fillF_s (sL S 11) (fun i => sL S 11 (64 * v + i))]
    simp (disch := omega) only [q_137_0, q_137_1, q_137_4, q_137_5, q_137_6, q_137_9, q_137_10, q_137_11, q_137_12, q_137_13, q_137_16, q_137_17, q_137_18, q_137_21, q_137_22, q_137_23, q_137_24, q_137_25, q_137_27, q_137_29, q_137_32, q_137_33, q_137_36, q_137_38, q_137_39, q_137_40, q_137_41, q_137_42, q_137_43, q_137_46, q_137_48, q_137_49, q_137_50, q_137_51, q_137_52, q_137_53, q_137_54, q_137_57, q_137_60, q_137_61, q_137_63, q_137_65, q_137_68, q_137_69, q_137_72, q_137_74, q_137_75, q_137_76, q_137_77, q_137_78, q_137_79, q_137_82, q_137_84, q_137_85, q_137_86, q_137_87, q_137_88, q_137_89, q_137_90, q_137_93, q_137_96, og_11_8, or_11_8, ow_11_8, og_11_9, or_11_9, ow_11_9, og_11_10, or_11_10, ow_11_10, og_11_11, or_11_11, ow_11_11, o_is, o_ob, ofs_len11, k_cr, k_ci, k_oR, k_oN, k_aR, k_aN, and_true, true_and, and_self, eq_self, Nat.reduceLT, Nat.reduceLeDiff, Nat.reduceEqDiff, Nat.reduceAdd, Nat.reduceMul, Bool.true_eq_false, Bool.false_eq_true, Nat.add_sub_cancel, Nat.not_lt_zero, Nat.zero_le, k_sub, k_sb1, k_r, k_n, k_ret, k_t1, k_t0, k_nr, k_nn, k_z0, k_z1, k_zb, x_okI, lit_nI, k_in, k_cl, k_lt, k_le, k_eq, k_neg, nI_add, nI_mul, k_clt, k_cgt, k_cle, k_cge, k_ceq, bI_0, k_sh8, ne_eq, Nat.add_eq_zero_iff, Nat.one_ne_zero, Nat.succ_ne_zero, and_false, false_and, not_false_eq_true, not_true_eq_false, ite_true, ite_false, if_true, if_false, h8, hr, hu]
    exact m_copy_loop2 d h M S v t hv ht hne n (i + 1) u (by omega)
theorem m_copy_loop1 (d : Nat) (h : xH) (M : Nat) (S : gS) (v t : Nat) (hv : v < 180) (ht : t < 180) (hne : v ≠ t) : ∀ (n i : Nat), i + n = 8 → xrun d 137 26 [(1, .ref M), (1, .int (nI v)), (1, .int (nI t)), (1, .int (nI i))] [] (oh 11 h M (cpA S v t i)) = some (none, oh 11 h M (cpV S v t 64))
  | 0, i, hi => by
    have h8 : i = 8 := by omega
    subst h8
    rw [q_137_26]
    have he : cpA S v t 8 = cpV S v t 0 := by
      unfold cpV
      rw [fillF_0]
      have : sL S 11 = sL (cpA S v t 8) 11 := by
        funext q
        unfold cpA
        simp only [sL_rA, sL_uA, sL_uL]
        simp
      rw [this, rL_id]
    simp (disch := omega) only [q_137_0, q_137_1, q_137_4, q_137_5, q_137_6, q_137_9, q_137_10, q_137_11, q_137_12, q_137_13, q_137_16, q_137_17, q_137_18, q_137_21, q_137_22, q_137_23, q_137_24, q_137_25, q_137_27, q_137_29, q_137_32, q_137_33, q_137_36, q_137_38, q_137_39, q_137_40, q_137_41, q_137_42, q_137_43, q_137_46, q_137_48, q_137_49, q_137_50, q_137_51, q_137_52, q_137_53, q_137_54, q_137_57, q_137_60, q_137_61, q_137_63, q_137_65, q_137_68, q_137_69, q_137_72, q_137_74, q_137_75, q_137_76, q_137_77, q_137_78, q_137_79, q_137_82, q_137_84, q_137_85, q_137_86, q_137_87, q_137_88, q_137_89, q_137_90, q_137_93, q_137_96, og_11_8, or_11_8, ow_11_8, og_11_9, or_11_9, ow_11_9, og_11_10, or_11_10, ow_11_10, og_11_11, or_11_11, ow_11_11, o_is, o_ob, ofs_len11, k_cr, k_ci, k_oR, k_oN, k_aR, k_aN, and_true, true_and, and_self, eq_self, Nat.reduceLT, Nat.reduceLeDiff, Nat.reduceEqDiff, Nat.reduceAdd, Nat.reduceMul, Bool.true_eq_false, Bool.false_eq_true, Nat.add_sub_cancel, Nat.not_lt_zero, Nat.zero_le, k_sub, k_sb1, k_r, k_n, k_ret, k_t1, k_t0, k_nr, k_nn, k_z0, k_z1, k_zb, x_okI, lit_nI, k_in, k_cl, k_lt, k_le, k_eq, k_neg, nI_add, nI_mul, k_clt, k_cgt, k_cle, k_cge, k_ceq, bI_0, k_sh8, ne_eq, Nat.add_eq_zero_iff, Nat.one_ne_zero, Nat.succ_ne_zero, and_false, false_and, not_false_eq_true, not_true_eq_false, ite_true, ite_false, if_true, if_false]
    rw [he]
    exact m_copy_loop2 d h M S v t hv ht hne 64 0 (0, .null) (by omega)
  | n + 1, i, hi => by
    rw [q_137_26]
    have h8 : ¬ 8 ≤ i := by omega
    have hr : sA (cpA S v t i) 10 (8 * v + i) = sA S 10 (8 * v + i) := by
      unfold cpA
      rw [sA_rA, if_pos rfl, fillF_out]
      omega
    have hu : uA (cpA S v t i) 10 (8 * t + i) (sA S 10 (8 * v + i)) = cpA S v t (i + 1) := by
      unfold cpA
      rw [uA_rA, fillF_s (sA S 10) (fun i => sA S 10 (8 * v + i))]
    simp (disch := omega) only [q_137_0, q_137_1, q_137_4, q_137_5, q_137_6, q_137_9, q_137_10, q_137_11, q_137_12, q_137_13, q_137_16, q_137_17, q_137_18, q_137_21, q_137_22, q_137_23, q_137_24, q_137_25, q_137_27, q_137_29, q_137_32, q_137_33, q_137_36, q_137_38, q_137_39, q_137_40, q_137_41, q_137_42, q_137_43, q_137_46, q_137_48, q_137_49, q_137_50, q_137_51, q_137_52, q_137_53, q_137_54, q_137_57, q_137_60, q_137_61, q_137_63, q_137_65, q_137_68, q_137_69, q_137_72, q_137_74, q_137_75, q_137_76, q_137_77, q_137_78, q_137_79, q_137_82, q_137_84, q_137_85, q_137_86, q_137_87, q_137_88, q_137_89, q_137_90, q_137_93, q_137_96, og_11_8, or_11_8, ow_11_8, og_11_9, or_11_9, ow_11_9, og_11_10, or_11_10, ow_11_10, og_11_11, or_11_11, ow_11_11, o_is, o_ob, ofs_len11, k_cr, k_ci, k_oR, k_oN, k_aR, k_aN, and_true, true_and, and_self, eq_self, Nat.reduceLT, Nat.reduceLeDiff, Nat.reduceEqDiff, Nat.reduceAdd, Nat.reduceMul, Bool.true_eq_false, Bool.false_eq_true, Nat.add_sub_cancel, Nat.not_lt_zero, Nat.zero_le, k_sub, k_sb1, k_r, k_n, k_ret, k_t1, k_t0, k_nr, k_nn, k_z0, k_z1, k_zb, x_okI, lit_nI, k_in, k_cl, k_lt, k_le, k_eq, k_neg, nI_add, nI_mul, k_clt, k_cgt, k_cle, k_cge, k_ceq, bI_0, k_sh8, ne_eq, Nat.add_eq_zero_iff, Nat.one_ne_zero, Nat.succ_ne_zero, and_false, false_and, not_false_eq_true, not_true_eq_false, ite_true, ite_false, if_true, if_false, h8, hr, hu]
    exact m_copy_loop1 d h M S v t hv ht hne n (i + 1) (by omega)
theorem m_copy (d : Nat) (h : xH) (M : Nat) (S : gS) (v t : Nat) (hv : v < 180) (ht : t < 180) (hne : v ≠ t) : xm (d + 1) 137 [.ref M, .int (nI v), .int (nI t)] (oh 11 h M S) = some (none, oh 11 h M (cpV S v t 64)) := by
  rw [E_137 _ _ _ _ _ rfl]
  have he : uA (uL S 8 t (sL S 8 v)) 9 t (sA S 9 v) = cpA S v t 0 := by
    unfold cpA
    rw [fillF_0]
    have : sA S 10 = sA (uA (uL S 8 t (sL S 8 v)) 9 t (sA S 9 v)) 10 := by
      funext q
      simp only [sA_uA, sA_uL]
      simp
    rw [this, rA_id]
  simp (disch := omega) only [q_137_0, q_137_1, q_137_4, q_137_5, q_137_6, q_137_9, q_137_10, q_137_11, q_137_12, q_137_13, q_137_16, q_137_17, q_137_18, q_137_21, q_137_22, q_137_23, q_137_24, q_137_25, q_137_27, q_137_29, q_137_32, q_137_33, q_137_36, q_137_38, q_137_39, q_137_40, q_137_41, q_137_42, q_137_43, q_137_46, q_137_48, q_137_49, q_137_50, q_137_51, q_137_52, q_137_53, q_137_54, q_137_57, q_137_60, q_137_61, q_137_63, q_137_65, q_137_68, q_137_69, q_137_72, q_137_74, q_137_75, q_137_76, q_137_77, q_137_78, q_137_79, q_137_82, q_137_84, q_137_85, q_137_86, q_137_87, q_137_88, q_137_89, q_137_90, q_137_93, q_137_96, og_11_8, or_11_8, ow_11_8, og_11_9, or_11_9, ow_11_9, og_11_10, or_11_10, ow_11_10, og_11_11, or_11_11, ow_11_11, o_is, o_ob, ofs_len11, k_cr, k_ci, k_oR, k_oN, k_aR, k_aN, and_true, true_and, and_self, eq_self, Nat.reduceLT, Nat.reduceLeDiff, Nat.reduceEqDiff, Nat.reduceAdd, Nat.reduceMul, Bool.true_eq_false, Bool.false_eq_true, Nat.add_sub_cancel, Nat.not_lt_zero, Nat.zero_le, k_sub, k_sb1, k_r, k_n, k_ret, k_t1, k_t0, k_nr, k_nn, k_z0, k_z1, k_zb, x_okI, lit_nI, k_in, k_cl, k_lt, k_le, k_eq, k_neg, nI_add, nI_mul, k_clt, k_cgt, k_cle, k_cge, k_ceq, bI_0, k_sh8, ne_eq, Nat.add_eq_zero_iff, Nat.one_ne_zero, Nat.succ_ne_zero, and_false, false_and, not_false_eq_true, not_true_eq_false, ite_true, ite_false, if_true, if_false, sI_uI, sJ_uI, sA_uI, sL_uI, sR_uI, sQ_uI, sI_uJ, sJ_uJ, sA_uJ, sL_uJ, sR_uJ, sQ_uJ, sI_uA, sJ_uA, sA_uA, sL_uA, sR_uA, sQ_uA, sI_uL, sJ_uL, sA_uL, sL_uL, sR_uL, sQ_uL, sI_uR, sJ_uR, sA_uR, sL_uR, sR_uR, sQ_uR, sI_uQ, sJ_uQ, sA_uQ, sL_uQ, sR_uQ, sQ_uQ]
  rw [he]
  exact m_copy_loop1 d h M S v t hv ht hne 8 0 (by omega)
