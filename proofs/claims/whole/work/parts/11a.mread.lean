/-! The reference cuts a text into pieces: read(). -/
/-- the reference's reader: where it is, where the piece stands, what it tells, what it is -/
def rdS (S : gS) (p at_ : Nat) (v : Int64) (c : Int32) : gS := (fun k => if k = 30 then nI p else if k = 31 then c else if k = 32 then nI at_ else S.1 k, fun k => if k = 33 then v else S.2.1 k, S.2.2)
theorem rdS_30 (S : gS) (p a q : Nat) (v : Int64) (c : Int32) : uI (rdS S p a v c) 30 (nI q) = rdS S q a v c := by
  unfold rdS uI
  refine Prod.ext ?_ rfl
  funext k
  show va_up _ 30 (nI q) k = _
  unfold va_up
  by_cases h : k = 30 <;> simp [h]
theorem rdS_31 (S : gS) (p a : Nat) (v : Int64) (c e : Int32) : uI (rdS S p a v c) 31 e = rdS S p a v e := by
  unfold rdS uI
  refine Prod.ext ?_ rfl
  funext k
  show va_up _ 31 e k = _
  unfold va_up
  by_cases h : k = 31
  · simp [h]
  · simp [h]
theorem rdS_32 (S : gS) (p a b : Nat) (v : Int64) (c : Int32) : uI (rdS S p a v c) 32 (nI b) = rdS S p b v c := by
  unfold rdS uI
  refine Prod.ext ?_ rfl
  funext k
  show va_up _ 32 (nI b) k = _
  unfold va_up
  by_cases h : k = 32
  · simp [h]
  · simp [h]
theorem rdS_33 (S : gS) (p a : Nat) (v x : Int64) (c : Int32) : uJ (rdS S p a v c) 33 x = rdS S p a x c := by
  unfold rdS uJ
  refine Prod.ext rfl (Prod.ext ?_ rfl)
  funext k
  show va_up _ 33 x k = _
  unfold va_up
  by_cases h : k = 33
  · simp [h]
  · simp [h]
theorem sI_rd30 (S : gS) (p a : Nat) (v : Int64) (c : Int32) : sI (rdS S p a v c) 30 = nI p := rfl
theorem sI_rd31 (S : gS) (p a : Nat) (v : Int64) (c : Int32) : sI (rdS S p a v c) 31 = c := rfl
theorem sI_rd32 (S : gS) (p a : Nat) (v : Int64) (c : Int32) : sI (rdS S p a v c) 32 = nI a := rfl
theorem sI_rd29 (S : gS) (p a : Nat) (v : Int64) (c : Int32) : sI (rdS S p a v c) 29 = sI S 29 := rfl
theorem sJ_rd33 (S : gS) (p a : Nat) (v : Int64) (c : Int32) : sJ (rdS S p a v c) 33 = v := rfl
theorem sA_rd (S : gS) (p a : Nat) (v : Int64) (c : Int32) : sA (rdS S p a v c) = sA S := rfl
/-- blanks are passed over -/
def skF (t : Nat → Int32) : Nat → Nat → Nat
  | 0, p => p
  | k + 1, p => if t p = nI 32 ∨ t p = nI 10 then skF t k (p + 1) else p
theorem skF_s (t : Nat → Int32) (k p : Nat) : skF t (k + 1) p = if t p = nI 32 ∨ t p = nI 10 then skF t k (p + 1) else p := rfl
theorem skF_le (t : Nat → Int32) : ∀ (k p : Nat), p ≤ skF t k p ∧ skF t k p ≤ p + k
  | 0, p => ⟨Nat.le_refl _, Nat.le_refl _⟩
  | k + 1, p => by
    rw [skF_s]
    split
    · have := skF_le t k (p + 1)
      omega
    · omega
theorem m_skip (d : Nat) (h : xH) (M n : Nat) (S : gS) (a : Nat) (v : Int64) (c : Int32) (hn : sI S 29 = nI n) (h7 : n ≤ 700) : ∀ (k p : Nat), p + k = n → xrun d 148 0 [(1, .ref M), (0, .null), (0, .null)] [] (oh 11 h M (rdS S p a v c)) = xrun d 148 52 [(1, .ref M), (0, .null), (0, .null)] [] (oh 11 h M (rdS S (skF (sA S 28) k p) a v c))
  | 0, p, hp => by
    have : p = n := by omega
    subst this
    rw [q_148_0]
    simp (disch := omega) only [q_148_1, q_148_4, q_148_5, q_148_8, q_148_11, q_148_12, q_148_15, q_148_16, q_148_19, q_148_20, q_148_22, q_148_25, q_148_26, q_148_29, q_148_30, q_148_33, q_148_34, q_148_36, q_148_39, q_148_40, q_148_41, q_148_44, q_148_45, q_148_46, q_148_49, og_11_30, op_11_30, og_11_29, og_11_28, or_11_28, ow_11_28, og_11_32, op_11_32, og_11_33, op_11_33, og_11_31, op_11_31, o_is, o_ob, ofs_len11, k_cr, k_ci, k_oR, k_oN, k_aR, k_aN, and_true, true_and, and_self, eq_self, Nat.reduceLT, Nat.reduceLeDiff, Nat.reduceEqDiff, Nat.reduceAdd, Nat.reduceMul, Bool.true_eq_false, Bool.false_eq_true, Nat.add_sub_cancel, Nat.not_lt_zero, Nat.zero_le, k_sub, k_sb1, k_r, k_n, k_ret, k_t1, k_t0, k_nr, k_nn, k_z0, k_z1, k_zb, x_okI, lit_nI, k_in, k_cl, k_lt, k_le, k_eq, k_neg, nI_add, nI_mul, k_clt, k_cgt, k_cle, k_cge, k_ceq, bI_0, k_sh8, ne_eq, Nat.add_eq_zero_iff, Nat.one_ne_zero, Nat.succ_ne_zero, and_false, false_and, not_false_eq_true, not_true_eq_false, ite_true, ite_false, if_true, if_false, sI_rd30, sI_rd29, hn, Nat.le_refl]
    rfl
  | k + 1, p, hp => by
    rw [q_148_0]
    have h1 : ¬ n ≤ p := by omega
    have ih := m_skip d h M n S a v c hn h7 k (p + 1) (by omega)
    simp (disch := omega) only [q_148_1, q_148_4, q_148_5, q_148_8, q_148_11, q_148_12, q_148_15, q_148_16, q_148_19, q_148_20, q_148_22, q_148_25, q_148_26, q_148_29, q_148_30, q_148_33, q_148_34, q_148_36, q_148_39, q_148_40, q_148_41, q_148_44, q_148_45, q_148_46, q_148_49, og_11_30, op_11_30, og_11_29, og_11_28, or_11_28, ow_11_28, og_11_32, op_11_32, og_11_33, op_11_33, og_11_31, op_11_31, o_is, o_ob, ofs_len11, k_cr, k_ci, k_oR, k_oN, k_aR, k_aN, and_true, true_and, and_self, eq_self, Nat.reduceLT, Nat.reduceLeDiff, Nat.reduceEqDiff, Nat.reduceAdd, Nat.reduceMul, Bool.true_eq_false, Bool.false_eq_true, Nat.add_sub_cancel, Nat.not_lt_zero, Nat.zero_le, k_sub, k_sb1, k_r, k_n, k_ret, k_t1, k_t0, k_nr, k_nn, k_z0, k_z1, k_zb, x_okI, lit_nI, k_in, k_cl, k_lt, k_le, k_eq, k_neg, nI_add, nI_mul, k_clt, k_cgt, k_cle, k_cge, k_ceq, bI_0, k_sh8, ne_eq, Nat.add_eq_zero_iff, Nat.one_ne_zero, Nat.succ_ne_zero, and_false, false_and, not_false_eq_true, not_true_eq_false, ite_true, ite_false, if_true, if_false, sI_rd30, sI_rd29, hn, h1, sA_rd, rdS_30, ih, skF_s]
    by_cases e1 : sA S 28 p = nI 32
    · simp only [e1, if_true, true_or]
    · by_cases e2 : sA S 28 p = nI 10
      · simp only [e1, e2, if_true, if_false, or_true]
        rw [if_neg (by decide)]
      · simp only [e1, e2, if_false, or_self]
def isLt (c : Int32) : Bool := inL c.toInt64 97 122
def isDg (c : Int32) : Bool := inL c.toInt64 48 57
def sl8 (v : Int64) (c : Int32) : Int64 := (v <<< ((nI 8).toInt64 &&& 63)) ||| c.toInt64
/-- letters as far as they go: where, what they tell, how many -/
def wdF (t : Nat → Int32) : Nat → Nat → Int64 → Nat → Nat × Int64 × Nat
  | 0, p, v, m => (p, v, m)
  | k + 1, p, v, m => if isLt (t p) = true then wdF t k (p + 1) (sl8 v (t p)) (m + 1) else (p, v, m)
theorem wdF_s (t : Nat → Int32) (k p : Nat) (v : Int64) (m : Nat) : wdF t (k + 1) p v m = if isLt (t p) = true then wdF t k (p + 1) (sl8 v (t p)) (m + 1) else (p, v, m) := rfl
theorem m_word (d : Nat) (h : xH) (M n : Nat) (S : gS) (a : Nat) (c e : Int32) (hn : sI S 29 = nI n) (h7 : n ≤ 700) : ∀ (k p : Nat) (v : Int64) (m : Nat), p + k = n → m ≤ p → xrun (d + 1) 148 113 [(1, .ref M), (1, .int e), (1, .int (nI m))] [] (oh 11 h M (rdS S p a v c)) = xrun (d + 1) 148 184 [(1, .ref M), (1, .int e), (1, .int (nI (wdF (sA S 28) k p v m).2.2))] [] (oh 11 h M (rdS S (wdF (sA S 28) k p v m).1 a (wdF (sA S 28) k p v m).2.1 c))
  | 0, p, v, m, hp, hm => by
    have : p = n := by omega
    subst this
    rw [q_148_113]
    simp (disch := omega) only [q_148_1, q_148_4, q_148_5, q_148_8, q_148_11, q_148_12, q_148_15, q_148_16, q_148_19, q_148_20, q_148_22, q_148_25, q_148_26, q_148_29, q_148_30, q_148_33, q_148_34, q_148_36, q_148_39, q_148_40, q_148_41, q_148_44, q_148_45, q_148_46, q_148_49, q_148_52, q_148_53, q_148_54, q_148_57, q_148_60, q_148_61, q_148_62, q_148_65, q_148_66, q_148_67, q_148_70, q_148_71, q_148_74, q_148_75, q_148_78, q_148_81, q_148_82, q_148_83, q_148_86, q_148_87, q_148_90, q_148_91, q_148_92, q_148_93, q_148_94, q_148_97, q_148_100, q_148_103, q_148_106, q_148_107, q_148_108, q_148_111, q_148_112, q_148_114, q_148_117, q_148_118, q_148_121, q_148_124, q_148_125, q_148_128, q_148_129, q_148_132, q_148_133, q_148_134, q_148_137, q_148_140, q_148_143, q_148_146, q_148_147, q_148_148, q_148_151, q_148_153, q_148_154, q_148_155, q_148_158, q_148_159, q_148_162, q_148_163, q_148_164, q_148_165, q_148_168, q_148_171, q_148_172, q_148_173, q_148_176, q_148_177, q_148_178, q_148_181, og_11_30, op_11_30, og_11_29, og_11_28, or_11_28, ow_11_28, og_11_32, op_11_32, og_11_33, op_11_33, og_11_31, op_11_31, o_is, o_ob, ofs_len11, k_cr, k_ci, k_oR, k_oN, k_aR, k_aN, and_true, true_and, and_self, eq_self, Nat.reduceLT, Nat.reduceLeDiff, Nat.reduceEqDiff, Nat.reduceAdd, Nat.reduceMul, Bool.true_eq_false, Bool.false_eq_true, Nat.add_sub_cancel, Nat.not_lt_zero, Nat.zero_le, k_sub, k_sb1, k_r, k_n, k_ret, k_t1, k_t0, k_nr, k_nn, k_z0, k_z1, k_zb, x_okI, lit_nI, k_in, k_cl, k_lt, k_le, k_eq, k_neg, nI_add, nI_mul, k_clt, k_cgt, k_cle, k_cge, k_ceq, bI_0, k_sh8, ne_eq, Nat.add_eq_zero_iff, Nat.one_ne_zero, Nat.succ_ne_zero, and_false, false_and, not_false_eq_true, not_true_eq_false, ite_true, ite_false, if_true, if_false, sI_rd30, sI_rd29, hn, Nat.le_refl]
    rfl
  | k + 1, p, v, m, hp, hm => by
    rw [q_148_113]
    have h1 : ¬ n ≤ p := by omega
    have ih := m_word d h M n S a c e hn h7 k (p + 1) (sl8 v (sA S 28 p)) (m + 1) (by omega) (by omega)
    rw [wdF_s]
    cases hl : isLt (sA S 28 p) with
    | true =>
      have hl' : inL (sA S 28 p).toInt64 97 122 = true := hl
      unfold sl8 at ih
      simp only [if_true]
      simp (disch := omega) only [q_148_1, q_148_4, q_148_5, q_148_8, q_148_11, q_148_12, q_148_15, q_148_16, q_148_19, q_148_20, q_148_22, q_148_25, q_148_26, q_148_29, q_148_30, q_148_33, q_148_34, q_148_36, q_148_39, q_148_40, q_148_41, q_148_44, q_148_45, q_148_46, q_148_49, q_148_52, q_148_53, q_148_54, q_148_57, q_148_60, q_148_61, q_148_62, q_148_65, q_148_66, q_148_67, q_148_70, q_148_71, q_148_74, q_148_75, q_148_78, q_148_81, q_148_82, q_148_83, q_148_86, q_148_87, q_148_90, q_148_91, q_148_92, q_148_93, q_148_94, q_148_97, q_148_100, q_148_103, q_148_106, q_148_107, q_148_108, q_148_111, q_148_112, q_148_114, q_148_117, q_148_118, q_148_121, q_148_124, q_148_125, q_148_128, q_148_129, q_148_132, q_148_133, q_148_134, q_148_137, q_148_140, q_148_143, q_148_146, q_148_147, q_148_148, q_148_151, q_148_153, q_148_154, q_148_155, q_148_158, q_148_159, q_148_162, q_148_163, q_148_164, q_148_165, q_148_168, q_148_171, q_148_172, q_148_173, q_148_176, q_148_177, q_148_178, q_148_181, og_11_30, op_11_30, og_11_29, og_11_28, or_11_28, ow_11_28, og_11_32, op_11_32, og_11_33, op_11_33, og_11_31, op_11_31, o_is, o_ob, ofs_len11, k_cr, k_ci, k_oR, k_oN, k_aR, k_aN, and_true, true_and, and_self, eq_self, Nat.reduceLT, Nat.reduceLeDiff, Nat.reduceEqDiff, Nat.reduceAdd, Nat.reduceMul, Bool.true_eq_false, Bool.false_eq_true, Nat.add_sub_cancel, Nat.not_lt_zero, Nat.zero_le, k_sub, k_sb1, k_r, k_n, k_ret, k_t1, k_t0, k_nr, k_nn, k_z0, k_z1, k_zb, x_okI, lit_nI, k_in, k_cl, k_lt, k_le, k_eq, k_neg, nI_add, nI_mul, k_clt, k_cgt, k_cle, k_cge, k_ceq, bI_0, k_sh8, ne_eq, Nat.add_eq_zero_iff, Nat.one_ne_zero, Nat.succ_ne_zero, and_false, false_and, not_false_eq_true, not_true_eq_false, ite_true, ite_false, if_true, if_false, sI_rd30, sI_rd29, sJ_rd33, hn, h1, sA_rd, rdS_30, rdS_33, m_inL, hl', x_okJ]
      exact ih
    | false =>
      have hl' : inL (sA S 28 p).toInt64 97 122 = false := hl
      simp only [Bool.false_eq_true, if_false]
      simp (disch := omega) only [q_148_1, q_148_4, q_148_5, q_148_8, q_148_11, q_148_12, q_148_15, q_148_16, q_148_19, q_148_20, q_148_22, q_148_25, q_148_26, q_148_29, q_148_30, q_148_33, q_148_34, q_148_36, q_148_39, q_148_40, q_148_41, q_148_44, q_148_45, q_148_46, q_148_49, q_148_52, q_148_53, q_148_54, q_148_57, q_148_60, q_148_61, q_148_62, q_148_65, q_148_66, q_148_67, q_148_70, q_148_71, q_148_74, q_148_75, q_148_78, q_148_81, q_148_82, q_148_83, q_148_86, q_148_87, q_148_90, q_148_91, q_148_92, q_148_93, q_148_94, q_148_97, q_148_100, q_148_103, q_148_106, q_148_107, q_148_108, q_148_111, q_148_112, q_148_114, q_148_117, q_148_118, q_148_121, q_148_124, q_148_125, q_148_128, q_148_129, q_148_132, q_148_133, q_148_134, q_148_137, q_148_140, q_148_143, q_148_146, q_148_147, q_148_148, q_148_151, q_148_153, q_148_154, q_148_155, q_148_158, q_148_159, q_148_162, q_148_163, q_148_164, q_148_165, q_148_168, q_148_171, q_148_172, q_148_173, q_148_176, q_148_177, q_148_178, q_148_181, og_11_30, op_11_30, og_11_29, og_11_28, or_11_28, ow_11_28, og_11_32, op_11_32, og_11_33, op_11_33, og_11_31, op_11_31, o_is, o_ob, ofs_len11, k_cr, k_ci, k_oR, k_oN, k_aR, k_aN, and_true, true_and, and_self, eq_self, Nat.reduceLT, Nat.reduceLeDiff, Nat.reduceEqDiff, Nat.reduceAdd, Nat.reduceMul, Bool.true_eq_false, Bool.false_eq_true, Nat.add_sub_cancel, Nat.not_lt_zero, Nat.zero_le, k_sub, k_sb1, k_r, k_n, k_ret, k_t1, k_t0, k_nr, k_nn, k_z0, k_z1, k_zb, x_okI, lit_nI, k_in, k_cl, k_lt, k_le, k_eq, k_neg, nI_add, nI_mul, k_clt, k_cgt, k_cle, k_cge, k_ceq, bI_0, k_sh8, ne_eq, Nat.add_eq_zero_iff, Nat.one_ne_zero, Nat.succ_ne_zero, and_false, false_and, not_false_eq_true, not_true_eq_false, ite_true, ite_false, if_true, if_false, sI_rd30, sI_rd29, hn, h1, sA_rd, m_inL, hl']
/-- digits as far as they go -/
def nuV (v : Int64) (c : Int32) : Int64 := if 2147483647 < 10 * v + c.toInt64 - 48 then 2147483648 else 10 * v + c.toInt64 - 48
def nuF (t : Nat → Int32) : Nat → Nat → Int64 → Nat × Int64
  | 0, p, v => (p, v)
  | k + 1, p, v => if isDg (t p) = true then nuF t k (p + 1) (nuV v (t p)) else (p, v)
theorem nuF_s (t : Nat → Int32) (k p : Nat) (v : Int64) : nuF t (k + 1) p v = if isDg (t p) = true then nuF t k (p + 1) (nuV v (t p)) else (p, v) := rfl
theorem m_num (d : Nat) (h : xH) (M n : Nat) (S : gS) (a : Nat) (c e : Int32) (hn : sI S 29 = nI n) (h7 : n ≤ 700) : ∀ (k p : Nat) (v : Int64), p + k = n → xrun (d + 1) 148 215 [(1, .ref M), (1, .int e), (0, .null)] [] (oh 11 h M (rdS S p a v c)) = xrun (d + 1) 148 306 [(1, .ref M), (1, .int e), (0, .null)] [] (oh 11 h M (rdS S (nuF (sA S 28) k p v).1 a (nuF (sA S 28) k p v).2 c))
  | 0, p, v, hp => by
    have : p = n := by omega
    subst this
    rw [q_148_215]
    simp (disch := omega) only [q_148_1, q_148_4, q_148_5, q_148_8, q_148_11, q_148_12, q_148_15, q_148_16, q_148_19, q_148_20, q_148_22, q_148_25, q_148_26, q_148_29, q_148_30, q_148_33, q_148_34, q_148_36, q_148_39, q_148_40, q_148_41, q_148_44, q_148_45, q_148_46, q_148_49, q_148_52, q_148_53, q_148_54, q_148_57, q_148_60, q_148_61, q_148_62, q_148_65, q_148_66, q_148_67, q_148_70, q_148_71, q_148_74, q_148_75, q_148_78, q_148_81, q_148_82, q_148_83, q_148_86, q_148_87, q_148_90, q_148_91, q_148_92, q_148_93, q_148_94, q_148_97, q_148_100, q_148_103, q_148_106, q_148_107, q_148_108, q_148_111, q_148_112, q_148_114, q_148_117, q_148_118, q_148_121, q_148_124, q_148_125, q_148_128, q_148_129, q_148_132, q_148_133, q_148_134, q_148_137, q_148_140, q_148_143, q_148_146, q_148_147, q_148_148, q_148_151, q_148_153, q_148_154, q_148_155, q_148_158, q_148_159, q_148_162, q_148_163, q_148_164, q_148_165, q_148_168, q_148_171, q_148_172, q_148_173, q_148_176, q_148_177, q_148_178, q_148_181, q_148_184, q_148_185, q_148_187, q_148_190, q_148_191, q_148_192, q_148_195, q_148_196, q_148_197, q_148_198, q_148_201, q_148_204, q_148_207, q_148_210, q_148_211, q_148_212, q_148_216, q_148_219, q_148_220, q_148_223, q_148_226, q_148_227, q_148_230, q_148_231, q_148_234, q_148_235, q_148_236, q_148_239, q_148_242, q_148_245, q_148_248, q_148_249, q_148_252, q_148_253, q_148_256, q_148_257, q_148_258, q_148_261, q_148_262, q_148_265, q_148_266, q_148_267, q_148_268, q_148_271, q_148_272, q_148_275, q_148_276, q_148_279, q_148_282, q_148_283, q_148_286, q_148_287, q_148_290, q_148_293, q_148_294, q_148_295, q_148_298, q_148_299, q_148_300, q_148_303, og_11_30, op_11_30, og_11_29, og_11_28, or_11_28, ow_11_28, og_11_32, op_11_32, og_11_33, op_11_33, og_11_31, op_11_31, o_is, o_ob, ofs_len11, k_cr, k_ci, k_oR, k_oN, k_aR, k_aN, and_true, true_and, and_self, eq_self, Nat.reduceLT, Nat.reduceLeDiff, Nat.reduceEqDiff, Nat.reduceAdd, Nat.reduceMul, Bool.true_eq_false, Bool.false_eq_true, Nat.add_sub_cancel, Nat.not_lt_zero, Nat.zero_le, k_sub, k_sb1, k_r, k_n, k_ret, k_t1, k_t0, k_nr, k_nn, k_z0, k_z1, k_zb, x_okI, lit_nI, k_in, k_cl, k_lt, k_le, k_eq, k_neg, nI_add, nI_mul, k_clt, k_cgt, k_cle, k_cge, k_ceq, bI_0, k_sh8, ne_eq, Nat.add_eq_zero_iff, Nat.one_ne_zero, Nat.succ_ne_zero, and_false, false_and, not_false_eq_true, not_true_eq_false, ite_true, ite_false, if_true, if_false, sI_rd30, sI_rd29, hn, Nat.le_refl]
    rfl
  | k + 1, p, v, hp => by
    rw [q_148_215]
    have h1 : ¬ n ≤ p := by omega
    have ih := m_num d h M n S a c e hn h7 k (p + 1) (nuV v (sA S 28 p)) (by omega)
    rw [nuF_s]
    cases hl : isDg (sA S 28 p) with
    | true =>
      have hl' : inL (sA S 28 p).toInt64 48 57 = true := hl
      simp only [if_true]
      simp (disch := omega) only [q_148_1, q_148_4, q_148_5, q_148_8, q_148_11, q_148_12, q_148_15, q_148_16, q_148_19, q_148_20, q_148_22, q_148_25, q_148_26, q_148_29, q_148_30, q_148_33, q_148_34, q_148_36, q_148_39, q_148_40, q_148_41, q_148_44, q_148_45, q_148_46, q_148_49, q_148_52, q_148_53, q_148_54, q_148_57, q_148_60, q_148_61, q_148_62, q_148_65, q_148_66, q_148_67, q_148_70, q_148_71, q_148_74, q_148_75, q_148_78, q_148_81, q_148_82, q_148_83, q_148_86, q_148_87, q_148_90, q_148_91, q_148_92, q_148_93, q_148_94, q_148_97, q_148_100, q_148_103, q_148_106, q_148_107, q_148_108, q_148_111, q_148_112, q_148_114, q_148_117, q_148_118, q_148_121, q_148_124, q_148_125, q_148_128, q_148_129, q_148_132, q_148_133, q_148_134, q_148_137, q_148_140, q_148_143, q_148_146, q_148_147, q_148_148, q_148_151, q_148_153, q_148_154, q_148_155, q_148_158, q_148_159, q_148_162, q_148_163, q_148_164, q_148_165, q_148_168, q_148_171, q_148_172, q_148_173, q_148_176, q_148_177, q_148_178, q_148_181, q_148_184, q_148_185, q_148_187, q_148_190, q_148_191, q_148_192, q_148_195, q_148_196, q_148_197, q_148_198, q_148_201, q_148_204, q_148_207, q_148_210, q_148_211, q_148_212, q_148_216, q_148_219, q_148_220, q_148_223, q_148_226, q_148_227, q_148_230, q_148_231, q_148_234, q_148_235, q_148_236, q_148_239, q_148_242, q_148_245, q_148_248, q_148_249, q_148_252, q_148_253, q_148_256, q_148_257, q_148_258, q_148_261, q_148_262, q_148_265, q_148_266, q_148_267, q_148_268, q_148_271, q_148_272, q_148_275, q_148_276, q_148_279, q_148_282, q_148_283, q_148_286, q_148_287, q_148_290, q_148_293, q_148_294, q_148_295, q_148_298, q_148_299, q_148_300, q_148_303, og_11_30, op_11_30, og_11_29, og_11_28, or_11_28, ow_11_28, og_11_32, op_11_32, og_11_33, op_11_33, og_11_31, op_11_31, o_is, o_ob, ofs_len11, k_cr, k_ci, k_oR, k_oN, k_aR, k_aN, and_true, true_and, and_self, eq_self, Nat.reduceLT, Nat.reduceLeDiff, Nat.reduceEqDiff, Nat.reduceAdd, Nat.reduceMul, Bool.true_eq_false, Bool.false_eq_true, Nat.add_sub_cancel, Nat.not_lt_zero, Nat.zero_le, k_sub, k_sb1, k_r, k_n, k_ret, k_t1, k_t0, k_nr, k_nn, k_z0, k_z1, k_zb, x_okI, lit_nI, k_in, k_cl, k_lt, k_le, k_eq, k_neg, nI_add, nI_mul, k_clt, k_cgt, k_cle, k_cge, k_ceq, bI_0, k_sh8, ne_eq, Nat.add_eq_zero_iff, Nat.one_ne_zero, Nat.succ_ne_zero, and_false, false_and, not_false_eq_true, not_true_eq_false, ite_true, ite_false, if_true, if_false, sI_rd30, sI_rd29, sJ_rd33, hn, h1, sA_rd, rdS_30, rdS_33, m_inL, hl', x_okJ]
      rw [← ih]
      unfold nuV
      by_cases h9 : 2147483647 < 10 * v + (sA S 28 p).toInt64 - 48
      · have h10 : ¬ 10 * v + (sA S 28 p).toInt64 - 48 ≤ 2147483647 := Int64.not_le.mpr h9
        simp only [h9, h10, if_true, if_false]
      · have h10 : 10 * v + (sA S 28 p).toInt64 - 48 ≤ 2147483647 := Int64.not_lt.mp h9
        simp only [h9, h10, if_true, if_false]
    | false =>
      have hl' : inL (sA S 28 p).toInt64 48 57 = false := hl
      simp only [Bool.false_eq_true, if_false]
      simp (disch := omega) only [q_148_1, q_148_4, q_148_5, q_148_8, q_148_11, q_148_12, q_148_15, q_148_16, q_148_19, q_148_20, q_148_22, q_148_25, q_148_26, q_148_29, q_148_30, q_148_33, q_148_34, q_148_36, q_148_39, q_148_40, q_148_41, q_148_44, q_148_45, q_148_46, q_148_49, q_148_52, q_148_53, q_148_54, q_148_57, q_148_60, q_148_61, q_148_62, q_148_65, q_148_66, q_148_67, q_148_70, q_148_71, q_148_74, q_148_75, q_148_78, q_148_81, q_148_82, q_148_83, q_148_86, q_148_87, q_148_90, q_148_91, q_148_92, q_148_93, q_148_94, q_148_97, q_148_100, q_148_103, q_148_106, q_148_107, q_148_108, q_148_111, q_148_112, q_148_114, q_148_117, q_148_118, q_148_121, q_148_124, q_148_125, q_148_128, q_148_129, q_148_132, q_148_133, q_148_134, q_148_137, q_148_140, q_148_143, q_148_146, q_148_147, q_148_148, q_148_151, q_148_153, q_148_154, q_148_155, q_148_158, q_148_159, q_148_162, q_148_163, q_148_164, q_148_165, q_148_168, q_148_171, q_148_172, q_148_173, q_148_176, q_148_177, q_148_178, q_148_181, q_148_184, q_148_185, q_148_187, q_148_190, q_148_191, q_148_192, q_148_195, q_148_196, q_148_197, q_148_198, q_148_201, q_148_204, q_148_207, q_148_210, q_148_211, q_148_212, q_148_216, q_148_219, q_148_220, q_148_223, q_148_226, q_148_227, q_148_230, q_148_231, q_148_234, q_148_235, q_148_236, q_148_239, q_148_242, q_148_245, q_148_248, q_148_249, q_148_252, q_148_253, q_148_256, q_148_257, q_148_258, q_148_261, q_148_262, q_148_265, q_148_266, q_148_267, q_148_268, q_148_271, q_148_272, q_148_275, q_148_276, q_148_279, q_148_282, q_148_283, q_148_286, q_148_287, q_148_290, q_148_293, q_148_294, q_148_295, q_148_298, q_148_299, q_148_300, q_148_303, og_11_30, op_11_30, og_11_29, og_11_28, or_11_28, ow_11_28, og_11_32, op_11_32, og_11_33, op_11_33, og_11_31, op_11_31, o_is, o_ob, ofs_len11, k_cr, k_ci, k_oR, k_oN, k_aR, k_aN, and_true, true_and, and_self, eq_self, Nat.reduceLT, Nat.reduceLeDiff, Nat.reduceEqDiff, Nat.reduceAdd, Nat.reduceMul, Bool.true_eq_false, Bool.false_eq_true, Nat.add_sub_cancel, Nat.not_lt_zero, Nat.zero_le, k_sub, k_sb1, k_r, k_n, k_ret, k_t1, k_t0, k_nr, k_nn, k_z0, k_z1, k_zb, x_okI, lit_nI, k_in, k_cl, k_lt, k_le, k_eq, k_neg, nI_add, nI_mul, k_clt, k_cgt, k_cle, k_cge, k_ceq, bI_0, k_sh8, ne_eq, Nat.add_eq_zero_iff, Nat.one_ne_zero, Nat.succ_ne_zero, and_false, false_and, not_false_eq_true, not_true_eq_false, ite_true, ite_false, if_true, if_false, sI_rd30, sI_rd29, hn, h1, sA_rd, m_inL, hl']
