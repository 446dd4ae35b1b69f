/-! The class cuts a whole text: Pieces.split. -/
theorem cwF_gt {t : Nat → Int32} {k p : Nat} {v : Int64} (h : cLt (t p) = true) (hk : 0 < k) : p + 1 ≤ (cwF t k p v).1 := by
  cases k with
  | zero => omega
  | succ k =>
    rw [cwF_s, if_pos h]
    exact (cwF_le t k (p + 1) _).1
theorem cnF_gt {t : Nat → Int32} {k p : Nat} {v : Int64} (h : cDg (t p) = true) (hk : 0 < k) : p + 1 ≤ (cnF t k p v).1 := by
  cases k with
  | zero => omega
  | succ k =>
    rw [cnF_s, if_pos h]
    exact (cnF_le t k (p + 1) _).1
/-- one turn: the block, the place, how many pieces -/
def spS (t : Nat → Int32) (n p k : Nat) (S : gS) : gS × Nat × Nat :=
  if t p = nI 32 ∨ t p = nI 10 then (uI S 4 (nI (p + 1)), p + 1, k)
  else if cLt (t p) = true then (apS (uI S 4 (nI (cwF t (n - p) p 0).1)) k (if 8 < (cwF t (n - p) p 0).1 - p then nI 1 else kW (cwF t (n - p) p 0).2) (nI p) (cwF t (n - p) p 0).2, (cwF t (n - p) p 0).1, k + 1)
  else if cDg (t p) = true then (apS (uI S 4 (nI (cnF t (n - p) p 0).1)) k (if 2147483647 < (cnF t (n - p) p 0).2 then nI 1 else nI 3) (nI p) (cnF t (n - p) p 0).2, (cnF t (n - p) p 0).1, k + 1)
  else (uI (apS S k (if isSg (t p) = true then t p else nI 1) (nI p) 0) 4 (nI (p + 1)), p + 1, k + 1)
def spF (t : Nat → Int32) (n : Nat) : Nat → Nat → Nat → gS → gS
  | 0, _, k, S => apS S k (nI 0) (nI n) 0
  | f + 1, p, k, S => if n ≤ p then apS S k (nI 0) (nI n) 0 else spF t n f (spS t n p k S).2.1 (spS t n p k S).2.2 (spS t n p k S).1
theorem spF_s (t : Nat → Int32) (n f p k : Nat) (S : gS) : spF t n (f + 1) p k S = if n ≤ p then apS S k (nI 0) (nI n) 0 else spF t n f (spS t n p k S).2.1 (spS t n p k S).2.2 (spS t n p k S).1 := rfl
theorem spS_ok (t : Nat → Int32) {n p k : Nat} (S : gS) (hp : p < n) (h3 : sI S 3 = nI k) : p + 1 ≤ (spS t n p k S).2.1 ∧ (spS t n p k S).2.1 ≤ n ∧ (spS t n p k S).2.2 ≤ k + 1 ∧ sI (spS t n p k S).1 4 = nI (spS t n p k S).2.1 ∧ sI (spS t n p k S).1 3 = nI (spS t n p k S).2.2 := by
  unfold spS
  by_cases h1 : t p = nI 32 ∨ t p = nI 10
  · rw [if_pos h1]
    exact ⟨Nat.le_refl _, by show p + 1 ≤ n; omega, by show k ≤ k + 1; omega, rfl, h3⟩
  · rw [if_neg h1]
    by_cases h2 : cLt (t p) = true
    · rw [if_pos h2]
      have a1 := cwF_gt (v := 0) h2 (show 0 < n - p by omega)
      have a2 := (cwF_le t (n - p) p 0).2
      exact ⟨a1, by show (cwF t (n - p) p 0).1 ≤ n; omega, Nat.le_refl _, rfl, rfl⟩
    · rw [if_neg h2]
      by_cases h4 : cDg (t p) = true
      · rw [if_pos h4]
        have a1 := cnF_gt (v := 0) h4 (show 0 < n - p by omega)
        have a2 := (cnF_le t (n - p) p 0).2
        exact ⟨a1, by show (cnF t (n - p) p 0).1 ≤ n; omega, Nat.le_refl _, rfl, rfl⟩
      · rw [if_neg h4]
        exact ⟨Nat.le_refl _, by show p + 1 ≤ n; omega, Nat.le_refl _, rfl, rfl⟩
theorem c_split_turn (d : Nat) (h : xH) (X P n p k i : Nat) (l : Int32) (SX S : gS) (u : Nat × Value) (H : isB 8 h X SX) (hd : dj 0 P 8 X) (h7 : n ≤ 700) (hp : p < n) (h4 : sI S 4 = nI p) (h3 : sI S 3 = nI k) (hk : k ≤ p) (hi : i ≤ p) : ∃ u', xrun (d + 2) 42 26 [(1, .ref P), (1, .ref (X + 3)), (1, .int l), (1, .int (nI n)), (1, .int (nI i)), u] [] (oh 0 h P S) = xrun (d + 2) 42 26 [(1, .ref P), (1, .ref (X + 3)), (1, .int l), (1, .int (nI n)), (1, .int (nI (i + 1))), u'] [] (oh 0 h P (spS (sA SX 2) n p k S).1) := by
  refine ⟨(1, .int (sA SX 2 p)), ?_⟩
  rw [q_42_26]
  have HX : isB 8 (oh 0 h P S) X SX := H.frame hd
  have HP : isB 0 (oh 0 h P S) P S := isB_oh _ _ _ _
  have i7 : ¬ 700 ≤ i := by omega
  have pn : ¬ n ≤ p := by omega
  have hW := c_cutWord d (oh 0 h P S) X P n p k SX S HX HP hd h7 (by omega) h4 h3 (by omega)
  have hN := c_cutNumber d (oh 0 h P S) X P n p k SX S HX HP hd h7 (by omega) h4 h3 (by omega)
  rw [oh_oh] at hW hN
  have hA : ∀ c : Int32, xm (d + 2) 44 [.ref P, .int c, .int (nI p), .long 0] (oh 0 h P S) = some (none, oh 0 h P (apS S k c (nI p) 0)) := by
    intro c
    have := c_append (d + 1) (oh 0 h P S) P k S c (nI p) 0 HP h3 (by omega)
    rw [oh_oh] at this
    exact this
  have hS := c_isSign (d + 1) (oh 0 h P S) (sA SX 2 p)
  unfold spS
  by_cases b1 : sA SX 2 p = nI 32
  · rw [if_pos (Or.inl b1)]
    simp (disch := omega) only [q_42_28, q_42_31, q_42_34, q_42_35, q_42_38, q_42_39, q_42_42, q_42_43, q_42_44, q_42_47, q_42_48, q_42_50, q_42_52, q_42_54, q_42_57, q_42_59, q_42_61, q_42_64, q_42_65, q_42_66, q_42_69, q_42_70, q_42_71, q_42_74, q_42_77, q_42_79, q_42_81, q_42_84, q_42_86, q_42_88, q_42_91, q_42_92, q_42_93, q_42_94, q_42_97, q_42_100, q_42_102, q_42_104, q_42_107, q_42_109, q_42_111, q_42_114, q_42_115, q_42_116, q_42_117, q_42_120, q_42_123, q_42_124, q_42_126, q_42_129, q_42_132, q_42_134, q_42_137, q_42_138, q_42_139, q_42_142, q_42_143, q_42_146, q_42_147, q_42_148, q_42_151, q_42_152, q_42_153, q_42_156, q_42_159, q_42_162, q_42_163, q_42_164, q_42_165, q_42_166, q_42_169, og_0_3, op_0_3, og_0_4, op_0_4, o_is, o_ob, ofs_len0, ↓reduceIte, k_cr, k_ci, k_oR, k_oN, k_aR, k_aN, and_true, true_and, and_self, eq_self, Nat.reduceLT, Nat.reduceLeDiff, Nat.reduceEqDiff, Nat.reduceAdd, Nat.reduceMul, Bool.true_eq_false, Bool.false_eq_true, Nat.add_sub_cancel, Nat.not_lt_zero, Nat.zero_le, k_sub, k_sb1, k_r, k_n, k_ret, k_t1, k_t0, k_nr, k_nn, k_z0, k_z1, k_zb, x_okI, lit_nI, k_in, k_cl, k_lt, k_le, k_eq, k_neg, nI_add, nI_mul, k_clt, k_cgt, k_cle, k_cge, k_ceq, bI_0, k_sh8, ne_eq, Nat.add_eq_zero_iff, Nat.one_ne_zero, Nat.succ_ne_zero, and_false, false_and, not_false_eq_true, not_true_eq_false, ite_true, ite_false, if_true, if_false, sI_uI, sJ_uI, sA_uI, sL_uI, sR_uI, sQ_uI, sI_uJ, sJ_uJ, sA_uJ, sL_uJ, sR_uJ, sQ_uJ, sI_uA, sJ_uA, sA_uA, sL_uA, sR_uA, sQ_uA, sI_uL, sJ_uL, sA_uL, sL_uL, sR_uL, sQ_uL, sI_uR, sJ_uR, sA_uR, sL_uR, sR_uR, sQ_uR, sI_uQ, sJ_uQ, sA_uQ, sL_uQ, sR_uQ, sQ_uQ, i7, pn, h4, hr_8_2 HX, b1]
  by_cases b2 : sA SX 2 p = nI 10
  · rw [if_pos (Or.inr b2)]
    simp (disch := omega) only [q_42_28, q_42_31, q_42_34, q_42_35, q_42_38, q_42_39, q_42_42, q_42_43, q_42_44, q_42_47, q_42_48, q_42_50, q_42_52, q_42_54, q_42_57, q_42_59, q_42_61, q_42_64, q_42_65, q_42_66, q_42_69, q_42_70, q_42_71, q_42_74, q_42_77, q_42_79, q_42_81, q_42_84, q_42_86, q_42_88, q_42_91, q_42_92, q_42_93, q_42_94, q_42_97, q_42_100, q_42_102, q_42_104, q_42_107, q_42_109, q_42_111, q_42_114, q_42_115, q_42_116, q_42_117, q_42_120, q_42_123, q_42_124, q_42_126, q_42_129, q_42_132, q_42_134, q_42_137, q_42_138, q_42_139, q_42_142, q_42_143, q_42_146, q_42_147, q_42_148, q_42_151, q_42_152, q_42_153, q_42_156, q_42_159, q_42_162, q_42_163, q_42_164, q_42_165, q_42_166, q_42_169, og_0_3, op_0_3, og_0_4, op_0_4, o_is, o_ob, ofs_len0, ↓reduceIte, k_cr, k_ci, k_oR, k_oN, k_aR, k_aN, and_true, true_and, and_self, eq_self, Nat.reduceLT, Nat.reduceLeDiff, Nat.reduceEqDiff, Nat.reduceAdd, Nat.reduceMul, Bool.true_eq_false, Bool.false_eq_true, Nat.add_sub_cancel, Nat.not_lt_zero, Nat.zero_le, k_sub, k_sb1, k_r, k_n, k_ret, k_t1, k_t0, k_nr, k_nn, k_z0, k_z1, k_zb, x_okI, lit_nI, k_in, k_cl, k_lt, k_le, k_eq, k_neg, nI_add, nI_mul, k_clt, k_cgt, k_cle, k_cge, k_ceq, bI_0, k_sh8, ne_eq, Nat.add_eq_zero_iff, Nat.one_ne_zero, Nat.succ_ne_zero, and_false, false_and, not_false_eq_true, not_true_eq_false, ite_true, ite_false, if_true, if_false, sI_uI, sJ_uI, sA_uI, sL_uI, sR_uI, sQ_uI, sI_uJ, sJ_uJ, sA_uJ, sL_uJ, sR_uJ, sQ_uJ, sI_uA, sJ_uA, sA_uA, sL_uA, sR_uA, sQ_uA, sI_uL, sJ_uL, sA_uL, sL_uL, sR_uL, sQ_uL, sI_uR, sJ_uR, sA_uR, sL_uR, sR_uR, sQ_uR, sI_uQ, sJ_uQ, sA_uQ, sL_uQ, sR_uQ, sQ_uQ, i7, pn, h4, hr_8_2 HX, b2]
  rw [if_neg (fun q => q.elim b1 b2)]
  cases hl : cLt (sA SX 2 p) with
  | true =>
    have hl2 := hl
    unfold cLt at hl2
    rw [Bool.and_eq_true, decide_eq_true_eq, decide_eq_true_eq] at hl2
    have c1 : ¬ sA SX 2 p < nI 97 := Int32.not_lt.mpr hl2.1
    have c2 : ¬ nI 122 < sA SX 2 p := Int32.not_lt.mpr hl2.2
    rw [if_pos rfl]
    simp (disch := omega) only [q_42_28, q_42_31, q_42_34, q_42_35, q_42_38, q_42_39, q_42_42, q_42_43, q_42_44, q_42_47, q_42_48, q_42_50, q_42_52, q_42_54, q_42_57, q_42_59, q_42_61, q_42_64, q_42_65, q_42_66, q_42_69, q_42_70, q_42_71, q_42_74, q_42_77, q_42_79, q_42_81, q_42_84, q_42_86, q_42_88, q_42_91, q_42_92, q_42_93, q_42_94, q_42_97, q_42_100, q_42_102, q_42_104, q_42_107, q_42_109, q_42_111, q_42_114, q_42_115, q_42_116, q_42_117, q_42_120, q_42_123, q_42_124, q_42_126, q_42_129, q_42_132, q_42_134, q_42_137, q_42_138, q_42_139, q_42_142, q_42_143, q_42_146, q_42_147, q_42_148, q_42_151, q_42_152, q_42_153, q_42_156, q_42_159, q_42_162, q_42_163, q_42_164, q_42_165, q_42_166, q_42_169, og_0_3, op_0_3, og_0_4, op_0_4, o_is, o_ob, ofs_len0, ↓reduceIte, k_cr, k_ci, k_oR, k_oN, k_aR, k_aN, and_true, true_and, and_self, eq_self, Nat.reduceLT, Nat.reduceLeDiff, Nat.reduceEqDiff, Nat.reduceAdd, Nat.reduceMul, Bool.true_eq_false, Bool.false_eq_true, Nat.add_sub_cancel, Nat.not_lt_zero, Nat.zero_le, k_sub, k_sb1, k_r, k_n, k_ret, k_t1, k_t0, k_nr, k_nn, k_z0, k_z1, k_zb, x_okI, lit_nI, k_in, k_cl, k_lt, k_le, k_eq, k_neg, nI_add, nI_mul, k_clt, k_cgt, k_cle, k_cge, k_ceq, bI_0, k_sh8, ne_eq, Nat.add_eq_zero_iff, Nat.one_ne_zero, Nat.succ_ne_zero, and_false, false_and, not_false_eq_true, not_true_eq_false, ite_true, ite_false, if_true, if_false, sI_uI, sJ_uI, sA_uI, sL_uI, sR_uI, sQ_uI, sI_uJ, sJ_uJ, sA_uJ, sL_uJ, sR_uJ, sQ_uJ, sI_uA, sJ_uA, sA_uA, sL_uA, sR_uA, sQ_uA, sI_uL, sJ_uL, sA_uL, sL_uL, sR_uL, sQ_uL, sI_uR, sJ_uR, sA_uR, sL_uR, sR_uR, sQ_uR, sI_uQ, sJ_uQ, sA_uQ, sL_uQ, sR_uQ, sQ_uQ, i7, pn, h4, hr_8_2 HX, b1, b2, c1, c2, hl2.1, hl2.2, hW]
  | false =>
    rw [if_neg (by decide)]
    have nl : sA SX 2 p < nI 97 ∨ nI 122 < sA SX 2 p := by
      rcases Int32.lt_or_le (sA SX 2 p) (nI 97) with q | q
      · exact Or.inl q
      · rcases Int32.lt_or_le (nI 122) (sA SX 2 p) with r | r
        · exact Or.inr r
        · unfold cLt at hl
          rw [decide_eq_true q, decide_eq_true r] at hl
          cases hl
    cases hg : cDg (sA SX 2 p) with
    | true =>
      have hg2 := hg
      unfold cDg at hg2
      rw [Bool.and_eq_true, decide_eq_true_eq, decide_eq_true_eq] at hg2
      have c1 : ¬ sA SX 2 p < nI 48 := Int32.not_lt.mpr hg2.1
      have c2 : ¬ nI 57 < sA SX 2 p := Int32.not_lt.mpr hg2.2
      have c3 : sA SX 2 p < nI 97 := by
        rw [Int32.lt_iff_toInt_lt, nI_toInt (by omega)]
        have := Int32.le_iff_toInt_le.mp hg2.2
        rw [nI_toInt (by omega)] at this
        omega
      rw [if_pos rfl]
      simp (disch := omega) only [q_42_28, q_42_31, q_42_34, q_42_35, q_42_38, q_42_39, q_42_42, q_42_43, q_42_44, q_42_47, q_42_48, q_42_50, q_42_52, q_42_54, q_42_57, q_42_59, q_42_61, q_42_64, q_42_65, q_42_66, q_42_69, q_42_70, q_42_71, q_42_74, q_42_77, q_42_79, q_42_81, q_42_84, q_42_86, q_42_88, q_42_91, q_42_92, q_42_93, q_42_94, q_42_97, q_42_100, q_42_102, q_42_104, q_42_107, q_42_109, q_42_111, q_42_114, q_42_115, q_42_116, q_42_117, q_42_120, q_42_123, q_42_124, q_42_126, q_42_129, q_42_132, q_42_134, q_42_137, q_42_138, q_42_139, q_42_142, q_42_143, q_42_146, q_42_147, q_42_148, q_42_151, q_42_152, q_42_153, q_42_156, q_42_159, q_42_162, q_42_163, q_42_164, q_42_165, q_42_166, q_42_169, og_0_3, op_0_3, og_0_4, op_0_4, o_is, o_ob, ofs_len0, ↓reduceIte, k_cr, k_ci, k_oR, k_oN, k_aR, k_aN, and_true, true_and, and_self, eq_self, Nat.reduceLT, Nat.reduceLeDiff, Nat.reduceEqDiff, Nat.reduceAdd, Nat.reduceMul, Bool.true_eq_false, Bool.false_eq_true, Nat.add_sub_cancel, Nat.not_lt_zero, Nat.zero_le, k_sub, k_sb1, k_r, k_n, k_ret, k_t1, k_t0, k_nr, k_nn, k_z0, k_z1, k_zb, x_okI, lit_nI, k_in, k_cl, k_lt, k_le, k_eq, k_neg, nI_add, nI_mul, k_clt, k_cgt, k_cle, k_cge, k_ceq, bI_0, k_sh8, ne_eq, Nat.add_eq_zero_iff, Nat.one_ne_zero, Nat.succ_ne_zero, and_false, false_and, not_false_eq_true, not_true_eq_false, ite_true, ite_false, if_true, if_false, sI_uI, sJ_uI, sA_uI, sL_uI, sR_uI, sQ_uI, sI_uJ, sJ_uJ, sA_uJ, sL_uJ, sR_uJ, sQ_uJ, sI_uA, sJ_uA, sA_uA, sL_uA, sR_uA, sQ_uA, sI_uL, sJ_uL, sA_uL, sL_uL, sR_uL, sQ_uL, sI_uR, sJ_uR, sA_uR, sL_uR, sR_uR, sQ_uR, sI_uQ, sJ_uQ, sA_uQ, sL_uQ, sR_uQ, sQ_uQ, i7, pn, h4, hr_8_2 HX, b1, b2, c1, c2, c3, hg2.1, hg2.2, hN]
    | false =>
      rw [if_neg (by decide)]
      have ng : sA SX 2 p < nI 48 ∨ nI 57 < sA SX 2 p := by
        rcases Int32.lt_or_le (sA SX 2 p) (nI 48) with q | q
        · exact Or.inl q
        · rcases Int32.lt_or_le (nI 57) (sA SX 2 p) with r | r
          · exact Or.inr r
          · unfold cDg at hg
            rw [decide_eq_true q, decide_eq_true r] at hg
            cases hg
      have e4 : ∀ c : Int32, sI (apS S k c (nI p) 0) 4 = nI p := fun c => h4
      by_cases a1 : sA SX 2 p < nI 97
      · by_cases a2 : sA SX 2 p < nI 48
        · cases hsg : isSg (sA SX 2 p) with
          | true =>
            rw [hsg] at hS
            simp (disch := omega) only [q_42_28, q_42_31, q_42_34, q_42_35, q_42_38, q_42_39, q_42_42, q_42_43, q_42_44, q_42_47, q_42_48, q_42_50, q_42_52, q_42_54, q_42_57, q_42_59, q_42_61, q_42_64, q_42_65, q_42_66, q_42_69, q_42_70, q_42_71, q_42_74, q_42_77, q_42_79, q_42_81, q_42_84, q_42_86, q_42_88, q_42_91, q_42_92, q_42_93, q_42_94, q_42_97, q_42_100, q_42_102, q_42_104, q_42_107, q_42_109, q_42_111, q_42_114, q_42_115, q_42_116, q_42_117, q_42_120, q_42_123, q_42_124, q_42_126, q_42_129, q_42_132, q_42_134, q_42_137, q_42_138, q_42_139, q_42_142, q_42_143, q_42_146, q_42_147, q_42_148, q_42_151, q_42_152, q_42_153, q_42_156, q_42_159, q_42_162, q_42_163, q_42_164, q_42_165, q_42_166, q_42_169, og_0_3, op_0_3, og_0_4, op_0_4, o_is, o_ob, ofs_len0, ↓reduceIte, k_cr, k_ci, k_oR, k_oN, k_aR, k_aN, and_true, true_and, and_self, eq_self, Nat.reduceLT, Nat.reduceLeDiff, Nat.reduceEqDiff, Nat.reduceAdd, Nat.reduceMul, Bool.true_eq_false, Bool.false_eq_true, Nat.add_sub_cancel, Nat.not_lt_zero, Nat.zero_le, k_sub, k_sb1, k_r, k_n, k_ret, k_t1, k_t0, k_nr, k_nn, k_z0, k_z1, k_zb, x_okI, lit_nI, k_in, k_cl, k_lt, k_le, k_eq, k_neg, nI_add, nI_mul, k_clt, k_cgt, k_cle, k_cge, k_ceq, bI_0, k_sh8, ne_eq, Nat.add_eq_zero_iff, Nat.one_ne_zero, Nat.succ_ne_zero, and_false, false_and, not_false_eq_true, not_true_eq_false, ite_true, ite_false, if_true, if_false, i7, pn, h4, hr_8_2 HX, b1, b2, a1, a2, hS, hA, e4]
          | false =>
            rw [hsg] at hS
            simp (disch := omega) only [q_42_28, q_42_31, q_42_34, q_42_35, q_42_38, q_42_39, q_42_42, q_42_43, q_42_44, q_42_47, q_42_48, q_42_50, q_42_52, q_42_54, q_42_57, q_42_59, q_42_61, q_42_64, q_42_65, q_42_66, q_42_69, q_42_70, q_42_71, q_42_74, q_42_77, q_42_79, q_42_81, q_42_84, q_42_86, q_42_88, q_42_91, q_42_92, q_42_93, q_42_94, q_42_97, q_42_100, q_42_102, q_42_104, q_42_107, q_42_109, q_42_111, q_42_114, q_42_115, q_42_116, q_42_117, q_42_120, q_42_123, q_42_124, q_42_126, q_42_129, q_42_132, q_42_134, q_42_137, q_42_138, q_42_139, q_42_142, q_42_143, q_42_146, q_42_147, q_42_148, q_42_151, q_42_152, q_42_153, q_42_156, q_42_159, q_42_162, q_42_163, q_42_164, q_42_165, q_42_166, q_42_169, og_0_3, op_0_3, og_0_4, op_0_4, o_is, o_ob, ofs_len0, ↓reduceIte, k_cr, k_ci, k_oR, k_oN, k_aR, k_aN, and_true, true_and, and_self, eq_self, Nat.reduceLT, Nat.reduceLeDiff, Nat.reduceEqDiff, Nat.reduceAdd, Nat.reduceMul, Bool.true_eq_false, Bool.false_eq_true, Nat.add_sub_cancel, Nat.not_lt_zero, Nat.zero_le, k_sub, k_sb1, k_r, k_n, k_ret, k_t1, k_t0, k_nr, k_nn, k_z0, k_z1, k_zb, x_okI, lit_nI, k_in, k_cl, k_lt, k_le, k_eq, k_neg, nI_add, nI_mul, k_clt, k_cgt, k_cle, k_cge, k_ceq, bI_0, k_sh8, ne_eq, Nat.add_eq_zero_iff, Nat.one_ne_zero, Nat.succ_ne_zero, and_false, false_and, not_false_eq_true, not_true_eq_false, ite_true, ite_false, if_true, if_false, i7, pn, h4, hr_8_2 HX, b1, b2, a1, a2, hS, hA, e4]
        · have a3 : nI 57 < sA SX 2 p := ng.resolve_left a2
          cases hsg : isSg (sA SX 2 p) with
          | true =>
            rw [hsg] at hS
            simp (disch := omega) only [q_42_28, q_42_31, q_42_34, q_42_35, q_42_38, q_42_39, q_42_42, q_42_43, q_42_44, q_42_47, q_42_48, q_42_50, q_42_52, q_42_54, q_42_57, q_42_59, q_42_61, q_42_64, q_42_65, q_42_66, q_42_69, q_42_70, q_42_71, q_42_74, q_42_77, q_42_79, q_42_81, q_42_84, q_42_86, q_42_88, q_42_91, q_42_92, q_42_93, q_42_94, q_42_97, q_42_100, q_42_102, q_42_104, q_42_107, q_42_109, q_42_111, q_42_114, q_42_115, q_42_116, q_42_117, q_42_120, q_42_123, q_42_124, q_42_126, q_42_129, q_42_132, q_42_134, q_42_137, q_42_138, q_42_139, q_42_142, q_42_143, q_42_146, q_42_147, q_42_148, q_42_151, q_42_152, q_42_153, q_42_156, q_42_159, q_42_162, q_42_163, q_42_164, q_42_165, q_42_166, q_42_169, og_0_3, op_0_3, og_0_4, op_0_4, o_is, o_ob, ofs_len0, ↓reduceIte, k_cr, k_ci, k_oR, k_oN, k_aR, k_aN, and_true, true_and, and_self, eq_self, Nat.reduceLT, Nat.reduceLeDiff, Nat.reduceEqDiff, Nat.reduceAdd, Nat.reduceMul, Bool.true_eq_false, Bool.false_eq_true, Nat.add_sub_cancel, Nat.not_lt_zero, Nat.zero_le, k_sub, k_sb1, k_r, k_n, k_ret, k_t1, k_t0, k_nr, k_nn, k_z0, k_z1, k_zb, x_okI, lit_nI, k_in, k_cl, k_lt, k_le, k_eq, k_neg, nI_add, nI_mul, k_clt, k_cgt, k_cle, k_cge, k_ceq, bI_0, k_sh8, ne_eq, Nat.add_eq_zero_iff, Nat.one_ne_zero, Nat.succ_ne_zero, and_false, false_and, not_false_eq_true, not_true_eq_false, ite_true, ite_false, if_true, if_false, i7, pn, h4, hr_8_2 HX, b1, b2, a1, a2, a3, hS, hA, e4]
          | false =>
            rw [hsg] at hS
            simp (disch := omega) only [q_42_28, q_42_31, q_42_34, q_42_35, q_42_38, q_42_39, q_42_42, q_42_43, q_42_44, q_42_47, q_42_48, q_42_50, q_42_52, q_42_54, q_42_57, q_42_59, q_42_61, q_42_64, q_42_65, q_42_66, q_42_69, q_42_70, q_42_71, q_42_74, q_42_77, q_42_79, q_42_81, q_42_84, q_42_86, q_42_88, q_42_91, q_42_92, q_42_93, q_42_94, q_42_97, q_42_100, q_42_102, q_42_104, q_42_107, q_42_109, q_42_111, q_42_114, q_42_115, q_42_116, q_42_117, q_42_120, q_42_123, q_42_124, q_42_126, q_42_129, q_42_132, q_42_134, q_42_137, q_42_138, q_42_139, q_42_142, q_42_143, q_42_146, q_42_147, q_42_148, q_42_151, q_42_152, q_42_153, q_42_156, q_42_159, q_42_162, q_42_163, q_42_164, q_42_165, q_42_166, q_42_169, og_0_3, op_0_3, og_0_4, op_0_4, o_is, o_ob, ofs_len0, ↓reduceIte, k_cr, k_ci, k_oR, k_oN, k_aR, k_aN, and_true, true_and, and_self, eq_self, Nat.reduceLT, Nat.reduceLeDiff, Nat.reduceEqDiff, Nat.reduceAdd, Nat.reduceMul, Bool.true_eq_false, Bool.false_eq_true, Nat.add_sub_cancel, Nat.not_lt_zero, Nat.zero_le, k_sub, k_sb1, k_r, k_n, k_ret, k_t1, k_t0, k_nr, k_nn, k_z0, k_z1, k_zb, x_okI, lit_nI, k_in, k_cl, k_lt, k_le, k_eq, k_neg, nI_add, nI_mul, k_clt, k_cgt, k_cle, k_cge, k_ceq, bI_0, k_sh8, ne_eq, Nat.add_eq_zero_iff, Nat.one_ne_zero, Nat.succ_ne_zero, and_false, false_and, not_false_eq_true, not_true_eq_false, ite_true, ite_false, if_true, if_false, i7, pn, h4, hr_8_2 HX, b1, b2, a1, a2, a3, hS, hA, e4]
      · have a3 : nI 122 < sA SX 2 p := nl.resolve_left a1
        have a2 : ¬ sA SX 2 p < nI 48 := by
          intro q
          rw [Int32.lt_iff_toInt_lt, nI_toInt (by omega)] at q a3
          omega
        have a4 : nI 57 < sA SX 2 p := ng.resolve_left a2
        cases hsg : isSg (sA SX 2 p) with
        | true =>
          rw [hsg] at hS
          simp (disch := omega) only [q_42_28, q_42_31, q_42_34, q_42_35, q_42_38, q_42_39, q_42_42, q_42_43, q_42_44, q_42_47, q_42_48, q_42_50, q_42_52, q_42_54, q_42_57, q_42_59, q_42_61, q_42_64, q_42_65, q_42_66, q_42_69, q_42_70, q_42_71, q_42_74, q_42_77, q_42_79, q_42_81, q_42_84, q_42_86, q_42_88, q_42_91, q_42_92, q_42_93, q_42_94, q_42_97, q_42_100, q_42_102, q_42_104, q_42_107, q_42_109, q_42_111, q_42_114, q_42_115, q_42_116, q_42_117, q_42_120, q_42_123, q_42_124, q_42_126, q_42_129, q_42_132, q_42_134, q_42_137, q_42_138, q_42_139, q_42_142, q_42_143, q_42_146, q_42_147, q_42_148, q_42_151, q_42_152, q_42_153, q_42_156, q_42_159, q_42_162, q_42_163, q_42_164, q_42_165, q_42_166, q_42_169, og_0_3, op_0_3, og_0_4, op_0_4, o_is, o_ob, ofs_len0, ↓reduceIte, k_cr, k_ci, k_oR, k_oN, k_aR, k_aN, and_true, true_and, and_self, eq_self, Nat.reduceLT, Nat.reduceLeDiff, Nat.reduceEqDiff, Nat.reduceAdd, Nat.reduceMul, Bool.true_eq_false, Bool.false_eq_true, Nat.add_sub_cancel, Nat.not_lt_zero, Nat.zero_le, k_sub, k_sb1, k_r, k_n, k_ret, k_t1, k_t0, k_nr, k_nn, k_z0, k_z1, k_zb, x_okI, lit_nI, k_in, k_cl, k_lt, k_le, k_eq, k_neg, nI_add, nI_mul, k_clt, k_cgt, k_cle, k_cge, k_ceq, bI_0, k_sh8, ne_eq, Nat.add_eq_zero_iff, Nat.one_ne_zero, Nat.succ_ne_zero, and_false, false_and, not_false_eq_true, not_true_eq_false, ite_true, ite_false, if_true, if_false, i7, pn, h4, hr_8_2 HX, b1, b2, a1, a2, a3, a4, hS, hA, e4]
        | false =>
          rw [hsg] at hS
          simp (disch := omega) only [q_42_28, q_42_31, q_42_34, q_42_35, q_42_38, q_42_39, q_42_42, q_42_43, q_42_44, q_42_47, q_42_48, q_42_50, q_42_52, q_42_54, q_42_57, q_42_59, q_42_61, q_42_64, q_42_65, q_42_66, q_42_69, q_42_70, q_42_71, q_42_74, q_42_77, q_42_79, q_42_81, q_42_84, q_42_86, q_42_88, q_42_91, q_42_92, q_42_93, q_42_94, q_42_97, q_42_100, q_42_102, q_42_104, q_42_107, q_42_109, q_42_111, q_42_114, q_42_115, q_42_116, q_42_117, q_42_120, q_42_123, q_42_124, q_42_126, q_42_129, q_42_132, q_42_134, q_42_137, q_42_138, q_42_139, q_42_142, q_42_143, q_42_146, q_42_147, q_42_148, q_42_151, q_42_152, q_42_153, q_42_156, q_42_159, q_42_162, q_42_163, q_42_164, q_42_165, q_42_166, q_42_169, og_0_3, op_0_3, og_0_4, op_0_4, o_is, o_ob, ofs_len0, ↓reduceIte, k_cr, k_ci, k_oR, k_oN, k_aR, k_aN, and_true, true_and, and_self, eq_self, Nat.reduceLT, Nat.reduceLeDiff, Nat.reduceEqDiff, Nat.reduceAdd, Nat.reduceMul, Bool.true_eq_false, Bool.false_eq_true, Nat.add_sub_cancel, Nat.not_lt_zero, Nat.zero_le, k_sub, k_sb1, k_r, k_n, k_ret, k_t1, k_t0, k_nr, k_nn, k_z0, k_z1, k_zb, x_okI, lit_nI, k_in, k_cl, k_lt, k_le, k_eq, k_neg, nI_add, nI_mul, k_clt, k_cgt, k_cle, k_cge, k_ceq, bI_0, k_sh8, ne_eq, Nat.add_eq_zero_iff, Nat.one_ne_zero, Nat.succ_ne_zero, and_false, false_and, not_false_eq_true, not_true_eq_false, ite_true, ite_false, if_true, if_false, i7, pn, h4, hr_8_2 HX, b1, b2, a1, a2, a3, a4, hS, hA, e4]
theorem c_split_loop (d : Nat) (h : xH) (X P n : Nat) (l : Int32) (SX : gS) (H : isB 8 h X SX) (hd : dj 0 P 8 X) (h7 : n ≤ 700) : ∀ (f p k i : Nat) (S : gS) (u : Nat × Value), n - p ≤ f → p ≤ n → sI S 4 = nI p → sI S 3 = nI k → k ≤ p → i ≤ p → xrun (d + 2) 42 26 [(1, .ref P), (1, .ref (X + 3)), (1, .int l), (1, .int (nI n)), (1, .int (nI i)), u] [] (oh 0 h P S) = some (none, oh 0 h P (spF (sA SX 2) n f p k S)) := by
  have fin : ∀ (p k i : Nat) (S : gS) (u : Nat × Value), p = n → sI S 4 = nI p → sI S 3 = nI k → k ≤ p → i ≤ p → xrun (d + 2) 42 26 [(1, .ref P), (1, .ref (X + 3)), (1, .int l), (1, .int (nI n)), (1, .int (nI i)), u] [] (oh 0 h P S) = some (none, oh 0 h P (apS S k (nI 0) (nI n) 0)) := by
    intro p k i S u hp h4 h3 hk hi
    subst hp
    rw [q_42_26]
    have hA := c_append (d + 1) (oh 0 h P S) P k S (nI 0) (nI p) 0 (isB_oh _ _ _ _) h3 (by omega)
    rw [oh_oh] at hA
    by_cases i7 : 700 ≤ i
    · simp (disch := omega) only [q_42_28, q_42_31, q_42_34, q_42_35, q_42_38, q_42_39, q_42_42, q_42_43, q_42_44, q_42_47, q_42_48, q_42_50, q_42_52, q_42_54, q_42_57, q_42_59, q_42_61, q_42_64, q_42_65, q_42_66, q_42_69, q_42_70, q_42_71, q_42_74, q_42_77, q_42_79, q_42_81, q_42_84, q_42_86, q_42_88, q_42_91, q_42_92, q_42_93, q_42_94, q_42_97, q_42_100, q_42_102, q_42_104, q_42_107, q_42_109, q_42_111, q_42_114, q_42_115, q_42_116, q_42_117, q_42_120, q_42_123, q_42_124, q_42_126, q_42_129, q_42_132, q_42_134, q_42_137, q_42_138, q_42_139, q_42_142, q_42_143, q_42_146, q_42_147, q_42_148, q_42_151, q_42_152, q_42_153, q_42_156, q_42_159, q_42_162, q_42_163, q_42_164, q_42_165, q_42_166, q_42_169, og_0_3, op_0_3, og_0_4, op_0_4, o_is, o_ob, ofs_len0, ↓reduceIte, k_cr, k_ci, k_oR, k_oN, k_aR, k_aN, and_true, true_and, and_self, eq_self, Nat.reduceLT, Nat.reduceLeDiff, Nat.reduceEqDiff, Nat.reduceAdd, Nat.reduceMul, Bool.true_eq_false, Bool.false_eq_true, Nat.add_sub_cancel, Nat.not_lt_zero, Nat.zero_le, k_sub, k_sb1, k_r, k_n, k_ret, k_t1, k_t0, k_nr, k_nn, k_z0, k_z1, k_zb, x_okI, lit_nI, k_in, k_cl, k_lt, k_le, k_eq, k_neg, nI_add, nI_mul, k_clt, k_cgt, k_cle, k_cge, k_ceq, bI_0, k_sh8, ne_eq, Nat.add_eq_zero_iff, Nat.one_ne_zero, Nat.succ_ne_zero, and_false, false_and, not_false_eq_true, not_true_eq_false, ite_true, ite_false, if_true, if_false, i7, hA]
    · simp (disch := omega) only [q_42_28, q_42_31, q_42_34, q_42_35, q_42_38, q_42_39, q_42_42, q_42_43, q_42_44, q_42_47, q_42_48, q_42_50, q_42_52, q_42_54, q_42_57, q_42_59, q_42_61, q_42_64, q_42_65, q_42_66, q_42_69, q_42_70, q_42_71, q_42_74, q_42_77, q_42_79, q_42_81, q_42_84, q_42_86, q_42_88, q_42_91, q_42_92, q_42_93, q_42_94, q_42_97, q_42_100, q_42_102, q_42_104, q_42_107, q_42_109, q_42_111, q_42_114, q_42_115, q_42_116, q_42_117, q_42_120, q_42_123, q_42_124, q_42_126, q_42_129, q_42_132, q_42_134, q_42_137, q_42_138, q_42_139, q_42_142, q_42_143, q_42_146, q_42_147, q_42_148, q_42_151, q_42_152, q_42_153, q_42_156, q_42_159, q_42_162, q_42_163, q_42_164, q_42_165, q_42_166, q_42_169, og_0_3, op_0_3, og_0_4, op_0_4, o_is, o_ob, ofs_len0, ↓reduceIte, k_cr, k_ci, k_oR, k_oN, k_aR, k_aN, and_true, true_and, and_self, eq_self, Nat.reduceLT, Nat.reduceLeDiff, Nat.reduceEqDiff, Nat.reduceAdd, Nat.reduceMul, Bool.true_eq_false, Bool.false_eq_true, Nat.add_sub_cancel, Nat.not_lt_zero, Nat.zero_le, k_sub, k_sb1, k_r, k_n, k_ret, k_t1, k_t0, k_nr, k_nn, k_z0, k_z1, k_zb, x_okI, lit_nI, k_in, k_cl, k_lt, k_le, k_eq, k_neg, nI_add, nI_mul, k_clt, k_cgt, k_cle, k_cge, k_ceq, bI_0, k_sh8, ne_eq, Nat.add_eq_zero_iff, Nat.one_ne_zero, Nat.succ_ne_zero, and_false, false_and, not_false_eq_true, not_true_eq_false, ite_true, ite_false, if_true, if_false, i7, h4, Nat.le_refl, hA]
  intro f
  induction f with
  | zero =>
    intro p k i S u hf hp h4 h3 hk hi
    exact fin p k i S u (by omega) h4 h3 hk hi
  | succ f ih =>
    intro p k i S u hf hp h4 h3 hk hi
    rw [spF_s]
    by_cases hpn : n ≤ p
    · rw [if_pos hpn]
      exact fin p k i S u (by omega) h4 h3 hk hi
    · rw [if_neg hpn]
      obtain ⟨u', hu⟩ := c_split_turn d h X P n p k i l SX S u H hd h7 (by omega) h4 h3 hk hi
      obtain ⟨s1, s2, s3, s4, s5⟩ := spS_ok (sA SX 2) S (show p < n by omega) h3
      rw [hu]
      exact ih _ _ _ _ u' (by omega) s2 s4 s5 (by omega) (by omega)
theorem h_len {ci : Nat} {h : xH} {a : Nat} {S : gS} (H : isB ci h a S) {o k : Nat} (h0 : 0 < o) (hk : o_at ci o = some k) {α : Type} (f : Nat → Nat → (Nat → Value) → Option α) : xar h (a + o) f = f (o_tag ci k) (o_len ci k) (oarr ci S k) := by
  have ha : h.1 (a + o) = some (.inl (o_tag ci k, o_len ci k, oarr ci S k)) := by
    have := oh_ar (ci := ci) (h := h) (a := a) (S := S) h0 hk
    rw [show oh ci h a S = h from H] at this
    exact this
  unfold xar
  rw [ha]
theorem c_split (d : Nat) (h : xH) (X P n : Nat) (SX SP : gS) (H : isB 8 h X SX) (HP : isB 0 h P SP) (hd : dj 0 P 8 X) (h7 : n ≤ 700) : xm (d + 3) 42 [.ref P, .ref (X + 3), .int (nI n)] h = some (none, oh 0 h P (spF (sA SX 2) n n 0 0 (uI (uI SP 3 (nI 0)) 4 (nI 0)))) := by
  rw [E_42 _ _ _ _ _ rfl rfl]
  have HX : isB 8 (oh 0 h P (uI (uI SP 3 (nI 0)) 4 (nI 0))) X SX := H.frame hd
  have hl := fun {α : Type} (f : Nat → Nat → (Nat → Value) → Option α) => h_len HX (o := 3) (k := 2) (by decide) rfl f
  have hL := c_split_loop d h X P n (nI n) SX H hd h7 n 0 0 0 (uI (uI SP 3 (nI 0)) 4 (nI 0)) (0, .null) (by omega) (by omega) rfl rfl (by omega) (by omega)
  have m1 : ¬ 700 < n := by omega
  have e1 : o_tag 8 2 < x_an := by decide
  have e2 : Int32.ofNat (o_len 8 2) = nI 700 := rfl
  simp (disch := omega) only [q_42_0, q_42_1, q_42_2, q_42_5, q_42_6, q_42_7, q_42_10, q_42_11, q_42_14, q_42_17, q_42_18, q_42_19, q_42_22, q_42_23, q_42_24, q_42_28, q_42_31, q_42_34, q_42_35, q_42_38, q_42_39, q_42_42, q_42_43, q_42_44, q_42_47, q_42_48, q_42_50, q_42_52, q_42_54, q_42_57, q_42_59, q_42_61, q_42_64, q_42_65, q_42_66, q_42_69, q_42_70, q_42_71, q_42_74, q_42_77, q_42_79, q_42_81, q_42_84, q_42_86, q_42_88, q_42_91, q_42_92, q_42_93, q_42_94, q_42_97, q_42_100, q_42_102, q_42_104, q_42_107, q_42_109, q_42_111, q_42_114, q_42_115, q_42_116, q_42_117, q_42_120, q_42_123, q_42_124, q_42_126, q_42_129, q_42_132, q_42_134, q_42_137, q_42_138, q_42_139, q_42_142, q_42_143, q_42_146, q_42_147, q_42_148, q_42_151, q_42_152, q_42_153, q_42_156, q_42_159, q_42_162, q_42_163, q_42_164, q_42_165, q_42_166, q_42_169, hg_0_3 HP, hp_0_3 HP, hg_0_4 HP, hp_0_4 HP, h_is HP, h_ob HP, ofs_len0, q_42_0, q_42_1, q_42_2, q_42_5, q_42_6, q_42_7, q_42_10, q_42_11, q_42_14, q_42_17, q_42_18, q_42_19, q_42_22, q_42_23, q_42_24, q_42_28, q_42_31, q_42_34, q_42_35, q_42_38, q_42_39, q_42_42, q_42_43, q_42_44, q_42_47, q_42_48, q_42_50, q_42_52, q_42_54, q_42_57, q_42_59, q_42_61, q_42_64, q_42_65, q_42_66, q_42_69, q_42_70, q_42_71, q_42_74, q_42_77, q_42_79, q_42_81, q_42_84, q_42_86, q_42_88, q_42_91, q_42_92, q_42_93, q_42_94, q_42_97, q_42_100, q_42_102, q_42_104, q_42_107, q_42_109, q_42_111, q_42_114, q_42_115, q_42_116, q_42_117, q_42_120, q_42_123, q_42_124, q_42_126, q_42_129, q_42_132, q_42_134, q_42_137, q_42_138, q_42_139, q_42_142, q_42_143, q_42_146, q_42_147, q_42_148, q_42_151, q_42_152, q_42_153, q_42_156, q_42_159, q_42_162, q_42_163, q_42_164, q_42_165, q_42_166, q_42_169, og_0_3, op_0_3, og_0_4, op_0_4, o_is, o_ob, ofs_len0, ↓reduceIte, k_cr, k_ci, k_oR, k_oN, k_aR, k_aN, and_true, true_and, and_self, eq_self, Nat.reduceLT, Nat.reduceLeDiff, Nat.reduceEqDiff, Nat.reduceAdd, Nat.reduceMul, Bool.true_eq_false, Bool.false_eq_true, Nat.add_sub_cancel, Nat.not_lt_zero, Nat.zero_le, k_sub, k_sb1, k_r, k_n, k_ret, k_t1, k_t0, k_nr, k_nn, k_z0, k_z1, k_zb, x_okI, lit_nI, k_in, k_cl, k_lt, k_le, k_eq, k_neg, nI_add, nI_mul, k_clt, k_cgt, k_cle, k_cge, k_ceq, bI_0, k_sh8, ne_eq, Nat.add_eq_zero_iff, Nat.one_ne_zero, Nat.succ_ne_zero, and_false, false_and, not_false_eq_true, not_true_eq_false, ite_true, ite_false, if_true, if_false, hl, e1, e2, m1, hL]
