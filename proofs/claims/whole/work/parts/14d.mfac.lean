/-! The reference: factor, behind. -/
/-- the text is WRONG at piece q -/
def bdV (t : Nat → Int32) (n : Nat) (S0 S : gS) (q : Nat) : Prop := sI S 34 = nI ((pcs t n).2.1 q) ∧ fr pEx S0 S
theorem bU.flE {t : Nat → Int32} {n : Nat} {S0 S : gS} {i : Nat} {A H : List aT} (h : bU (-nI 1) t n S0 S i A H) : flS S = uI S 34 (nI ((pcs t n).2.1 i)) := by
  unfold flS
  rw [if_pos h.2.1, h.1.2.2.2.2.1]
theorem bU.bad {t : Nat → Int32} {n : Nat} {S0 S : gS} {i : Nat} {A H : List aT} (h : bU (-nI 1) t n S0 S i A H) : bdV t n S0 (flS S) i := by
  rw [h.flE]
  exact ⟨rfl, h.2.2.2.2.2.uI (by decide)⟩
theorem bU.mark {wr : Int32} {t : Nat → Int32} {n : Nat} {S0 S : gS} {i : Nat} {A H : List aT} (h : bU wr t n S0 S i A H) (w : Int32) : bU w t n S0 (uI S 34 w) i A H := by
  obtain ⟨h1, h2, h3, h4, h5, h6⟩ := h
  exact ⟨h1, rfl, h3, ⟨h4.1, by refine hAt_congr (S := S) ?_ ?_ ?_ H h4.2 <;> rfl⟩, h5, h6.uI (by decide)⟩
theorem bU.bd {t : Nat → Int32} {n : Nat} {S0 S : gS} {i q : Nat} {A H : List aT} (h : bU (nI ((pcs t n).2.1 q)) t n S0 S i A H) : bdV t n S0 S q := ⟨h.2.1, h.2.2.2.2.2⟩
theorem bdV.hoM {t : Nat → Int32} {n : Nat} {S0 S : gS} {q k : Nat} {w : Int32} {v : Int64} {a : Int32} (h : bdV t n S0 S q) : bdV t n S0 (hoM S k w v a) q :=
  ⟨h.1, (((h.2.uA (by decide)).uL (by decide)).uA (by decide)).uI (by decide)⟩
theorem bdV.emM {t : Nat → Int32} {n : Nat} {S0 S : gS} {q k : Nat} {w : Int32} {v : Int64} {a : Int32} (h : bdV t n S0 S q) : bdV t n S0 (emM S k w v a) q :=
  ⟨h.1, (((h.2.uA (by decide)).uL (by decide)).uA (by decide)).uI (by decide)⟩
theorem bdV.ne {t : Nat → Int32} {n : Nat} {S0 S : gS} {q : Nat} (h7 : n ≤ 700) (h : bdV t n S0 S q) : (sI S 34 = -nI 1) = False := by
  rw [h.1]
  exact k_neg (by have := pcs_A t n q; omega)
theorem nst_le : ∀ H : List aT, nst H ≤ H.length
  | [] => Nat.le_refl _
  | x :: H => by
    have := nst_le H
    unfold nst
    split
    · show nst H + 1 ≤ H.length + 1
      omega
    · show nst H ≤ H.length + 1
      omega
theorem m_deepV (d : Nat) (h : xH) (M : Nat) {t : Nat → Int32} {n : Nat} {S0 S : gS} {i : Nat} {A H : List aT} (hb : bV t n S0 S i A H) (hl : A.length + H.length ≤ 699) (hk : nst H < 20) : xm (d + 2) 157 [.ref M] (oh 11 h M S) = some (none, oh 11 h M (uI S 57 (nI (nst H + 1)))) := by
  have := nst_le H
  have e := m_deeper d h M (nst H) S hb.2.2.2.2.1 (by omega)
  unfold dpS at e
  rw [if_neg (by omega)] at e
  exact e
theorem m_deepX (d : Nat) (h : xH) (M : Nat) {t : Nat → Int32} {n : Nat} {S0 S : gS} {i : Nat} {A H : List aT} (hb : bV t n S0 S i A H) (hl : A.length + H.length ≤ 699) (hk : ¬ nst H < 20) : xm (d + 2) 157 [.ref M] (oh 11 h M S) = some (none, oh 11 h M (uI (uI S 57 (nI (nst H + 1))) 34 (nI ((pcs t n).2.1 i)))) := by
  have := nst_le H
  have e := m_deeper d h M (nst H) S hb.2.2.2.2.1 (by omega)
  unfold dpS flS at e
  rw [if_pos (by omega), if_pos (show sI (uI S 57 (nI (nst H + 1))) 34 = -nI 1 from hb.2.1)] at e
  rw [show sI (uI S 57 (nI (nst H + 1))) 32 = nI ((pcs t n).2.1 i) from hb.1.2.2.2.2.1] at e
  exact e
/-- - and ( -/
theorem m_fac_in (d : Nat) (h : xH) (M : Nat) {t : Nat → Int32} {n : Nat} {S0 S : gS} {i : Nat} {A H : List aT} (c w : Int32) (hcw : c = nI 45 ∧ w = nI 6 ∨ c = nI 40 ∧ w = nI 12) (h7 : n ≤ 700) (hb : bV t n S0 S i A H) (hl : A.length + H.length ≤ 699) (hc : (pcs t n).1 i = c) (hk : nst H < 20) : ∃ S', xm (d + 3) 156 [.ref M] (oh 11 h M S) = some (some (.int (nI 1)), oh 11 h M S') ∧ bV t n S0 S' (i + 1) A ((w, 0, (pcs t n).2.1 i) :: H) := by
  have hw : nsW w = true := by rcases hcw with ⟨_, q⟩ | ⟨_, q⟩ <;> (rw [q]; decide)
  have e1 := m_deepV d h M hb hl hk
  have b2 := hb.deep w 0 ((pcs t n).2.1 i) hw
  have e2 := m_hold (d + 1) h M H.length (uI S 57 (nI (nst H + 1))) w 0 (nI ((pcs t n).2.1 i)) hb.2.2.2.1.1 (by omega)
  have e3 := m_readV d h M h7 b2
  refine ⟨_, ?_, b2.read⟩
  have h31 : sI S 31 = c := hb.1.2.2.2.1.trans hc
  have h32 := hb.1.2.2.2.2.1
  have h34 := hb.2.1
  rw [E_156 _ _ _ rfl]
  unfold hoM at e3 ⊢
  rcases hcw with ⟨q1, q2⟩ | ⟨q1, q2⟩
  · subst q1
    subst q2
    simp (disch := omega) only [q_156_0, q_156_1, q_156_4, q_156_6, q_156_9, q_156_10, q_156_13, q_156_14, q_156_16, q_156_17, q_156_18, q_156_21, q_156_24, q_156_25, q_156_28, q_156_29, q_156_32, q_156_33, q_156_36, q_156_37, q_156_38, q_156_39, q_156_42, q_156_44, q_156_47, q_156_48, q_156_51, q_156_52, q_156_54, q_156_55, q_156_56, q_156_59, q_156_62, q_156_63, q_156_66, q_156_67, q_156_70, q_156_71, q_156_74, q_156_75, q_156_76, q_156_77, q_156_80, q_156_81, q_156_84, q_156_85, q_156_86, q_156_87, q_156_90, q_156_91, q_156_94, q_156_97, q_156_100, q_156_101, q_156_104, q_156_107, q_156_110, q_156_111, q_156_112, q_156_113, q_156_114, q_156_117, q_156_120, q_156_123, q_156_124, q_156_127, q_156_129, q_156_132, q_156_133, q_156_136, q_156_137, q_156_140, q_156_143, q_156_144, q_156_147, q_156_148, q_156_149, q_156_150, q_156_153, q_156_154, q_156_157, q_156_160, q_156_163, q_156_164, q_156_167, q_156_170, q_156_171, q_156_174, q_156_175, q_156_176, q_156_179, q_156_180, q_156_181, q_156_184, q_156_185, q_156_188, q_156_190, q_156_193, q_156_194, q_156_197, q_156_198, q_156_200, q_156_201, q_156_202, q_156_205, q_156_206, q_156_209, q_156_210, q_156_213, q_156_214, q_156_217, q_156_218, q_156_219, q_156_220, q_156_221, q_156_222, q_156_223, q_156_226, q_156_227, q_156_230, q_156_231, q_156_232, q_156_233, q_156_236, q_156_237, q_156_240, q_156_241, q_156_244, q_156_245, q_156_246, q_156_247, q_156_250, q_156_251, q_156_254, q_156_255, og_11_31, og_11_32, og_11_34, og_11_33, o_is, o_ob, ofs_len11, ↓reduceIte, k_cr, k_ci, k_oR, k_oN, k_aR, k_aN, and_true, true_and, and_self, eq_self, Nat.reduceLT, Nat.reduceLeDiff, Nat.reduceEqDiff, Nat.reduceAdd, Nat.reduceMul, Bool.true_eq_false, Bool.false_eq_true, Nat.add_sub_cancel, Nat.not_lt_zero, Nat.zero_le, k_sub, k_sb1, k_r, k_n, k_ret, k_t1, k_t0, k_nr, k_nn, k_z0, k_z1, k_zb, x_okI, lit_nI, k_in, k_cl, k_lt, k_le, k_eq, k_neg, nI_add, nI_mul, k_clt, k_cgt, k_cle, k_cge, k_ceq, bI_0, k_sh8, ne_eq, Nat.add_eq_zero_iff, Nat.one_ne_zero, Nat.succ_ne_zero, and_false, false_and, not_false_eq_true, not_true_eq_false, ite_true, ite_false, if_true, if_false, sI_uI, sJ_uI, sA_uI, sL_uI, sR_uI, sQ_uI, sI_uJ, sJ_uJ, sA_uJ, sL_uJ, sR_uJ, sQ_uJ, sI_uA, sJ_uA, sA_uA, sL_uA, sR_uA, sQ_uA, sI_uL, sJ_uL, sA_uL, sL_uL, sR_uL, sQ_uL, sI_uR, sJ_uR, sA_uR, sL_uR, sR_uR, sQ_uR, sI_uQ, sJ_uQ, sA_uQ, sL_uQ, sR_uQ, sQ_uQ, h31, h32, h34, e1, e2, e3]
  · subst q1
    subst q2
    simp (disch := omega) only [q_156_0, q_156_1, q_156_4, q_156_6, q_156_9, q_156_10, q_156_13, q_156_14, q_156_16, q_156_17, q_156_18, q_156_21, q_156_24, q_156_25, q_156_28, q_156_29, q_156_32, q_156_33, q_156_36, q_156_37, q_156_38, q_156_39, q_156_42, q_156_44, q_156_47, q_156_48, q_156_51, q_156_52, q_156_54, q_156_55, q_156_56, q_156_59, q_156_62, q_156_63, q_156_66, q_156_67, q_156_70, q_156_71, q_156_74, q_156_75, q_156_76, q_156_77, q_156_80, q_156_81, q_156_84, q_156_85, q_156_86, q_156_87, q_156_90, q_156_91, q_156_94, q_156_97, q_156_100, q_156_101, q_156_104, q_156_107, q_156_110, q_156_111, q_156_112, q_156_113, q_156_114, q_156_117, q_156_120, q_156_123, q_156_124, q_156_127, q_156_129, q_156_132, q_156_133, q_156_136, q_156_137, q_156_140, q_156_143, q_156_144, q_156_147, q_156_148, q_156_149, q_156_150, q_156_153, q_156_154, q_156_157, q_156_160, q_156_163, q_156_164, q_156_167, q_156_170, q_156_171, q_156_174, q_156_175, q_156_176, q_156_179, q_156_180, q_156_181, q_156_184, q_156_185, q_156_188, q_156_190, q_156_193, q_156_194, q_156_197, q_156_198, q_156_200, q_156_201, q_156_202, q_156_205, q_156_206, q_156_209, q_156_210, q_156_213, q_156_214, q_156_217, q_156_218, q_156_219, q_156_220, q_156_221, q_156_222, q_156_223, q_156_226, q_156_227, q_156_230, q_156_231, q_156_232, q_156_233, q_156_236, q_156_237, q_156_240, q_156_241, q_156_244, q_156_245, q_156_246, q_156_247, q_156_250, q_156_251, q_156_254, q_156_255, og_11_31, og_11_32, og_11_34, og_11_33, o_is, o_ob, ofs_len11, ↓reduceIte, k_cr, k_ci, k_oR, k_oN, k_aR, k_aN, and_true, true_and, and_self, eq_self, Nat.reduceLT, Nat.reduceLeDiff, Nat.reduceEqDiff, Nat.reduceAdd, Nat.reduceMul, Bool.true_eq_false, Bool.false_eq_true, Nat.add_sub_cancel, Nat.not_lt_zero, Nat.zero_le, k_sub, k_sb1, k_r, k_n, k_ret, k_t1, k_t0, k_nr, k_nn, k_z0, k_z1, k_zb, x_okI, lit_nI, k_in, k_cl, k_lt, k_le, k_eq, k_neg, nI_add, nI_mul, k_clt, k_cgt, k_cle, k_cge, k_ceq, bI_0, k_sh8, ne_eq, Nat.add_eq_zero_iff, Nat.one_ne_zero, Nat.succ_ne_zero, and_false, false_and, not_false_eq_true, not_true_eq_false, ite_true, ite_false, if_true, if_false, sI_uI, sJ_uI, sA_uI, sL_uI, sR_uI, sQ_uI, sI_uJ, sJ_uJ, sA_uJ, sL_uJ, sR_uJ, sQ_uJ, sI_uA, sJ_uA, sA_uA, sL_uA, sR_uA, sQ_uA, sI_uL, sJ_uL, sA_uL, sL_uL, sR_uL, sQ_uL, sI_uR, sJ_uR, sA_uR, sL_uR, sR_uR, sQ_uR, sI_uQ, sJ_uQ, sA_uQ, sL_uQ, sR_uQ, sQ_uQ, h31, h32, h34, e1, e2, e3]
theorem m_fac_inX (d : Nat) (h : xH) (M : Nat) {t : Nat → Int32} {n : Nat} {S0 S : gS} {i : Nat} {A H : List aT} (c w : Int32) (hcw : c = nI 45 ∧ w = nI 6 ∨ c = nI 40 ∧ w = nI 12) (h7 : n ≤ 700) (hb : bV t n S0 S i A H) (hl : A.length + H.length ≤ 699) (hc : (pcs t n).1 i = c) (hk : ¬ nst H < 20) : ∃ S', xm (d + 3) 156 [.ref M] (oh 11 h M S) = some (some (.int (nI 1)), oh 11 h M S') ∧ bdV t n S0 S' i := by
  have e1 := m_deepX d h M hb hl hk
  have b1 : bdV t n S0 (uI (uI S 57 (nI (nst H + 1))) 34 (nI ((pcs t n).2.1 i))) i := ⟨rfl, (hb.2.2.2.2.2.uI (by decide)).uI (by decide)⟩
  have e2 := m_hold (d + 1) h M H.length (uI (uI S 57 (nI (nst H + 1))) 34 (nI ((pcs t n).2.1 i))) w 0 (nI ((pcs t n).2.1 i)) hb.2.2.2.1.1 (by omega)
  refine ⟨_, ?_, b1.hoM (k := H.length) (w := w) (v := 0) (a := nI ((pcs t n).2.1 i))⟩
  have h31 : sI S 31 = c := hb.1.2.2.2.1.trans hc
  have h32 := hb.1.2.2.2.2.1
  have hA := pcs_A t n i
  rw [E_156 _ _ _ rfl]
  unfold hoM
  generalize (pcs t n).2.1 i = z at *
  rcases hcw with ⟨q1, q2⟩ | ⟨q1, q2⟩
  · subst q1
    subst q2
    simp (disch := omega) only [q_156_0, q_156_1, q_156_4, q_156_6, q_156_9, q_156_10, q_156_13, q_156_14, q_156_16, q_156_17, q_156_18, q_156_21, q_156_24, q_156_25, q_156_28, q_156_29, q_156_32, q_156_33, q_156_36, q_156_37, q_156_38, q_156_39, q_156_42, q_156_44, q_156_47, q_156_48, q_156_51, q_156_52, q_156_54, q_156_55, q_156_56, q_156_59, q_156_62, q_156_63, q_156_66, q_156_67, q_156_70, q_156_71, q_156_74, q_156_75, q_156_76, q_156_77, q_156_80, q_156_81, q_156_84, q_156_85, q_156_86, q_156_87, q_156_90, q_156_91, q_156_94, q_156_97, q_156_100, q_156_101, q_156_104, q_156_107, q_156_110, q_156_111, q_156_112, q_156_113, q_156_114, q_156_117, q_156_120, q_156_123, q_156_124, q_156_127, q_156_129, q_156_132, q_156_133, q_156_136, q_156_137, q_156_140, q_156_143, q_156_144, q_156_147, q_156_148, q_156_149, q_156_150, q_156_153, q_156_154, q_156_157, q_156_160, q_156_163, q_156_164, q_156_167, q_156_170, q_156_171, q_156_174, q_156_175, q_156_176, q_156_179, q_156_180, q_156_181, q_156_184, q_156_185, q_156_188, q_156_190, q_156_193, q_156_194, q_156_197, q_156_198, q_156_200, q_156_201, q_156_202, q_156_205, q_156_206, q_156_209, q_156_210, q_156_213, q_156_214, q_156_217, q_156_218, q_156_219, q_156_220, q_156_221, q_156_222, q_156_223, q_156_226, q_156_227, q_156_230, q_156_231, q_156_232, q_156_233, q_156_236, q_156_237, q_156_240, q_156_241, q_156_244, q_156_245, q_156_246, q_156_247, q_156_250, q_156_251, q_156_254, q_156_255, og_11_31, og_11_32, og_11_34, og_11_33, o_is, o_ob, ofs_len11, ↓reduceIte, k_cr, k_ci, k_oR, k_oN, k_aR, k_aN, and_true, true_and, and_self, eq_self, Nat.reduceLT, Nat.reduceLeDiff, Nat.reduceEqDiff, Nat.reduceAdd, Nat.reduceMul, Bool.true_eq_false, Bool.false_eq_true, Nat.add_sub_cancel, Nat.not_lt_zero, Nat.zero_le, k_sub, k_sb1, k_r, k_n, k_ret, k_t1, k_t0, k_nr, k_nn, k_z0, k_z1, k_zb, x_okI, lit_nI, k_in, k_cl, k_lt, k_le, k_eq, k_neg, nI_add, nI_mul, k_clt, k_cgt, k_cle, k_cge, k_ceq, bI_0, k_sh8, ne_eq, Nat.add_eq_zero_iff, Nat.one_ne_zero, Nat.succ_ne_zero, and_false, false_and, not_false_eq_true, not_true_eq_false, ite_true, ite_false, if_true, if_false, sI_uI, sJ_uI, sA_uI, sL_uI, sR_uI, sQ_uI, sI_uJ, sJ_uJ, sA_uJ, sL_uJ, sR_uJ, sQ_uJ, sI_uA, sJ_uA, sA_uA, sL_uA, sR_uA, sQ_uA, sI_uL, sJ_uL, sA_uL, sL_uL, sR_uL, sQ_uL, sI_uR, sJ_uR, sA_uR, sL_uR, sR_uR, sQ_uR, sI_uQ, sJ_uQ, sA_uQ, sL_uQ, sR_uQ, sQ_uQ, h31, h32, e1, e2]
  · subst q1
    subst q2
    simp (disch := omega) only [q_156_0, q_156_1, q_156_4, q_156_6, q_156_9, q_156_10, q_156_13, q_156_14, q_156_16, q_156_17, q_156_18, q_156_21, q_156_24, q_156_25, q_156_28, q_156_29, q_156_32, q_156_33, q_156_36, q_156_37, q_156_38, q_156_39, q_156_42, q_156_44, q_156_47, q_156_48, q_156_51, q_156_52, q_156_54, q_156_55, q_156_56, q_156_59, q_156_62, q_156_63, q_156_66, q_156_67, q_156_70, q_156_71, q_156_74, q_156_75, q_156_76, q_156_77, q_156_80, q_156_81, q_156_84, q_156_85, q_156_86, q_156_87, q_156_90, q_156_91, q_156_94, q_156_97, q_156_100, q_156_101, q_156_104, q_156_107, q_156_110, q_156_111, q_156_112, q_156_113, q_156_114, q_156_117, q_156_120, q_156_123, q_156_124, q_156_127, q_156_129, q_156_132, q_156_133, q_156_136, q_156_137, q_156_140, q_156_143, q_156_144, q_156_147, q_156_148, q_156_149, q_156_150, q_156_153, q_156_154, q_156_157, q_156_160, q_156_163, q_156_164, q_156_167, q_156_170, q_156_171, q_156_174, q_156_175, q_156_176, q_156_179, q_156_180, q_156_181, q_156_184, q_156_185, q_156_188, q_156_190, q_156_193, q_156_194, q_156_197, q_156_198, q_156_200, q_156_201, q_156_202, q_156_205, q_156_206, q_156_209, q_156_210, q_156_213, q_156_214, q_156_217, q_156_218, q_156_219, q_156_220, q_156_221, q_156_222, q_156_223, q_156_226, q_156_227, q_156_230, q_156_231, q_156_232, q_156_233, q_156_236, q_156_237, q_156_240, q_156_241, q_156_244, q_156_245, q_156_246, q_156_247, q_156_250, q_156_251, q_156_254, q_156_255, og_11_31, og_11_32, og_11_34, og_11_33, o_is, o_ob, ofs_len11, ↓reduceIte, k_cr, k_ci, k_oR, k_oN, k_aR, k_aN, and_true, true_and, and_self, eq_self, Nat.reduceLT, Nat.reduceLeDiff, Nat.reduceEqDiff, Nat.reduceAdd, Nat.reduceMul, Bool.true_eq_false, Bool.false_eq_true, Nat.add_sub_cancel, Nat.not_lt_zero, Nat.zero_le, k_sub, k_sb1, k_r, k_n, k_ret, k_t1, k_t0, k_nr, k_nn, k_z0, k_z1, k_zb, x_okI, lit_nI, k_in, k_cl, k_lt, k_le, k_eq, k_neg, nI_add, nI_mul, k_clt, k_cgt, k_cle, k_cge, k_ceq, bI_0, k_sh8, ne_eq, Nat.add_eq_zero_iff, Nat.one_ne_zero, Nat.succ_ne_zero, and_false, false_and, not_false_eq_true, not_true_eq_false, ite_true, ite_false, if_true, if_false, sI_uI, sJ_uI, sA_uI, sL_uI, sR_uI, sQ_uI, sI_uJ, sJ_uJ, sA_uJ, sL_uJ, sR_uJ, sQ_uJ, sI_uA, sJ_uA, sA_uA, sL_uA, sR_uA, sQ_uA, sI_uL, sJ_uL, sA_uL, sL_uL, sR_uL, sQ_uL, sI_uR, sJ_uR, sA_uR, sL_uR, sR_uR, sQ_uR, sI_uQ, sJ_uQ, sA_uQ, sL_uQ, sR_uQ, sQ_uQ, h31, h32, e1, e2]
theorem wdN_V {t : Nat → Int32} {n : Nat} {S : gS} {i : Nat} (h : rV t n S i) (w : Int64) : wdN S w = pWd (pcs t n) i w := by
  unfold wdN pWd
  rw [h.2.2.2.1, h.2.2.2.2.2]
theorem nmN_V {t : Nat → Int32} {n : Nat} {S : gS} {i : Nat} (h : rV t n S i) : nmN S = pNm (pcs t n) i := by
  unfold nmN pNm
  rw [h.2.2.2.1, h.2.2.2.2.2]
/-- a number, or key -/
theorem m_fac_num (d : Nat) (h : xH) (M : Nat) {t : Nat → Int32} {n : Nat} {S0 S : gS} {i : Nat} {A H : List aT} (h7 : n ≤ 700) (hb : bV t n S0 S i A H) (hl : A.length + H.length ≤ 699) (hc : (pcs t n).1 i = nI 2) : ∃ S', xm (d + 3) 156 [.ref M] (oh 11 h M S) = some (some (.int (nI 0)), oh 11 h M S') ∧ bV t n S0 S' (i + 1) (whA H (A ++ [(nI 1, (pcs t n).2.2 i, (pcs t n).2.1 i)])) (whH H) := by
  have b1 := hb.emit (nI 1) ((pcs t n).2.2 i) ((pcs t n).2.1 i)
  have e1 := m_emit (d + 1) h M A.length S (nI 1) ((pcs t n).2.2 i) (nI ((pcs t n).2.1 i)) hb.2.2.1.1 (by omega)
  have e2 := m_readV d h M h7 b1
  obtain ⟨S', e3, b3⟩ := m_whole d h M b1.read (by rw [List.length_append, List.length_singleton]; omega)
  refine ⟨S', ?_, b3⟩
  have h31 : sI S 31 = nI 2 := hb.1.2.2.2.1.trans hc
  have h32 := hb.1.2.2.2.2.1
  have h33 := hb.1.2.2.2.2.2
  have h34 := hb.2.1
  rw [E_156 _ _ _ rfl]
  unfold emM at e2 e3
  simp (disch := omega) only [q_156_0, q_156_1, q_156_4, q_156_6, q_156_9, q_156_10, q_156_13, q_156_14, q_156_16, q_156_17, q_156_18, q_156_21, q_156_24, q_156_25, q_156_28, q_156_29, q_156_32, q_156_33, q_156_36, q_156_37, q_156_38, q_156_39, q_156_42, q_156_44, q_156_47, q_156_48, q_156_51, q_156_52, q_156_54, q_156_55, q_156_56, q_156_59, q_156_62, q_156_63, q_156_66, q_156_67, q_156_70, q_156_71, q_156_74, q_156_75, q_156_76, q_156_77, q_156_80, q_156_81, q_156_84, q_156_85, q_156_86, q_156_87, q_156_90, q_156_91, q_156_94, q_156_97, q_156_100, q_156_101, q_156_104, q_156_107, q_156_110, q_156_111, q_156_112, q_156_113, q_156_114, q_156_117, q_156_120, q_156_123, q_156_124, q_156_127, q_156_129, q_156_132, q_156_133, q_156_136, q_156_137, q_156_140, q_156_143, q_156_144, q_156_147, q_156_148, q_156_149, q_156_150, q_156_153, q_156_154, q_156_157, q_156_160, q_156_163, q_156_164, q_156_167, q_156_170, q_156_171, q_156_174, q_156_175, q_156_176, q_156_179, q_156_180, q_156_181, q_156_184, q_156_185, q_156_188, q_156_190, q_156_193, q_156_194, q_156_197, q_156_198, q_156_200, q_156_201, q_156_202, q_156_205, q_156_206, q_156_209, q_156_210, q_156_213, q_156_214, q_156_217, q_156_218, q_156_219, q_156_220, q_156_221, q_156_222, q_156_223, q_156_226, q_156_227, q_156_230, q_156_231, q_156_232, q_156_233, q_156_236, q_156_237, q_156_240, q_156_241, q_156_244, q_156_245, q_156_246, q_156_247, q_156_250, q_156_251, q_156_254, q_156_255, og_11_31, og_11_32, og_11_34, og_11_33, o_is, o_ob, ofs_len11, ↓reduceIte, k_cr, k_ci, k_oR, k_oN, k_aR, k_aN, and_true, true_and, and_self, eq_self, Nat.reduceLT, Nat.reduceLeDiff, Nat.reduceEqDiff, Nat.reduceAdd, Nat.reduceMul, Bool.true_eq_false, Bool.false_eq_true, Nat.add_sub_cancel, Nat.not_lt_zero, Nat.zero_le, k_sub, k_sb1, k_r, k_n, k_ret, k_t1, k_t0, k_nr, k_nn, k_z0, k_z1, k_zb, x_okI, lit_nI, k_in, k_cl, k_lt, k_le, k_eq, k_neg, nI_add, nI_mul, k_clt, k_cgt, k_cle, k_cge, k_ceq, bI_0, k_sh8, ne_eq, Nat.add_eq_zero_iff, Nat.one_ne_zero, Nat.succ_ne_zero, and_false, false_and, not_false_eq_true, not_true_eq_false, ite_true, ite_false, if_true, if_false, sI_uI, sJ_uI, sA_uI, sL_uI, sR_uI, sQ_uI, sI_uJ, sJ_uJ, sA_uJ, sL_uJ, sR_uJ, sQ_uJ, sI_uA, sJ_uA, sA_uA, sL_uA, sR_uA, sQ_uA, sI_uL, sJ_uL, sA_uL, sL_uL, sR_uL, sQ_uL, sI_uR, sJ_uR, sA_uR, sL_uR, sR_uR, sQ_uR, sI_uQ, sJ_uQ, sA_uQ, sL_uQ, sR_uQ, sQ_uQ, h31, h32, h33, h34, e1, e2, e3]
theorem m_fac_key (d : Nat) (h : xH) (M : Nat) {t : Nat → Int32} {n : Nat} {S0 S : gS} {i : Nat} {A H : List aT} (h7 : n ≤ 700) (hb : bV t n S0 S i A H) (hl : A.length + H.length ≤ 699) (hw : pWd (pcs t n) i 7038329 = true) : ∃ S', xm (d + 3) 156 [.ref M] (oh 11 h M S) = some (some (.int (nI 0)), oh 11 h M S') ∧ bV t n S0 S' (i + 1) (whA H (A ++ [(nI 2, 0, (pcs t n).2.1 i)])) (whH H) := by
  have b1 := hb.emit (nI 2) 0 ((pcs t n).2.1 i)
  have e1 := m_emit (d + 1) h M A.length S (nI 2) 0 (nI ((pcs t n).2.1 i)) hb.2.2.1.1 (by omega)
  have e2 := m_readV d h M h7 b1
  obtain ⟨S', e3, b3⟩ := m_whole d h M b1.read (by rw [List.length_append, List.length_singleton]; omega)
  refine ⟨S', ?_, b3⟩
  have hc : (pcs t n).1 i = nI 1 := by
    unfold pWd at hw
    rw [Bool.and_eq_true, decide_eq_true_eq] at hw
    exact hw.1
  have h31 : sI S 31 = nI 1 := hb.1.2.2.2.1.trans hc
  have h32 := hb.1.2.2.2.2.1
  have h34 := hb.2.1
  have e4 := m_isWordNow (d + 1) h M S 7038329
  rw [wdN_V hb.1, hw] at e4
  rw [E_156 _ _ _ rfl]
  unfold emM at e2 e3
  simp (disch := omega) only [q_156_0, q_156_1, q_156_4, q_156_6, q_156_9, q_156_10, q_156_13, q_156_14, q_156_16, q_156_17, q_156_18, q_156_21, q_156_24, q_156_25, q_156_28, q_156_29, q_156_32, q_156_33, q_156_36, q_156_37, q_156_38, q_156_39, q_156_42, q_156_44, q_156_47, q_156_48, q_156_51, q_156_52, q_156_54, q_156_55, q_156_56, q_156_59, q_156_62, q_156_63, q_156_66, q_156_67, q_156_70, q_156_71, q_156_74, q_156_75, q_156_76, q_156_77, q_156_80, q_156_81, q_156_84, q_156_85, q_156_86, q_156_87, q_156_90, q_156_91, q_156_94, q_156_97, q_156_100, q_156_101, q_156_104, q_156_107, q_156_110, q_156_111, q_156_112, q_156_113, q_156_114, q_156_117, q_156_120, q_156_123, q_156_124, q_156_127, q_156_129, q_156_132, q_156_133, q_156_136, q_156_137, q_156_140, q_156_143, q_156_144, q_156_147, q_156_148, q_156_149, q_156_150, q_156_153, q_156_154, q_156_157, q_156_160, q_156_163, q_156_164, q_156_167, q_156_170, q_156_171, q_156_174, q_156_175, q_156_176, q_156_179, q_156_180, q_156_181, q_156_184, q_156_185, q_156_188, q_156_190, q_156_193, q_156_194, q_156_197, q_156_198, q_156_200, q_156_201, q_156_202, q_156_205, q_156_206, q_156_209, q_156_210, q_156_213, q_156_214, q_156_217, q_156_218, q_156_219, q_156_220, q_156_221, q_156_222, q_156_223, q_156_226, q_156_227, q_156_230, q_156_231, q_156_232, q_156_233, q_156_236, q_156_237, q_156_240, q_156_241, q_156_244, q_156_245, q_156_246, q_156_247, q_156_250, q_156_251, q_156_254, q_156_255, og_11_31, og_11_32, og_11_34, og_11_33, o_is, o_ob, ofs_len11, ↓reduceIte, k_cr, k_ci, k_oR, k_oN, k_aR, k_aN, and_true, true_and, and_self, eq_self, Nat.reduceLT, Nat.reduceLeDiff, Nat.reduceEqDiff, Nat.reduceAdd, Nat.reduceMul, Bool.true_eq_false, Bool.false_eq_true, Nat.add_sub_cancel, Nat.not_lt_zero, Nat.zero_le, k_sub, k_sb1, k_r, k_n, k_ret, k_t1, k_t0, k_nr, k_nn, k_z0, k_z1, k_zb, x_okI, lit_nI, k_in, k_cl, k_lt, k_le, k_eq, k_neg, nI_add, nI_mul, k_clt, k_cgt, k_cle, k_cge, k_ceq, bI_0, k_sh8, ne_eq, Nat.add_eq_zero_iff, Nat.one_ne_zero, Nat.succ_ne_zero, and_false, false_and, not_false_eq_true, not_true_eq_false, ite_true, ite_false, if_true, if_false, sI_uI, sJ_uI, sA_uI, sL_uI, sR_uI, sQ_uI, sI_uJ, sJ_uJ, sA_uJ, sL_uJ, sR_uJ, sQ_uJ, sI_uA, sJ_uA, sA_uA, sL_uA, sR_uA, sQ_uA, sI_uL, sJ_uL, sA_uL, sL_uL, sR_uL, sQ_uL, sI_uR, sJ_uR, sA_uR, sL_uR, sR_uR, sQ_uR, sI_uQ, sJ_uQ, sA_uQ, sL_uQ, sR_uQ, sQ_uQ, h31, h32, h34, e1, e2, e3, e4]
/-- # -/
theorem m_fac_len (d : Nat) (h : xH) (M : Nat) {t : Nat → Int32} {n : Nat} {S0 S : gS} {i : Nat} {A H : List aT} (h7 : n ≤ 700) (hb : bV t n S0 S i A H) (hl : A.length + H.length ≤ 699) (hc : (pcs t n).1 i = nI 35) (hn : pNm (pcs t n) (i + 1) = true) : ∃ S', xm (d + 3) 156 [.ref M] (oh 11 h M S) = some (some (.int (nI 0)), oh 11 h M S') ∧ bV t n S0 S' (i + 2) (whA H (A ++ [(nI 5, (pcs t n).2.2 (i + 1), (pcs t n).2.1 (i + 1))])) (whH H) := by
  have e0 := m_readV d h M h7 hb
  have b0 := hb.read
  generalize rdN S n (psF t n (i + 1)) = S1 at e0 b0
  have b1 := b0.emit (nI 5) ((pcs t n).2.2 (i + 1)) ((pcs t n).2.1 (i + 1))
  have e1 := m_emit (d + 1) h M A.length S1 (nI 5) ((pcs t n).2.2 (i + 1)) (nI ((pcs t n).2.1 (i + 1))) b0.2.2.1.1 (by omega)
  have e2 := m_readV d h M h7 b1
  obtain ⟨S', e3, b3⟩ := m_whole d h M b1.read (by rw [List.length_append, List.length_singleton]; omega)
  refine ⟨S', ?_, b3⟩
  have h31 : sI S 31 = nI 35 := hb.1.2.2.2.1.trans hc
  have h32 := b0.1.2.2.2.2.1
  have h33 := b0.1.2.2.2.2.2
  have h34 := b0.2.1
  have e4 := m_isWordNow (d + 1) h M S 7038329
  rw [wdN_V hb.1, show pWd (pcs t n) i 7038329 = false by unfold pWd; rw [hc]; rfl] at e4
  have e5 := m_isNameNow d h M S1
  rw [nmN_V b0.1, hn] at e5
  rw [E_156 _ _ _ rfl]
  unfold emM at e2 e3
  simp (disch := omega) only [q_156_0, q_156_1, q_156_4, q_156_6, q_156_9, q_156_10, q_156_13, q_156_14, q_156_16, q_156_17, q_156_18, q_156_21, q_156_24, q_156_25, q_156_28, q_156_29, q_156_32, q_156_33, q_156_36, q_156_37, q_156_38, q_156_39, q_156_42, q_156_44, q_156_47, q_156_48, q_156_51, q_156_52, q_156_54, q_156_55, q_156_56, q_156_59, q_156_62, q_156_63, q_156_66, q_156_67, q_156_70, q_156_71, q_156_74, q_156_75, q_156_76, q_156_77, q_156_80, q_156_81, q_156_84, q_156_85, q_156_86, q_156_87, q_156_90, q_156_91, q_156_94, q_156_97, q_156_100, q_156_101, q_156_104, q_156_107, q_156_110, q_156_111, q_156_112, q_156_113, q_156_114, q_156_117, q_156_120, q_156_123, q_156_124, q_156_127, q_156_129, q_156_132, q_156_133, q_156_136, q_156_137, q_156_140, q_156_143, q_156_144, q_156_147, q_156_148, q_156_149, q_156_150, q_156_153, q_156_154, q_156_157, q_156_160, q_156_163, q_156_164, q_156_167, q_156_170, q_156_171, q_156_174, q_156_175, q_156_176, q_156_179, q_156_180, q_156_181, q_156_184, q_156_185, q_156_188, q_156_190, q_156_193, q_156_194, q_156_197, q_156_198, q_156_200, q_156_201, q_156_202, q_156_205, q_156_206, q_156_209, q_156_210, q_156_213, q_156_214, q_156_217, q_156_218, q_156_219, q_156_220, q_156_221, q_156_222, q_156_223, q_156_226, q_156_227, q_156_230, q_156_231, q_156_232, q_156_233, q_156_236, q_156_237, q_156_240, q_156_241, q_156_244, q_156_245, q_156_246, q_156_247, q_156_250, q_156_251, q_156_254, q_156_255, og_11_31, og_11_32, og_11_34, og_11_33, o_is, o_ob, ofs_len11, ↓reduceIte, k_cr, k_ci, k_oR, k_oN, k_aR, k_aN, and_true, true_and, and_self, eq_self, Nat.reduceLT, Nat.reduceLeDiff, Nat.reduceEqDiff, Nat.reduceAdd, Nat.reduceMul, Bool.true_eq_false, Bool.false_eq_true, Nat.add_sub_cancel, Nat.not_lt_zero, Nat.zero_le, k_sub, k_sb1, k_r, k_n, k_ret, k_t1, k_t0, k_nr, k_nn, k_z0, k_z1, k_zb, x_okI, lit_nI, k_in, k_cl, k_lt, k_le, k_eq, k_neg, nI_add, nI_mul, k_clt, k_cgt, k_cle, k_cge, k_ceq, bI_0, k_sh8, ne_eq, Nat.add_eq_zero_iff, Nat.one_ne_zero, Nat.succ_ne_zero, and_false, false_and, not_false_eq_true, not_true_eq_false, ite_true, ite_false, if_true, if_false, sI_uI, sJ_uI, sA_uI, sL_uI, sR_uI, sQ_uI, sI_uJ, sJ_uJ, sA_uJ, sL_uJ, sR_uJ, sQ_uJ, sI_uA, sJ_uA, sA_uA, sL_uA, sR_uA, sQ_uA, sI_uL, sJ_uL, sA_uL, sL_uL, sR_uL, sQ_uL, sI_uR, sJ_uR, sA_uR, sL_uR, sR_uR, sQ_uR, sI_uQ, sJ_uQ, sA_uQ, sL_uQ, sR_uQ, sQ_uQ, h31, h32, h33, h34, e0, e1, e2, e3, e4, e5]
theorem m_fac_lenX (d : Nat) (h : xH) (M : Nat) {t : Nat → Int32} {n : Nat} {S0 S : gS} {i : Nat} {A H : List aT} (h7 : n ≤ 700) (hb : bV t n S0 S i A H) (hl : A.length + H.length ≤ 699) (hc : (pcs t n).1 i = nI 35) (hn : pNm (pcs t n) (i + 1) = false) : ∃ S', xm (d + 3) 156 [.ref M] (oh 11 h M S) = some (some (.int (nI 0)), oh 11 h M S') ∧ bU (nI ((pcs t n).2.1 (i + 1))) t n S0 S' (i + 1) (A ++ [(nI 5, (pcs t n).2.2 (i + 1), (pcs t n).2.1 (i + 1))]) H := by
  have e0 := m_readV d h M h7 hb
  have b0 := hb.read
  generalize rdN S n (psF t n (i + 1)) = S1 at e0 b0
  have bx := (b0.mark (nI ((pcs t n).2.1 (i + 1)))).emit (nI 5) ((pcs t n).2.2 (i + 1)) ((pcs t n).2.1 (i + 1))
  have ef := m_fail (d + 1) h M S1
  rw [b0.flE] at ef
  have e1 := m_emit (d + 1) h M A.length (uI S1 34 (nI ((pcs t n).2.1 (i + 1)))) (nI 5) ((pcs t n).2.2 (i + 1)) (nI ((pcs t n).2.1 (i + 1))) b0.2.2.1.1 (by omega)
  refine ⟨_, ?_, bx⟩
  have h31 : sI S 31 = nI 35 := hb.1.2.2.2.1.trans hc
  have h32 := b0.1.2.2.2.2.1
  have h33 := b0.1.2.2.2.2.2
  have hA := pcs_A t n (i + 1)
  have e4 := m_isWordNow (d + 1) h M S 7038329
  rw [wdN_V hb.1, show pWd (pcs t n) i 7038329 = false by unfold pWd; rw [hc]; rfl] at e4
  have e5 := m_isNameNow d h M S1
  rw [nmN_V b0.1, hn] at e5
  rw [E_156 _ _ _ rfl]
  unfold emM
  generalize (pcs t n).2.1 (i + 1) = z at *
  simp (disch := omega) only [q_156_0, q_156_1, q_156_4, q_156_6, q_156_9, q_156_10, q_156_13, q_156_14, q_156_16, q_156_17, q_156_18, q_156_21, q_156_24, q_156_25, q_156_28, q_156_29, q_156_32, q_156_33, q_156_36, q_156_37, q_156_38, q_156_39, q_156_42, q_156_44, q_156_47, q_156_48, q_156_51, q_156_52, q_156_54, q_156_55, q_156_56, q_156_59, q_156_62, q_156_63, q_156_66, q_156_67, q_156_70, q_156_71, q_156_74, q_156_75, q_156_76, q_156_77, q_156_80, q_156_81, q_156_84, q_156_85, q_156_86, q_156_87, q_156_90, q_156_91, q_156_94, q_156_97, q_156_100, q_156_101, q_156_104, q_156_107, q_156_110, q_156_111, q_156_112, q_156_113, q_156_114, q_156_117, q_156_120, q_156_123, q_156_124, q_156_127, q_156_129, q_156_132, q_156_133, q_156_136, q_156_137, q_156_140, q_156_143, q_156_144, q_156_147, q_156_148, q_156_149, q_156_150, q_156_153, q_156_154, q_156_157, q_156_160, q_156_163, q_156_164, q_156_167, q_156_170, q_156_171, q_156_174, q_156_175, q_156_176, q_156_179, q_156_180, q_156_181, q_156_184, q_156_185, q_156_188, q_156_190, q_156_193, q_156_194, q_156_197, q_156_198, q_156_200, q_156_201, q_156_202, q_156_205, q_156_206, q_156_209, q_156_210, q_156_213, q_156_214, q_156_217, q_156_218, q_156_219, q_156_220, q_156_221, q_156_222, q_156_223, q_156_226, q_156_227, q_156_230, q_156_231, q_156_232, q_156_233, q_156_236, q_156_237, q_156_240, q_156_241, q_156_244, q_156_245, q_156_246, q_156_247, q_156_250, q_156_251, q_156_254, q_156_255, og_11_31, og_11_32, og_11_34, og_11_33, o_is, o_ob, ofs_len11, ↓reduceIte, k_cr, k_ci, k_oR, k_oN, k_aR, k_aN, and_true, true_and, and_self, eq_self, Nat.reduceLT, Nat.reduceLeDiff, Nat.reduceEqDiff, Nat.reduceAdd, Nat.reduceMul, Bool.true_eq_false, Bool.false_eq_true, Nat.add_sub_cancel, Nat.not_lt_zero, Nat.zero_le, k_sub, k_sb1, k_r, k_n, k_ret, k_t1, k_t0, k_nr, k_nn, k_z0, k_z1, k_zb, x_okI, lit_nI, k_in, k_cl, k_lt, k_le, k_eq, k_neg, nI_add, nI_mul, k_clt, k_cgt, k_cle, k_cge, k_ceq, bI_0, k_sh8, ne_eq, Nat.add_eq_zero_iff, Nat.one_ne_zero, Nat.succ_ne_zero, and_false, false_and, not_false_eq_true, not_true_eq_false, ite_true, ite_false, if_true, if_false, sI_uI, sJ_uI, sA_uI, sL_uI, sR_uI, sQ_uI, sI_uJ, sJ_uJ, sA_uJ, sL_uJ, sR_uJ, sQ_uJ, sI_uA, sJ_uA, sA_uA, sL_uA, sR_uA, sQ_uA, sI_uL, sJ_uL, sA_uL, sL_uL, sR_uL, sQ_uL, sI_uR, sJ_uR, sA_uR, sL_uR, sR_uR, sQ_uR, sI_uQ, sJ_uQ, sA_uQ, sL_uQ, sR_uQ, sQ_uQ, h31, h32, h33, ef, e0, e1, e4, e5]
theorem pNm_1 {p : pP} {i : Nat} (h : pNm p i = true) : p.1 i = nI 1 ∧ isW (p.2.2 i) = false := by
  unfold pNm at h
  rw [Bool.and_eq_true, decide_eq_true_eq] at h
  refine ⟨h.1, ?_⟩
  cases hw : isW (p.2.2 i)
  · rfl
  · rw [hw] at h
    cases h.2
theorem pWd_nm {p : pP} {i : Nat} {w : Int64} (h : pNm p i = true) (hw : isW w = true) : pWd p i w = false := by
  have h1 := (pNm_1 h).2
  unfold pWd
  by_cases e : p.2.2 i = w
  · rw [e, hw] at h1
    cases h1
  · rw [decide_eq_false e, Bool.and_false]
/-- a NAME -/
theorem m_fac_name (d : Nat) (h : xH) (M : Nat) {t : Nat → Int32} {n : Nat} {S0 S : gS} {i : Nat} {A H : List aT} (h7 : n ≤ 700) (hb : bV t n S0 S i A H) (hl : A.length + H.length ≤ 699) (hn : pNm (pcs t n) i = true) (hc : ¬ (pcs t n).1 (i + 1) = nI 91) : ∃ S', xm (d + 3) 156 [.ref M] (oh 11 h M S) = some (some (.int (nI 0)), oh 11 h M S') ∧ bV t n S0 S' (i + 1) (whA H (A ++ [(nI 3, (pcs t n).2.2 i, (pcs t n).2.1 i)])) (whH H) := by
  have e0 := m_readV d h M h7 hb
  have b0 := hb.read
  generalize rdN S n (psF t n (i + 1)) = S1 at e0 b0
  have b1 := b0.emit (nI 3) ((pcs t n).2.2 i) ((pcs t n).2.1 i)
  have e1 := m_emit (d + 1) h M A.length S1 (nI 3) ((pcs t n).2.2 i) (nI ((pcs t n).2.1 i)) b0.2.2.1.1 (by omega)
  obtain ⟨S', e3, b3⟩ := m_whole d h M b1 (by rw [List.length_append, List.length_singleton]; omega)
  refine ⟨S', ?_, b3⟩
  have h31 : sI S 31 = nI 1 := hb.1.2.2.2.1.trans (pNm_1 hn).1
  have h31' : ¬ sI S1 31 = nI 91 := by rw [b0.1.2.2.2.1]; exact hc
  have h32 := hb.1.2.2.2.2.1
  have h33 := hb.1.2.2.2.2.2
  have e4 := m_isWordNow (d + 1) h M S 7038329
  rw [wdN_V hb.1, pWd_nm hn (by decide)] at e4
  have e5 := m_isNameNow d h M S
  rw [nmN_V hb.1, hn] at e5
  rw [E_156 _ _ _ rfl]
  unfold emM at e3
  simp (disch := omega) only [q_156_0, q_156_1, q_156_4, q_156_6, q_156_9, q_156_10, q_156_13, q_156_14, q_156_16, q_156_17, q_156_18, q_156_21, q_156_24, q_156_25, q_156_28, q_156_29, q_156_32, q_156_33, q_156_36, q_156_37, q_156_38, q_156_39, q_156_42, q_156_44, q_156_47, q_156_48, q_156_51, q_156_52, q_156_54, q_156_55, q_156_56, q_156_59, q_156_62, q_156_63, q_156_66, q_156_67, q_156_70, q_156_71, q_156_74, q_156_75, q_156_76, q_156_77, q_156_80, q_156_81, q_156_84, q_156_85, q_156_86, q_156_87, q_156_90, q_156_91, q_156_94, q_156_97, q_156_100, q_156_101, q_156_104, q_156_107, q_156_110, q_156_111, q_156_112, q_156_113, q_156_114, q_156_117, q_156_120, q_156_123, q_156_124, q_156_127, q_156_129, q_156_132, q_156_133, q_156_136, q_156_137, q_156_140, q_156_143, q_156_144, q_156_147, q_156_148, q_156_149, q_156_150, q_156_153, q_156_154, q_156_157, q_156_160, q_156_163, q_156_164, q_156_167, q_156_170, q_156_171, q_156_174, q_156_175, q_156_176, q_156_179, q_156_180, q_156_181, q_156_184, q_156_185, q_156_188, q_156_190, q_156_193, q_156_194, q_156_197, q_156_198, q_156_200, q_156_201, q_156_202, q_156_205, q_156_206, q_156_209, q_156_210, q_156_213, q_156_214, q_156_217, q_156_218, q_156_219, q_156_220, q_156_221, q_156_222, q_156_223, q_156_226, q_156_227, q_156_230, q_156_231, q_156_232, q_156_233, q_156_236, q_156_237, q_156_240, q_156_241, q_156_244, q_156_245, q_156_246, q_156_247, q_156_250, q_156_251, q_156_254, q_156_255, og_11_31, og_11_32, og_11_34, og_11_33, o_is, o_ob, ofs_len11, ↓reduceIte, k_cr, k_ci, k_oR, k_oN, k_aR, k_aN, and_true, true_and, and_self, eq_self, Nat.reduceLT, Nat.reduceLeDiff, Nat.reduceEqDiff, Nat.reduceAdd, Nat.reduceMul, Bool.true_eq_false, Bool.false_eq_true, Nat.add_sub_cancel, Nat.not_lt_zero, Nat.zero_le, k_sub, k_sb1, k_r, k_n, k_ret, k_t1, k_t0, k_nr, k_nn, k_z0, k_z1, k_zb, x_okI, lit_nI, k_in, k_cl, k_lt, k_le, k_eq, k_neg, nI_add, nI_mul, k_clt, k_cgt, k_cle, k_cge, k_ceq, bI_0, k_sh8, ne_eq, Nat.add_eq_zero_iff, Nat.one_ne_zero, Nat.succ_ne_zero, and_false, false_and, not_false_eq_true, not_true_eq_false, ite_true, ite_false, if_true, if_false, sI_uI, sJ_uI, sA_uI, sL_uI, sR_uI, sQ_uI, sI_uJ, sJ_uJ, sA_uJ, sL_uJ, sR_uJ, sQ_uJ, sI_uA, sJ_uA, sA_uA, sL_uA, sR_uA, sQ_uA, sI_uL, sJ_uL, sA_uL, sL_uL, sR_uL, sQ_uL, sI_uR, sJ_uR, sA_uR, sL_uR, sR_uR, sQ_uR, sI_uQ, sJ_uQ, sA_uQ, sL_uQ, sR_uQ, sQ_uQ, h31, h31', h32, h33, e0, e1, e3, e4, e5]
theorem m_fac_row (d : Nat) (h : xH) (M : Nat) {t : Nat → Int32} {n : Nat} {S0 S : gS} {i : Nat} {A H : List aT} (h7 : n ≤ 700) (hb : bV t n S0 S i A H) (hl : A.length + H.length ≤ 699) (hn : pNm (pcs t n) i = true) (hc : (pcs t n).1 (i + 1) = nI 91) (hk : nst H < 20) : ∃ S', xm (d + 3) 156 [.ref M] (oh 11 h M S) = some (some (.int (nI 1)), oh 11 h M S') ∧ bV t n S0 S' (i + 2) A ((nI 13, (pcs t n).2.2 i, (pcs t n).2.1 i) :: H) := by
  have e0 := m_readV d h M h7 hb
  have b0 := hb.read
  generalize rdN S n (psF t n (i + 1)) = S1 at e0 b0
  have e1 := m_deepV d h M b0 hl hk
  have b2 := b0.deep (nI 13) ((pcs t n).2.2 i) ((pcs t n).2.1 i) (by decide)
  have e2 := m_hold (d + 1) h M H.length (uI S1 57 (nI (nst H + 1))) (nI 13) ((pcs t n).2.2 i) (nI ((pcs t n).2.1 i)) b0.2.2.2.1.1 (by omega)
  have e3 := m_readV d h M h7 b2
  refine ⟨_, ?_, b2.read⟩
  have h31 : sI S 31 = nI 1 := hb.1.2.2.2.1.trans (pNm_1 hn).1
  have h31' : sI S1 31 = nI 91 := b0.1.2.2.2.1.trans hc
  have h32 := hb.1.2.2.2.2.1
  have h33 := hb.1.2.2.2.2.2
  have h34 := b0.2.1
  have e4 := m_isWordNow (d + 1) h M S 7038329
  rw [wdN_V hb.1, pWd_nm hn (by decide)] at e4
  have e5 := m_isNameNow d h M S
  rw [nmN_V hb.1, hn] at e5
  rw [E_156 _ _ _ rfl]
  unfold hoM at e3 ⊢
  simp (disch := omega) only [q_156_0, q_156_1, q_156_4, q_156_6, q_156_9, q_156_10, q_156_13, q_156_14, q_156_16, q_156_17, q_156_18, q_156_21, q_156_24, q_156_25, q_156_28, q_156_29, q_156_32, q_156_33, q_156_36, q_156_37, q_156_38, q_156_39, q_156_42, q_156_44, q_156_47, q_156_48, q_156_51, q_156_52, q_156_54, q_156_55, q_156_56, q_156_59, q_156_62, q_156_63, q_156_66, q_156_67, q_156_70, q_156_71, q_156_74, q_156_75, q_156_76, q_156_77, q_156_80, q_156_81, q_156_84, q_156_85, q_156_86, q_156_87, q_156_90, q_156_91, q_156_94, q_156_97, q_156_100, q_156_101, q_156_104, q_156_107, q_156_110, q_156_111, q_156_112, q_156_113, q_156_114, q_156_117, q_156_120, q_156_123, q_156_124, q_156_127, q_156_129, q_156_132, q_156_133, q_156_136, q_156_137, q_156_140, q_156_143, q_156_144, q_156_147, q_156_148, q_156_149, q_156_150, q_156_153, q_156_154, q_156_157, q_156_160, q_156_163, q_156_164, q_156_167, q_156_170, q_156_171, q_156_174, q_156_175, q_156_176, q_156_179, q_156_180, q_156_181, q_156_184, q_156_185, q_156_188, q_156_190, q_156_193, q_156_194, q_156_197, q_156_198, q_156_200, q_156_201, q_156_202, q_156_205, q_156_206, q_156_209, q_156_210, q_156_213, q_156_214, q_156_217, q_156_218, q_156_219, q_156_220, q_156_221, q_156_222, q_156_223, q_156_226, q_156_227, q_156_230, q_156_231, q_156_232, q_156_233, q_156_236, q_156_237, q_156_240, q_156_241, q_156_244, q_156_245, q_156_246, q_156_247, q_156_250, q_156_251, q_156_254, q_156_255, og_11_31, og_11_32, og_11_34, og_11_33, o_is, o_ob, ofs_len11, ↓reduceIte, k_cr, k_ci, k_oR, k_oN, k_aR, k_aN, and_true, true_and, and_self, eq_self, Nat.reduceLT, Nat.reduceLeDiff, Nat.reduceEqDiff, Nat.reduceAdd, Nat.reduceMul, Bool.true_eq_false, Bool.false_eq_true, Nat.add_sub_cancel, Nat.not_lt_zero, Nat.zero_le, k_sub, k_sb1, k_r, k_n, k_ret, k_t1, k_t0, k_nr, k_nn, k_z0, k_z1, k_zb, x_okI, lit_nI, k_in, k_cl, k_lt, k_le, k_eq, k_neg, nI_add, nI_mul, k_clt, k_cgt, k_cle, k_cge, k_ceq, bI_0, k_sh8, ne_eq, Nat.add_eq_zero_iff, Nat.one_ne_zero, Nat.succ_ne_zero, and_false, false_and, not_false_eq_true, not_true_eq_false, ite_true, ite_false, if_true, if_false, sI_uI, sJ_uI, sA_uI, sL_uI, sR_uI, sQ_uI, sI_uJ, sJ_uJ, sA_uJ, sL_uJ, sR_uJ, sQ_uJ, sI_uA, sJ_uA, sA_uA, sL_uA, sR_uA, sQ_uA, sI_uL, sJ_uL, sA_uL, sL_uL, sR_uL, sQ_uL, sI_uR, sJ_uR, sA_uR, sL_uR, sR_uR, sQ_uR, sI_uQ, sJ_uQ, sA_uQ, sL_uQ, sR_uQ, sQ_uQ, h31, h31', h32, h33, h34, e0, e1, e2, e3, e4, e5]
theorem m_fac_rowX (d : Nat) (h : xH) (M : Nat) {t : Nat → Int32} {n : Nat} {S0 S : gS} {i : Nat} {A H : List aT} (h7 : n ≤ 700) (hb : bV t n S0 S i A H) (hl : A.length + H.length ≤ 699) (hn : pNm (pcs t n) i = true) (hc : (pcs t n).1 (i + 1) = nI 91) (hk : ¬ nst H < 20) : ∃ S', xm (d + 3) 156 [.ref M] (oh 11 h M S) = some (some (.int (nI 1)), oh 11 h M S') ∧ bdV t n S0 S' (i + 1) := by
  have e0 := m_readV d h M h7 hb
  have b0 := hb.read
  generalize rdN S n (psF t n (i + 1)) = S1 at e0 b0
  have e1 := m_deepX d h M b0 hl hk
  have b1 : bdV t n S0 (uI (uI S1 57 (nI (nst H + 1))) 34 (nI ((pcs t n).2.1 (i + 1)))) (i + 1) := ⟨rfl, (b0.2.2.2.2.2.uI (by decide)).uI (by decide)⟩
  have e2 := m_hold (d + 1) h M H.length (uI (uI S1 57 (nI (nst H + 1))) 34 (nI ((pcs t n).2.1 (i + 1)))) (nI 13) ((pcs t n).2.2 i) (nI ((pcs t n).2.1 i)) b0.2.2.2.1.1 (by omega)
  refine ⟨_, ?_, b1.hoM (k := H.length) (w := nI 13) (v := (pcs t n).2.2 i) (a := nI ((pcs t n).2.1 i))⟩
  have h31 : sI S 31 = nI 1 := hb.1.2.2.2.1.trans (pNm_1 hn).1
  have h31' : sI S1 31 = nI 91 := b0.1.2.2.2.1.trans hc
  have h32 := hb.1.2.2.2.2.1
  have h33 := hb.1.2.2.2.2.2
  have hA := pcs_A t n (i + 1)
  have e4 := m_isWordNow (d + 1) h M S 7038329
  rw [wdN_V hb.1, pWd_nm hn (by decide)] at e4
  have e5 := m_isNameNow d h M S
  rw [nmN_V hb.1, hn] at e5
  rw [E_156 _ _ _ rfl]
  unfold hoM
  generalize (pcs t n).2.1 (i + 1) = z at *
  simp (disch := omega) only [q_156_0, q_156_1, q_156_4, q_156_6, q_156_9, q_156_10, q_156_13, q_156_14, q_156_16, q_156_17, q_156_18, q_156_21, q_156_24, q_156_25, q_156_28, q_156_29, q_156_32, q_156_33, q_156_36, q_156_37, q_156_38, q_156_39, q_156_42, q_156_44, q_156_47, q_156_48, q_156_51, q_156_52, q_156_54, q_156_55, q_156_56, q_156_59, q_156_62, q_156_63, q_156_66, q_156_67, q_156_70, q_156_71, q_156_74, q_156_75, q_156_76, q_156_77, q_156_80, q_156_81, q_156_84, q_156_85, q_156_86, q_156_87, q_156_90, q_156_91, q_156_94, q_156_97, q_156_100, q_156_101, q_156_104, q_156_107, q_156_110, q_156_111, q_156_112, q_156_113, q_156_114, q_156_117, q_156_120, q_156_123, q_156_124, q_156_127, q_156_129, q_156_132, q_156_133, q_156_136, q_156_137, q_156_140, q_156_143, q_156_144, q_156_147, q_156_148, q_156_149, q_156_150, q_156_153, q_156_154, q_156_157, q_156_160, q_156_163, q_156_164, q_156_167, q_156_170, q_156_171, q_156_174, q_156_175, q_156_176, q_156_179, q_156_180, q_156_181, q_156_184, q_156_185, q_156_188, q_156_190, q_156_193, q_156_194, q_156_197, q_156_198, q_156_200, q_156_201, q_156_202, q_156_205, q_156_206, q_156_209, q_156_210, q_156_213, q_156_214, q_156_217, q_156_218, q_156_219, q_156_220, q_156_221, q_156_222, q_156_223, q_156_226, q_156_227, q_156_230, q_156_231, q_156_232, q_156_233, q_156_236, q_156_237, q_156_240, q_156_241, q_156_244, q_156_245, q_156_246, q_156_247, q_156_250, q_156_251, q_156_254, q_156_255, og_11_31, og_11_32, og_11_34, og_11_33, o_is, o_ob, ofs_len11, ↓reduceIte, k_cr, k_ci, k_oR, k_oN, k_aR, k_aN, and_true, true_and, and_self, eq_self, Nat.reduceLT, Nat.reduceLeDiff, Nat.reduceEqDiff, Nat.reduceAdd, Nat.reduceMul, Bool.true_eq_false, Bool.false_eq_true, Nat.add_sub_cancel, Nat.not_lt_zero, Nat.zero_le, k_sub, k_sb1, k_r, k_n, k_ret, k_t1, k_t0, k_nr, k_nn, k_z0, k_z1, k_zb, x_okI, lit_nI, k_in, k_cl, k_lt, k_le, k_eq, k_neg, nI_add, nI_mul, k_clt, k_cgt, k_cle, k_cge, k_ceq, bI_0, k_sh8, ne_eq, Nat.add_eq_zero_iff, Nat.one_ne_zero, Nat.succ_ne_zero, and_false, false_and, not_false_eq_true, not_true_eq_false, ite_true, ite_false, if_true, if_false, sI_uI, sJ_uI, sA_uI, sL_uI, sR_uI, sQ_uI, sI_uJ, sJ_uJ, sA_uJ, sL_uJ, sR_uJ, sQ_uJ, sI_uA, sJ_uA, sA_uA, sL_uA, sR_uA, sQ_uA, sI_uL, sJ_uL, sA_uL, sL_uL, sR_uL, sQ_uL, sI_uR, sJ_uR, sA_uR, sL_uR, sR_uR, sQ_uR, sI_uQ, sJ_uQ, sA_uQ, sL_uQ, sR_uQ, sQ_uQ, h31, h31', h32, h33, e0, e1, e2, e4, e5]
theorem m_fac_no (d : Nat) (h : xH) (M : Nat) {t : Nat → Int32} {n : Nat} {S0 S : gS} {i : Nat} {A H : List aT} (h7 : n ≤ 700) (hb : bV t n S0 S i A H) (c1 : ¬ (pcs t n).1 i = nI 45) (c2 : ¬ (pcs t n).1 i = nI 40) (c3 : ¬ (pcs t n).1 i = nI 2) (c4 : ¬ (pcs t n).1 i = nI 35) (hw : pWd (pcs t n) i 7038329 = false) (hn : pNm (pcs t n) i = false) : ∃ S', xm (d + 3) 156 [.ref M] (oh 11 h M S) = some (some (.int (nI 0)), oh 11 h M S') ∧ bU (nI ((pcs t n).2.1 i)) t n S0 S' i A H := by
  have bx := hb.mark (nI ((pcs t n).2.1 i))
  have ef := m_fail (d + 1) h M S
  rw [hb.flE] at ef
  refine ⟨_, ?_, bx⟩
  have h31 := hb.1.2.2.2.1
  rw [← h31] at c1 c2 c3 c4
  have hA := pcs_A t n i
  have e4 := m_isWordNow (d + 1) h M S 7038329
  rw [wdN_V hb.1, hw] at e4
  have e5 := m_isNameNow d h M S
  rw [nmN_V hb.1, hn] at e5
  rw [E_156 _ _ _ rfl]
  generalize (pcs t n).2.1 i = z at *
  simp (disch := omega) only [q_156_0, q_156_1, q_156_4, q_156_6, q_156_9, q_156_10, q_156_13, q_156_14, q_156_16, q_156_17, q_156_18, q_156_21, q_156_24, q_156_25, q_156_28, q_156_29, q_156_32, q_156_33, q_156_36, q_156_37, q_156_38, q_156_39, q_156_42, q_156_44, q_156_47, q_156_48, q_156_51, q_156_52, q_156_54, q_156_55, q_156_56, q_156_59, q_156_62, q_156_63, q_156_66, q_156_67, q_156_70, q_156_71, q_156_74, q_156_75, q_156_76, q_156_77, q_156_80, q_156_81, q_156_84, q_156_85, q_156_86, q_156_87, q_156_90, q_156_91, q_156_94, q_156_97, q_156_100, q_156_101, q_156_104, q_156_107, q_156_110, q_156_111, q_156_112, q_156_113, q_156_114, q_156_117, q_156_120, q_156_123, q_156_124, q_156_127, q_156_129, q_156_132, q_156_133, q_156_136, q_156_137, q_156_140, q_156_143, q_156_144, q_156_147, q_156_148, q_156_149, q_156_150, q_156_153, q_156_154, q_156_157, q_156_160, q_156_163, q_156_164, q_156_167, q_156_170, q_156_171, q_156_174, q_156_175, q_156_176, q_156_179, q_156_180, q_156_181, q_156_184, q_156_185, q_156_188, q_156_190, q_156_193, q_156_194, q_156_197, q_156_198, q_156_200, q_156_201, q_156_202, q_156_205, q_156_206, q_156_209, q_156_210, q_156_213, q_156_214, q_156_217, q_156_218, q_156_219, q_156_220, q_156_221, q_156_222, q_156_223, q_156_226, q_156_227, q_156_230, q_156_231, q_156_232, q_156_233, q_156_236, q_156_237, q_156_240, q_156_241, q_156_244, q_156_245, q_156_246, q_156_247, q_156_250, q_156_251, q_156_254, q_156_255, og_11_31, og_11_32, og_11_34, og_11_33, o_is, o_ob, ofs_len11, ↓reduceIte, k_cr, k_ci, k_oR, k_oN, k_aR, k_aN, and_true, true_and, and_self, eq_self, Nat.reduceLT, Nat.reduceLeDiff, Nat.reduceEqDiff, Nat.reduceAdd, Nat.reduceMul, Bool.true_eq_false, Bool.false_eq_true, Nat.add_sub_cancel, Nat.not_lt_zero, Nat.zero_le, k_sub, k_sb1, k_r, k_n, k_ret, k_t1, k_t0, k_nr, k_nn, k_z0, k_z1, k_zb, x_okI, lit_nI, k_in, k_cl, k_lt, k_le, k_eq, k_neg, nI_add, nI_mul, k_clt, k_cgt, k_cle, k_cge, k_ceq, bI_0, k_sh8, ne_eq, Nat.add_eq_zero_iff, Nat.one_ne_zero, Nat.succ_ne_zero, and_false, false_and, not_false_eq_true, not_true_eq_false, ite_true, ite_false, if_true, if_false, sI_uI, sJ_uI, sA_uI, sL_uI, sR_uI, sQ_uI, sI_uJ, sJ_uJ, sA_uJ, sL_uJ, sR_uJ, sQ_uJ, sI_uA, sJ_uA, sA_uA, sL_uA, sR_uA, sQ_uA, sI_uL, sJ_uL, sA_uL, sL_uL, sR_uL, sQ_uL, sI_uR, sJ_uR, sA_uR, sL_uR, sR_uR, sQ_uR, sI_uQ, sJ_uQ, sA_uQ, sL_uQ, sR_uQ, sQ_uQ, c1, c2, c3, c4, ef, e4, e5]
