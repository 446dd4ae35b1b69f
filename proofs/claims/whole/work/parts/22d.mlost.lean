/-! The reference counts what is LOST; looks for two of one KEY. -/
def fst0 (eo : kE) (vw : vW) (o : Nat) : Bool := if eo.2.1 o = true then decide (vw.2.1 o = 0) else decide (vw.2.2 o 0 = 0)
def lsS (eo en : kE) (nm : Nat → Int64) (R : List rT) (w : Int64) : Bool := match en.1 w with
  | none => true
  | some m => decide (smO (eo.1 (nm m)) eo.2.1 (en.2.1 m) R (nm m) = none)
def lsB (eo en : kE) (vw : vW) (nm : Nat → Int64) (R : List rT) (w : Int64) (o : Nat) : Bool := !fst0 eo vw o && (decide (fnR 2 w R 0 = none) && (!R.any (tR w) && lsS eo en nm R w))
def lsN (eo en : kE) (vw : vW) (nm : Nat → Int64) (R : List rT) (no : Nat → Int64) : Nat → Nat → Nat
  | 0, _ => 0
  | k + 1, i => (if lsB eo en vw nm R (no i) i = true then 1 else 0) + lsN eo en vw nm R no k (i + 1)
theorem ml_loop (d : Nat) (h : xH) (M : Nat) {f t c e v : Nat} {cN mN ty : Nat → Nat} {vw : vW} {k : Option Nat} {b0 : Nat} {af : Nat → Nat} {R : List rT} {eo en : kE} {nm no : Nat → Int64} (ht : t < 8) (he : e < 6) (hb : b0 + R.length ≤ 699) : ∀ (kk i x : Nat) (S : gS) (l8 l10 l11 : Nat × Value), i + kk = mN (6 * f + c) → x + kk < 1000000 → sI S 62 = nI x → refT S cN mN ty → wkV S f c (mN (6 * f + c)) v vw → (∀ w, eo.1 w = eMs S f c (mN (6 * f + c)) w) → (∀ q, eo.2.1 q = rw_ S (8 * (6 * f + c) + q)) → (∀ w, en.1 w = eMs S t e (mN (6 * t + e)) w) → (∀ q, en.2.1 q = rw_ S (8 * (6 * t + e) + q)) → (∀ i, nm i = sL S 3 (8 * (6 * t + e) + i)) → (∀ i, no i = sL S 3 (8 * (6 * f + c) + i)) → rkO S k b0 af R → xrun (d + 2) 189 11 [(1, .ref M), (1, .int (nI f)), (1, .int (nI t)), (1, .int (nI v)), (1, .int (nI e)), (1, .int (oI k)), (1, .int (nI c)), (1, .int (nI i)), l8, (0, .null), l10, l11] [] (oh 11 h M S) = some (none, oh 11 h M (uI S 62 (nI (x + lsN eo en vw nm R no kk i))))
  | 0, i, x, S, l8, l10, l11, hi, hx, h62, hT, hV, ho1, ho2, hn1, hn2, hnm, hno, hk => by
    obtain ⟨v1, v2, v3, v4, v5, v6, v7, v8, v9⟩ := hV
    have hle : mN (6 * f + c) ≤ i := by omega
    show _ = some (none, oh 11 h M (uI S 62 (nI x)))
    rw [uI_same _ _ _ h62]
    generalize oI k = kv at *
    rw [q_189_11]
    simp (disch := omega) only [q_189_0, q_189_1, q_189_4, q_189_5, q_189_6, q_189_8, q_189_9, q_189_13, q_189_14, q_189_17, q_189_19, q_189_20, q_189_21, q_189_23, q_189_24, q_189_25, q_189_28, q_189_29, q_189_32, q_189_34, q_189_36, q_189_37, q_189_38, q_189_40, q_189_41, q_189_42, q_189_44, q_189_45, q_189_46, q_189_48, q_189_49, q_189_50, q_189_52, q_189_54, q_189_57, q_189_60, q_189_61, q_189_64, q_189_66, q_189_67, q_189_68, q_189_70, q_189_71, q_189_72, q_189_75, q_189_76, q_189_79, q_189_80, q_189_83, q_189_84, q_189_87, q_189_89, q_189_90, q_189_91, q_189_93, q_189_95, q_189_96, q_189_97, q_189_98, q_189_99, q_189_100, q_189_103, q_189_104, q_189_107, q_189_108, q_189_110, q_189_112, q_189_115, q_189_116, q_189_118, q_189_119, q_189_121, q_189_124, q_189_125, q_189_128, q_189_129, q_189_131, q_189_133, q_189_136, q_189_139, q_189_142, q_189_143, q_189_144, q_189_146, q_189_148, q_189_151, q_189_153, q_189_155, q_189_156, q_189_159, q_189_160, q_189_161, q_189_162, q_189_164, q_189_166, q_189_168, q_189_170, q_189_173, q_189_174, q_189_177, q_189_178, q_189_179, q_189_182, q_189_183, q_189_184, q_189_187, q_189_190, q_189_193, og_11_9, or_11_9, ow_11_9, og_11_2, or_11_2, ow_11_2, og_11_3, or_11_3, ow_11_3, og_11_10, or_11_10, ow_11_10, og_11_11, or_11_11, ow_11_11, og_11_62, op_11_62, o_is, o_ob, ofs_len11, ↓reduceIte, k_cr, k_ci, k_oR, k_oN, k_aR, k_aN, and_true, true_and, and_self, eq_self, Nat.reduceLT, Nat.reduceLeDiff, Nat.reduceEqDiff, Nat.reduceAdd, Nat.reduceMul, Bool.true_eq_false, Bool.false_eq_true, Nat.add_sub_cancel, Nat.not_lt_zero, Nat.zero_le, k_sub, k_sb1, k_r, k_n, k_ret, k_t1, k_t0, k_nr, k_nn, k_z0, k_z1, k_zb, x_okI, lit_nI, k_in, k_cl, k_lt, k_le, k_eq, k_neg, nI_add, nI_mul, k_clt, k_cgt, k_cle, k_cge, k_ceq, bI_0, k_sh8, ne_eq, Nat.add_eq_zero_iff, Nat.one_ne_zero, Nat.succ_ne_zero, and_false, false_and, not_false_eq_true, not_true_eq_false, ite_true, ite_false, if_true, if_false, v3, hle]
  | kk + 1, i, x, S, l8, l10, l11, hi, hx, h62, hT, hV, ho1, ho2, hn1, hn2, hnm, hno, hk => by
    have hV0 := hV
    obtain ⟨v1, v2, v3, v4, v5, v6, v7, v8, v9⟩ := hV
    have hle : ¬ mN (6 * f + c) ≤ i := by omega
    have hi8 : i < 8 := by omega
    have hnN := hT.1.2 t e ht he
    -- one turn: on with or without one more
    have fin : ∀ (b : Bool) (m8 m10 m11 : Nat × Value), lsB eo en vw nm R (no i) i = b → xrun (d + 2) 189 11 [(1, .ref M), (1, .int (nI f)), (1, .int (nI t)), (1, .int (nI v)), (1, .int (nI e)), (1, .int (oI k)), (1, .int (nI c)), (1, .int (nI i)), l8, (0, .null), l10, l11] [] (oh 11 h M S) = xrun (d + 2) 189 11 [(1, .ref M), (1, .int (nI f)), (1, .int (nI t)), (1, .int (nI v)), (1, .int (nI e)), (1, .int (oI k)), (1, .int (nI c)), (1, .int (nI (i + 1))), m8, (0, .null), m10, m11] [] (oh 11 h M (if b = true then uI S 62 (nI (x + 1)) else S)) → xrun (d + 2) 189 11 [(1, .ref M), (1, .int (nI f)), (1, .int (nI t)), (1, .int (nI v)), (1, .int (nI e)), (1, .int (oI k)), (1, .int (nI c)), (1, .int (nI i)), l8, (0, .null), l10, l11] [] (oh 11 h M S) = some (none, oh 11 h M (uI S 62 (nI (x + lsN eo en vw nm R no (kk + 1) i)))) := by
      intro b m8 m10 m11 hb2 hrun
      rw [hrun, show lsN eo en vw nm R no (kk + 1) i = (if lsB eo en vw nm R (no i) i = true then 1 else 0) + lsN eo en vw nm R no kk (i + 1) from rfl, hb2]
      cases b with
      | true =>
        have f1 : fr (fun k => decide (k = 62)) S (uI S 62 (nI (x + 1))) := fr.rfl.uI (by decide)
        have ih := ml_loop d h M (cN := cN) (ty := ty) ht he hb kk (i + 1) (x + 1) (uI S 62 (nI (x + 1))) m8 m10 m11 (by omega) (by omega) rfl (hT.fr f1 (by decide) (by decide) (by decide) (by decide)) (hV0.fr f1 (by decide) (by decide) (by decide) (by decide) (by decide)) ho1 ho2 hn1 hn2 hnm hno (hk.fr f1 (fun q h1 h2 => by
          rw [decide_eq_false_iff_not]
          omega))
        rw [if_pos rfl, if_pos rfl, ih, uI_uI, Nat.add_assoc]
      | false =>
        have ih := ml_loop d h M (cN := cN) (ty := ty) ht he hb kk (i + 1) x S m8 m10 m11 (by omega) (by omega) h62 hT hV0 ho1 ho2 hn1 hn2 hnm hno hk
        rw [if_neg (by decide), if_neg (by decide), ih, Nat.zero_add]
    have eR : xm (d + 2) 141 [.ref M, .int (nI f), .int (nI c), .int (nI i)] (oh 11 h M S) = _ := m_rowOf (d + 1) h M S f c i v1 v2 hi8 (eo.2.1 i) (by rw [ho2]; exact hT.2.1 _)
    have e10 := (v8 i hi8).1
    have e108 := (v8 i hi8).2
    have e11 := v9 i 0 hi8 (by omega)
    rw [Nat.add_zero] at e11
    have e2 : xm (d + 2) 177 [.ref M, .int (oI k), .int (nI 2), .long (no i)] (oh 11 h M S) = _ := m_ruleOf (d + 1) h M S 2 (no i) hk (by omega)
    have eT : xm (d + 2) 190 [.ref M, .int (oI k), .long (no i)] (oh 11 h M S) = _ := m_isToldIn (d + 1) h M S (no i) hk
    have eF : xm (d + 2) 133 [.ref M, .int (nI t), .int (nI e), .long (no i)] (oh 11 h M S) = _ := m_findMember (d + 1) h M S t e (mN (6 * t + e)) (no i) ht he hnN.1 hnN.2
    rw [show fnd (fun i => sL S 3 (8 * (6 * t + e) + i)) (no i) (mN (6 * t + e)) = en.1 (no i) from (hn1 _).symm] at eF
    have hno' : sL S 3 (8 * (6 * f + c) + i) = no i := (hno i).symm
    -- as far as isFirst
    have st : xrun (d + 2) 189 11 [(1, .ref M), (1, .int (nI f)), (1, .int (nI t)), (1, .int (nI v)), (1, .int (nI e)), (1, .int (oI k)), (1, .int (nI c)), (1, .int (nI i)), l8, (0, .null), l10, l11] [] (oh 11 h M S) = xrun (d + 2) 189 110 [(1, .ref M), (1, .int (nI f)), (1, .int (nI t)), (1, .int (nI v)), (1, .int (nI e)), (1, .int (oI k)), (1, .int (nI c)), (1, .int (nI i)), (2, .long (no i)), (0, .null), (1, .int (bI (fst0 eo vw i))), l11] [] (oh 11 h M S) := by
      generalize oI k = kv at *
      unfold fst0
      rw [q_189_11]
      cases hr : eo.2.1 i with
      | true =>
        rw [hr, bI_t] at eR
        rw [if_pos rfl]
        by_cases c0 : vw.2.1 i = 0
        · rw [decide_eq_true c0, bI_t]
          simp (disch := omega) only [q_189_0, q_189_1, q_189_4, q_189_5, q_189_6, q_189_8, q_189_9, q_189_13, q_189_14, q_189_17, q_189_19, q_189_20, q_189_21, q_189_23, q_189_24, q_189_25, q_189_28, q_189_29, q_189_32, q_189_34, q_189_36, q_189_37, q_189_38, q_189_40, q_189_41, q_189_42, q_189_44, q_189_45, q_189_46, q_189_48, q_189_49, q_189_50, q_189_52, q_189_54, q_189_57, q_189_60, q_189_61, q_189_64, q_189_66, q_189_67, q_189_68, q_189_70, q_189_71, q_189_72, q_189_75, q_189_76, q_189_79, q_189_80, q_189_83, q_189_84, q_189_87, q_189_89, q_189_90, q_189_91, q_189_93, q_189_95, q_189_96, q_189_97, q_189_98, q_189_99, q_189_100, q_189_103, q_189_104, q_189_107, q_189_108, og_11_9, or_11_9, ow_11_9, og_11_2, or_11_2, ow_11_2, og_11_3, or_11_3, ow_11_3, og_11_10, or_11_10, ow_11_10, og_11_11, or_11_11, ow_11_11, og_11_62, op_11_62, o_is, o_ob, ofs_len11, ↓reduceIte, k_cr, k_ci, k_oR, k_oN, k_aR, k_aN, and_true, true_and, and_self, eq_self, Nat.reduceLT, Nat.reduceLeDiff, Nat.reduceEqDiff, Nat.reduceAdd, Nat.reduceMul, Bool.true_eq_false, Bool.false_eq_true, Nat.add_sub_cancel, Nat.not_lt_zero, Nat.zero_le, k_sub, k_sb1, k_r, k_n, k_ret, k_t1, k_t0, k_nr, k_nn, k_z0, k_z1, k_zb, x_okI, lit_nI, k_in, k_cl, k_lt, k_le, k_eq, k_neg, nI_add, nI_mul, k_clt, k_cgt, k_cle, k_cge, k_ceq, bI_0, k_sh8, ne_eq, Nat.add_eq_zero_iff, Nat.one_ne_zero, Nat.succ_ne_zero, and_false, false_and, not_false_eq_true, not_true_eq_false, ite_true, ite_false, if_true, if_false, v3, hle, hno', eR, e10, c0]
        · rw [decide_eq_false c0, bI_f]
          simp (disch := omega) only [q_189_0, q_189_1, q_189_4, q_189_5, q_189_6, q_189_8, q_189_9, q_189_13, q_189_14, q_189_17, q_189_19, q_189_20, q_189_21, q_189_23, q_189_24, q_189_25, q_189_28, q_189_29, q_189_32, q_189_34, q_189_36, q_189_37, q_189_38, q_189_40, q_189_41, q_189_42, q_189_44, q_189_45, q_189_46, q_189_48, q_189_49, q_189_50, q_189_52, q_189_54, q_189_57, q_189_60, q_189_61, q_189_64, q_189_66, q_189_67, q_189_68, q_189_70, q_189_71, q_189_72, q_189_75, q_189_76, q_189_79, q_189_80, q_189_83, q_189_84, q_189_87, q_189_89, q_189_90, q_189_91, q_189_93, q_189_95, q_189_96, q_189_97, q_189_98, q_189_99, q_189_100, q_189_103, q_189_104, q_189_107, q_189_108, og_11_9, or_11_9, ow_11_9, og_11_2, or_11_2, ow_11_2, og_11_3, or_11_3, ow_11_3, og_11_10, or_11_10, ow_11_10, og_11_11, or_11_11, ow_11_11, og_11_62, op_11_62, o_is, o_ob, ofs_len11, ↓reduceIte, k_cr, k_ci, k_oR, k_oN, k_aR, k_aN, and_true, true_and, and_self, eq_self, Nat.reduceLT, Nat.reduceLeDiff, Nat.reduceEqDiff, Nat.reduceAdd, Nat.reduceMul, Bool.true_eq_false, Bool.false_eq_true, Nat.add_sub_cancel, Nat.not_lt_zero, Nat.zero_le, k_sub, k_sb1, k_r, k_n, k_ret, k_t1, k_t0, k_nr, k_nn, k_z0, k_z1, k_zb, x_okI, lit_nI, k_in, k_cl, k_lt, k_le, k_eq, k_neg, nI_add, nI_mul, k_clt, k_cgt, k_cle, k_cge, k_ceq, bI_0, k_sh8, ne_eq, Nat.add_eq_zero_iff, Nat.one_ne_zero, Nat.succ_ne_zero, and_false, false_and, not_false_eq_true, not_true_eq_false, ite_true, ite_false, if_true, if_false, v3, hle, hno', eR, e10, c0]
      | false =>
        rw [hr, bI_f] at eR
        rw [if_neg (by decide)]
        by_cases c0 : vw.2.2 i 0 = 0
        · rw [decide_eq_true c0, bI_t]
          simp (disch := omega) only [q_189_0, q_189_1, q_189_4, q_189_5, q_189_6, q_189_8, q_189_9, q_189_13, q_189_14, q_189_17, q_189_19, q_189_20, q_189_21, q_189_23, q_189_24, q_189_25, q_189_28, q_189_29, q_189_32, q_189_34, q_189_36, q_189_37, q_189_38, q_189_40, q_189_41, q_189_42, q_189_44, q_189_45, q_189_46, q_189_48, q_189_49, q_189_50, q_189_52, q_189_54, q_189_57, q_189_60, q_189_61, q_189_64, q_189_66, q_189_67, q_189_68, q_189_70, q_189_71, q_189_72, q_189_75, q_189_76, q_189_79, q_189_80, q_189_83, q_189_84, q_189_87, q_189_89, q_189_90, q_189_91, q_189_93, q_189_95, q_189_96, q_189_97, q_189_98, q_189_99, q_189_100, q_189_103, q_189_104, q_189_107, q_189_108, og_11_9, or_11_9, ow_11_9, og_11_2, or_11_2, ow_11_2, og_11_3, or_11_3, ow_11_3, og_11_10, or_11_10, ow_11_10, og_11_11, or_11_11, ow_11_11, og_11_62, op_11_62, o_is, o_ob, ofs_len11, ↓reduceIte, k_cr, k_ci, k_oR, k_oN, k_aR, k_aN, and_true, true_and, and_self, eq_self, Nat.reduceLT, Nat.reduceLeDiff, Nat.reduceEqDiff, Nat.reduceAdd, Nat.reduceMul, Bool.true_eq_false, Bool.false_eq_true, Nat.add_sub_cancel, Nat.not_lt_zero, Nat.zero_le, k_sub, k_sb1, k_r, k_n, k_ret, k_t1, k_t0, k_nr, k_nn, k_z0, k_z1, k_zb, x_okI, lit_nI, k_in, k_cl, k_lt, k_le, k_eq, k_neg, nI_add, nI_mul, k_clt, k_cgt, k_cle, k_cge, k_ceq, bI_0, k_sh8, ne_eq, Nat.add_eq_zero_iff, Nat.one_ne_zero, Nat.succ_ne_zero, and_false, false_and, not_false_eq_true, not_true_eq_false, ite_true, ite_false, if_true, if_false, v3, hle, hno', eR, e11, c0]
        · rw [decide_eq_false c0, bI_f]
          simp (disch := omega) only [q_189_0, q_189_1, q_189_4, q_189_5, q_189_6, q_189_8, q_189_9, q_189_13, q_189_14, q_189_17, q_189_19, q_189_20, q_189_21, q_189_23, q_189_24, q_189_25, q_189_28, q_189_29, q_189_32, q_189_34, q_189_36, q_189_37, q_189_38, q_189_40, q_189_41, q_189_42, q_189_44, q_189_45, q_189_46, q_189_48, q_189_49, q_189_50, q_189_52, q_189_54, q_189_57, q_189_60, q_189_61, q_189_64, q_189_66, q_189_67, q_189_68, q_189_70, q_189_71, q_189_72, q_189_75, q_189_76, q_189_79, q_189_80, q_189_83, q_189_84, q_189_87, q_189_89, q_189_90, q_189_91, q_189_93, q_189_95, q_189_96, q_189_97, q_189_98, q_189_99, q_189_100, q_189_103, q_189_104, q_189_107, q_189_108, og_11_9, or_11_9, ow_11_9, og_11_2, or_11_2, ow_11_2, og_11_3, or_11_3, ow_11_3, og_11_10, or_11_10, ow_11_10, og_11_11, or_11_11, ow_11_11, og_11_62, op_11_62, o_is, o_ob, ofs_len11, ↓reduceIte, k_cr, k_ci, k_oR, k_oN, k_aR, k_aN, and_true, true_and, and_self, eq_self, Nat.reduceLT, Nat.reduceLeDiff, Nat.reduceEqDiff, Nat.reduceAdd, Nat.reduceMul, Bool.true_eq_false, Bool.false_eq_true, Nat.add_sub_cancel, Nat.not_lt_zero, Nat.zero_le, k_sub, k_sb1, k_r, k_n, k_ret, k_t1, k_t0, k_nr, k_nn, k_z0, k_z1, k_zb, x_okI, lit_nI, k_in, k_cl, k_lt, k_le, k_eq, k_neg, nI_add, nI_mul, k_clt, k_cgt, k_cle, k_cge, k_ceq, bI_0, k_sh8, ne_eq, Nat.add_eq_zero_iff, Nat.one_ne_zero, Nat.succ_ne_zero, and_false, false_and, not_false_eq_true, not_true_eq_false, ite_true, ite_false, if_true, if_false, v3, hle, hno', eR, e11, c0]
    cases hf : fst0 eo vw i with
    | true =>
      rw [hf, bI_t] at st
      refine fin false (2, .long (no i)) (1, .int (nI 1)) l11 (by unfold lsB; rw [hf]; rfl) ?_
      rw [st, if_neg (by decide)]
      generalize oI k = kv at *
      simp (disch := omega) only [q_189_110, q_189_112, q_189_187, q_189_190, o_is, ↓reduceIte, k_cr, k_ci, k_oR, k_oN, k_aR, k_aN, and_true, true_and, and_self, eq_self, Nat.reduceLT, Nat.reduceLeDiff, Nat.reduceEqDiff, Nat.reduceAdd, Nat.reduceMul, Bool.true_eq_false, Bool.false_eq_true, Nat.add_sub_cancel, Nat.not_lt_zero, Nat.zero_le, k_sub, k_sb1, k_r, k_n, k_ret, k_t1, k_t0, k_nr, k_nn, k_z0, k_z1, k_zb, x_okI, lit_nI, k_in, k_cl, k_lt, k_le, k_eq, k_neg, nI_add, nI_mul, k_clt, k_cgt, k_cle, k_cge, k_ceq, bI_0, k_sh8, ne_eq, Nat.add_eq_zero_iff, Nat.one_ne_zero, Nat.succ_ne_zero, and_false, false_and, not_false_eq_true, not_true_eq_false, ite_true, ite_false, if_true, if_false]
    | false =>
      rw [hf, bI_f] at st
      have hb2 := fnR_b 2 (no i) R b0 0
      cases h2 : fnR 2 (no i) R b0 with
      | some z =>
        have hz := fnR_lt 2 (no i) R b0 z h2
        rw [h2] at e2
        have n2 : ¬ nI z = -nI 1 := by
          rw [k_neg (by omega)]
          exact fun q => q
        have e2 : xm (d + 2) 177 [.ref M, .int (oI k), .int (nI 2), .long (no i)] (oh 11 h M S) = some (some (.int (nI z)), oh 11 h M S) := e2
        refine fin false (2, .long (no i)) (1, .int (nI 0)) l11 (by
          unfold lsB
          rw [decide_eq_false (fun q => by
            have := hb2.mpr q
            rw [h2] at this
            cases this), Bool.false_and, Bool.and_false]) ?_
        rw [st, if_neg (by decide)]
        generalize oI k = kv at *
        simp (disch := omega) only [q_189_110, q_189_112, q_189_115, q_189_116, q_189_118, q_189_119, q_189_121, q_189_124, q_189_125, q_189_187, q_189_190, o_is, ↓reduceIte, k_cr, k_ci, k_oR, k_oN, k_aR, k_aN, and_true, true_and, and_self, eq_self, Nat.reduceLT, Nat.reduceLeDiff, Nat.reduceEqDiff, Nat.reduceAdd, Nat.reduceMul, Bool.true_eq_false, Bool.false_eq_true, Nat.add_sub_cancel, Nat.not_lt_zero, Nat.zero_le, k_sub, k_sb1, k_r, k_n, k_ret, k_t1, k_t0, k_nr, k_nn, k_z0, k_z1, k_zb, x_okI, lit_nI, k_in, k_cl, k_lt, k_le, k_eq, k_neg, nI_add, nI_mul, k_clt, k_cgt, k_cle, k_cge, k_ceq, bI_0, k_sh8, ne_eq, Nat.add_eq_zero_iff, Nat.one_ne_zero, Nat.succ_ne_zero, and_false, false_and, not_false_eq_true, not_true_eq_false, ite_true, ite_false, if_true, if_false, e2, n2]
      | none =>
        rw [h2] at e2
        have e2 : xm (d + 2) 177 [.ref M, .int (oI k), .int (nI 2), .long (no i)] (oh 11 h M S) = some (some (.int (-nI 1)), oh 11 h M S) := e2
        have l2 : lsB eo en vw nm R (no i) i = (!R.any (tR (no i)) && lsS eo en nm R (no i)) := by
          unfold lsB
          rw [hf, decide_eq_true (hb2.mp h2)]
          rfl
        cases hA : R.any (tR (no i)) with
        | true =>
          rw [hA, bI_t] at eT
          refine fin false (2, .long (no i)) (1, .int (nI 0)) l11 (by rw [l2, hA]; rfl) ?_
          rw [st, if_neg (by decide)]
          generalize oI k = kv at *
          simp (disch := omega) only [q_189_110, q_189_112, q_189_115, q_189_116, q_189_118, q_189_119, q_189_121, q_189_124, q_189_125, q_189_128, q_189_129, q_189_131, q_189_133, q_189_136, q_189_139, q_189_142, q_189_143, q_189_144, q_189_146, q_189_148, q_189_151, q_189_153, q_189_155, q_189_156, q_189_159, q_189_160, q_189_161, q_189_162, q_189_164, q_189_166, q_189_168, q_189_170, q_189_173, q_189_174, q_189_177, q_189_178, q_189_179, q_189_182, q_189_183, q_189_184, q_189_187, q_189_190, q_189_193, og_11_9, or_11_9, ow_11_9, og_11_2, or_11_2, ow_11_2, og_11_3, or_11_3, ow_11_3, og_11_10, or_11_10, ow_11_10, og_11_11, or_11_11, ow_11_11, og_11_62, op_11_62, o_is, o_ob, ofs_len11, ↓reduceIte, k_cr, k_ci, k_oR, k_oN, k_aR, k_aN, and_true, true_and, and_self, eq_self, Nat.reduceLT, Nat.reduceLeDiff, Nat.reduceEqDiff, Nat.reduceAdd, Nat.reduceMul, Bool.true_eq_false, Bool.false_eq_true, Nat.add_sub_cancel, Nat.not_lt_zero, Nat.zero_le, k_sub, k_sb1, k_r, k_n, k_ret, k_t1, k_t0, k_nr, k_nn, k_z0, k_z1, k_zb, x_okI, lit_nI, k_in, k_cl, k_lt, k_le, k_eq, k_neg, nI_add, nI_mul, k_clt, k_cgt, k_cle, k_cge, k_ceq, bI_0, k_sh8, ne_eq, Nat.add_eq_zero_iff, Nat.one_ne_zero, Nat.succ_ne_zero, and_false, false_and, not_false_eq_true, not_true_eq_false, ite_true, ite_false, if_true, if_false, e2, eT]
        | false =>
          rw [hA, bI_f] at eT
          rw [hA] at l2
          have l2 : lsB eo en vw nm R (no i) i = lsS eo en nm R (no i) := l2
          cases hm : en.1 (no i) with
          | none =>
            rw [hm] at eF
            have eF : xm (d + 2) 133 [.ref M, .int (nI t), .int (nI e), .long (no i)] (oh 11 h M S) = some (some (.int (-nI 1)), oh 11 h M S) := eF
            refine fin true (2, .long (no i)) (1, .int (nI 0)) (1, .int (-nI 1)) (by rw [l2]; unfold lsS; rw [hm]) ?_
            rw [st, if_pos rfl]
            generalize oI k = kv at *
            simp (disch := omega) only [q_189_110, q_189_112, q_189_115, q_189_116, q_189_118, q_189_119, q_189_121, q_189_124, q_189_125, q_189_128, q_189_129, q_189_131, q_189_133, q_189_136, q_189_139, q_189_142, q_189_143, q_189_144, q_189_146, q_189_148, q_189_151, q_189_153, q_189_155, q_189_156, q_189_159, q_189_160, q_189_161, q_189_162, q_189_164, q_189_166, q_189_168, q_189_170, q_189_173, q_189_174, q_189_177, q_189_178, q_189_179, q_189_182, q_189_183, q_189_184, q_189_187, q_189_190, q_189_193, og_11_9, or_11_9, ow_11_9, og_11_2, or_11_2, ow_11_2, og_11_3, or_11_3, ow_11_3, og_11_10, or_11_10, ow_11_10, og_11_11, or_11_11, ow_11_11, og_11_62, op_11_62, o_is, o_ob, ofs_len11, ↓reduceIte, k_cr, k_ci, k_oR, k_oN, k_aR, k_aN, and_true, true_and, and_self, eq_self, Nat.reduceLT, Nat.reduceLeDiff, Nat.reduceEqDiff, Nat.reduceAdd, Nat.reduceMul, Bool.true_eq_false, Bool.false_eq_true, Nat.add_sub_cancel, Nat.not_lt_zero, Nat.zero_le, k_sub, k_sb1, k_r, k_n, k_ret, k_t1, k_t0, k_nr, k_nn, k_z0, k_z1, k_zb, x_okI, lit_nI, k_in, k_cl, k_lt, k_le, k_eq, k_neg, nI_add, nI_mul, k_clt, k_cgt, k_cle, k_cge, k_ceq, bI_0, k_sh8, ne_eq, Nat.add_eq_zero_iff, Nat.one_ne_zero, Nat.succ_ne_zero, and_false, false_and, not_false_eq_true, not_true_eq_false, ite_true, ite_false, if_true, if_false, e2, eT, eF, h62]
          | some m =>
            have hm8 : m < mN (6 * t + e) := by
              rw [hn1] at hm
              exact (fnd_lt (f := fun i => sL S 3 (8 * (6 * t + e) + i)) hm).1
            have h8N := hnN.2
            rw [hm] at eF
            have eF : xm (d + 2) 133 [.ref M, .int (nI t), .int (nI e), .long (no i)] (oh 11 h M S) = some (some (.int (nI m)), oh 11 h M S) := eF
            have nm1 : ¬ nI m = -nI 1 := by
              rw [k_neg (by omega)]
              exact fun q => q
            have eS := m_sameOf d h M S (ro := eo.2.1) (rn := en.2.1 m) v1 ht v2 he (show m < 8 by omega) v3 v4 (fun q hq => by rw [ho2]; exact hT.2.1 _) (by rw [hn2]; exact hT.2.1 _) hk hb
            rw [← hnm m, ← ho1] at eS
            have l3 : lsS eo en nm R (no i) = decide (smO (eo.1 (nm m)) eo.2.1 (en.2.1 m) R (nm m) = none) := by
              unfold lsS
              rw [hm]
            cases hs : smO (eo.1 (nm m)) eo.2.1 (en.2.1 m) R (nm m) with
            | none =>
              rw [hs] at eS
              have eS : xm (d + 2) 188 [.ref M, .int (nI f), .int (nI t), .int (nI c), .int (nI e), .int (nI m), .int (oI k)] (oh 11 h M S) = some (some (.int (-nI 1)), oh 11 h M S) := eS
              refine fin true (2, .long (no i)) (1, .int (nI 0)) (1, .int (nI m)) (by rw [l2, l3, hs]; rfl) ?_
              rw [st, if_pos rfl]
              generalize oI k = kv at *
              simp (disch := omega) only [q_189_110, q_189_112, q_189_115, q_189_116, q_189_118, q_189_119, q_189_121, q_189_124, q_189_125, q_189_128, q_189_129, q_189_131, q_189_133, q_189_136, q_189_139, q_189_142, q_189_143, q_189_144, q_189_146, q_189_148, q_189_151, q_189_153, q_189_155, q_189_156, q_189_159, q_189_160, q_189_161, q_189_162, q_189_164, q_189_166, q_189_168, q_189_170, q_189_173, q_189_174, q_189_177, q_189_178, q_189_179, q_189_182, q_189_183, q_189_184, q_189_187, q_189_190, q_189_193, og_11_9, or_11_9, ow_11_9, og_11_2, or_11_2, ow_11_2, og_11_3, or_11_3, ow_11_3, og_11_10, or_11_10, ow_11_10, og_11_11, or_11_11, ow_11_11, og_11_62, op_11_62, o_is, o_ob, ofs_len11, ↓reduceIte, k_cr, k_ci, k_oR, k_oN, k_aR, k_aN, and_true, true_and, and_self, eq_self, Nat.reduceLT, Nat.reduceLeDiff, Nat.reduceEqDiff, Nat.reduceAdd, Nat.reduceMul, Bool.true_eq_false, Bool.false_eq_true, Nat.add_sub_cancel, Nat.not_lt_zero, Nat.zero_le, k_sub, k_sb1, k_r, k_n, k_ret, k_t1, k_t0, k_nr, k_nn, k_z0, k_z1, k_zb, x_okI, lit_nI, k_in, k_cl, k_lt, k_le, k_eq, k_neg, nI_add, nI_mul, k_clt, k_cgt, k_cle, k_cge, k_ceq, bI_0, k_sh8, ne_eq, Nat.add_eq_zero_iff, Nat.one_ne_zero, Nat.succ_ne_zero, and_false, false_and, not_false_eq_true, not_true_eq_false, ite_true, ite_false, if_true, if_false, e2, eT, eF, nm1, eS, h62]
            | some z =>
              have hz8 : z < 8 := by
                have := smO_q hs
                rw [ho1] at this
                have := (fnd_lt (f := fun i => sL S 3 (8 * (6 * f + c) + i)) this).1
                omega
              have nz : ¬ nI z = -nI 1 := by
                rw [k_neg (by omega)]
                exact fun q => q
              rw [hs] at eS
              have eS : xm (d + 2) 188 [.ref M, .int (nI f), .int (nI t), .int (nI c), .int (nI e), .int (nI m), .int (oI k)] (oh 11 h M S) = some (some (.int (nI z)), oh 11 h M S) := eS
              refine fin false (2, .long (no i)) (1, .int (nI 0)) (1, .int (nI m)) (by rw [l2, l3, hs]; rfl) ?_
              rw [st, if_neg (by decide)]
              generalize oI k = kv at *
              simp (disch := omega) only [q_189_110, q_189_112, q_189_115, q_189_116, q_189_118, q_189_119, q_189_121, q_189_124, q_189_125, q_189_128, q_189_129, q_189_131, q_189_133, q_189_136, q_189_139, q_189_142, q_189_143, q_189_144, q_189_146, q_189_148, q_189_151, q_189_153, q_189_155, q_189_156, q_189_159, q_189_160, q_189_161, q_189_162, q_189_164, q_189_166, q_189_168, q_189_170, q_189_173, q_189_174, q_189_177, q_189_178, q_189_179, q_189_182, q_189_183, q_189_184, q_189_187, q_189_190, q_189_193, og_11_9, or_11_9, ow_11_9, og_11_2, or_11_2, ow_11_2, og_11_3, or_11_3, ow_11_3, og_11_10, or_11_10, ow_11_10, og_11_11, or_11_11, ow_11_11, og_11_62, op_11_62, o_is, o_ob, ofs_len11, ↓reduceIte, k_cr, k_ci, k_oR, k_oN, k_aR, k_aN, and_true, true_and, and_self, eq_self, Nat.reduceLT, Nat.reduceLeDiff, Nat.reduceEqDiff, Nat.reduceAdd, Nat.reduceMul, Bool.true_eq_false, Bool.false_eq_true, Nat.add_sub_cancel, Nat.not_lt_zero, Nat.zero_le, k_sub, k_sb1, k_r, k_n, k_ret, k_t1, k_t0, k_nr, k_nn, k_z0, k_z1, k_zb, x_okI, lit_nI, k_in, k_cl, k_lt, k_le, k_eq, k_neg, nI_add, nI_mul, k_clt, k_cgt, k_cle, k_cge, k_ceq, bI_0, k_sh8, ne_eq, Nat.add_eq_zero_iff, Nat.one_ne_zero, Nat.succ_ne_zero, and_false, false_and, not_false_eq_true, not_true_eq_false, ite_true, ite_false, if_true, if_false, e2, eT, eF, nm1, eS, nz]
theorem m_countLost (d : Nat) (h : xH) (M : Nat) (S : gS) {f t c e v x : Nat} {cN mN ty : Nat → Nat} {vw : vW} {k : Option Nat} {b0 : Nat} {af : Nat → Nat} {R : List rT} (ht : t < 8) (he : e < 6) (hb : b0 + R.length ≤ 699) (hx : x < 500000) (h62 : sI S 62 = nI x) (hT : refT S cN mN ty) (hV : wkV S f c (mN (6 * f + c)) v vw) (hk : rkO S k b0 af R) : xm (d + 3) 189 [.ref M, .int (nI f), .int (nI t), .int (nI v), .int (nI e), .int (oI k)] (oh 11 h M S) = some (none, oh 11 h M (uI S 62 (nI (x + lsN (eK S mN f c) (eK S mN t e) vw (fun i => sL S 3 (8 * (6 * t + e) + i)) R (fun i => sL S 3 (8 * (6 * f + c) + i)) (mN (6 * f + c)) 0)))) := by
  have h8 := hV.2.2.2.1
  have h6 := hV.2.2.2.2.2.1
  have h5 := hV.2.2.2.2.1
  have e1 := ml_loop d h M (cN := cN) (ty := ty) (eo := eK S mN f c) (en := eK S mN t e) (nm := fun i => sL S 3 (8 * (6 * t + e) + i)) (no := fun i => sL S 3 (8 * (6 * f + c) + i)) ht he hb (mN (6 * f + c)) 0 x S (0, .null) (0, .null) (0, .null) (by omega) (by omega) h62 hT hV (fun _ => rfl) (fun _ => rfl) (fun _ => rfl) (fun _ => rfl) (fun _ => rfl) (fun _ => rfl) hk
  have eE : xm (d + 3) 189 [.ref M, .int (nI f), .int (nI t), .int (nI v), .int (nI e), .int (oI k)] (oh 11 h M S) = _ := E_189 (d + 2) (oh 11 h M S) (.ref M) (nI f) (nI t) (nI v) (nI e) (oI k) rfl
  rw [← e1, eE]
  generalize oI k = kv at *
  simp (disch := omega) only [q_189_0, q_189_1, q_189_4, q_189_5, q_189_6, q_189_8, q_189_9, og_11_9, or_11_9, o_is, ↓reduceIte, k_cr, k_ci, k_oR, k_oN, k_aR, k_aN, and_true, true_and, and_self, eq_self, Nat.reduceLT, Nat.reduceLeDiff, Nat.reduceEqDiff, Nat.reduceAdd, Nat.reduceMul, Bool.true_eq_false, Bool.false_eq_true, Nat.add_sub_cancel, Nat.not_lt_zero, Nat.zero_le, k_sub, k_sb1, k_r, k_n, k_ret, k_t1, k_t0, k_nr, k_nn, k_z0, k_z1, k_zb, x_okI, lit_nI, k_in, k_cl, k_lt, k_le, k_eq, k_neg, nI_add, nI_mul, k_clt, k_cgt, k_cle, k_cge, k_ceq, bI_0, k_sh8, ne_eq, Nat.add_eq_zero_iff, Nat.one_ne_zero, Nat.succ_ne_zero, and_false, false_and, not_false_eq_true, not_true_eq_false, ite_true, ite_false, if_true, if_false, h6]
