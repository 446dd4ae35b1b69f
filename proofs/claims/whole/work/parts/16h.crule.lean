/-! The class: readRule. -/
def rcR (D Q P κ A : Nat) (S0 : gS) (eo en : kE) (nN N i z : Nat) (C : List cT) (S : gS) (tg : Int32) (ms : mS) (h : xH) : Nat ⊕ (Nat × rT) → Prop
  | .inl q => q ≤ N ∧ ∃ S' T', xm D 56 [.ref Q] (oh 4 h Q S) = some (none, oh 4 (oh 3 h A T') Q S') ∧ cX P κ A S0 S' q
  | .inr (j, r) => i + 3 + r.2.2.2.2.2.length ≤ j ∧ j ≤ N ∧ ∃ S' T', xm D 56 [.ref Q] (oh 4 h Q S) = some (none, oh 4 (oh 3 h A T') Q S') ∧ cV P κ A S0 S' j (mnF (cruB eo en nN ms r) z) (C ++ ruCod eo r) ∧ msT T' tg (ruStep eo en C.length ms r)
theorem r_138 {D Q : Nat} {h : xH} {S S' : gS} {h' : xH} {u1 : Int32} {u2 : Nat × Value} (e : xm D 52 [.ref Q, .int (nI 59)] (oh 4 h Q S) = some (none, h')) : xrun D 56 138 [(1, .ref Q), (1, .int u1), u2] [] (oh 4 h Q S) = some (none, h') := by
  simp (disch := omega) only [q_56_138, q_56_139, q_56_141, q_56_144, og_4_13, op_4_13, og_4_11, og_4_9, og_4_10, og_4_14, op_4_14, o_is, o_ob, ofs_len4, ↓reduceIte, k_cr, k_ci, k_oR, k_oN, k_aR, k_aN, and_true, true_and, and_self, eq_self, Nat.reduceLT, Nat.reduceLeDiff, Nat.reduceEqDiff, Nat.reduceAdd, Nat.reduceMul, Bool.true_eq_false, Bool.false_eq_true, Nat.add_sub_cancel, Nat.not_lt_zero, Nat.zero_le, k_sub, k_sb1, k_r, k_n, k_ret, k_t1, k_t0, k_nr, k_nn, k_z0, k_z1, k_zb, x_okI, lit_nI, k_in, k_cl, k_lt, k_le, k_eq, k_neg, nI_add, nI_mul, k_clt, k_cgt, k_cle, k_cge, k_ceq, bI_0, k_sh8, ne_eq, Nat.add_eq_zero_iff, Nat.one_ne_zero, Nat.succ_ne_zero, and_false, false_and, not_false_eq_true, not_true_eq_false, ite_true, ite_false, if_true, if_false, e]
theorem k_rule (d : Nat) {Q P κ A κN : Nat} {SP SK SN T : gS} {nO nN N : Nat} {p : pP} {h : xH} {S0 S : gS} {i z : Nat} {C : List cT} {tg : Int32} {ms : mS} (hs : cS2 Q P κ A κN SP SK SN nO nN N p) (hu : ∀ i, ¬ p.1 i = nI 0 → p.2.1 i < p.2.1 (i + 1)) (hh : cH2 P κ A κN SP SK SN T h) (hv : cV P κ A S0 S i z C) (h10 : sR S0 10 = .ref κN) (h3 : sI SP 3 = nI (N + 1)) (hm : msT T tg ms) (hl : C.length ≤ i) (hi : i ≤ N) : rcR (d + 67) Q P κ A S0 (eC SK nO) (eC SN nN) nN N i z C S tg ms h (ruF p i) := by
  have hN := hs.1.2.2.2.2.2.2.2.1
  have hN7 := hN.1
  have h7 := hs.1.2.2.2.2.2.2.2.2.2
  have hkp := hs.1.2.2.2.2.2.2.2.2.1 i
  obtain ⟨r0, r9, r11⟩ := hv.r
  have r10 : sR S 10 = .ref κN := (hv.2.2.2.2.2.2.2.2 10 (by decide)).2.2.2.2.1.trans h10
  have h13 := hv.2.2.2.1
  have eK : xm (d + 66) 47 [.ref Q] (oh 4 h Q S) = _ := k_kind (d + 65) hs.1 hh.1 r0 h13 hi
  have iK := k_isK hs.1 hh.1
  have iA := k_isA hs.1 hh.1
  have iN := n_isN hs hh
  have e0 : xm (d + 67) 56 [.ref Q] (oh 4 h Q S) = _ := E_56 (d + 66) (oh 4 h Q S) (.ref Q) rfl
  have wd1 : ∀ i w, pWd p i w = true → p.1 i = nI 1 := by
    intro i w q
    unfold pWd at q
    rw [Bool.and_eq_true, decide_eq_true_eq] at q
    exact q.1
  unfold ruF
  by_cases cd : pWd p i 1685221232 = true
  · rw [if_pos cd]
    have hj := hN.ltc hi (wd1 _ _ cd) (by decide)
    rw [(cK_wd hkp (Or.inr (Or.inr (Or.inl ⟨rfl, rfl⟩)))).mpr cd] at eK
    have v1 := hv.at (i + 1)
    have hpl := h7 (i + 1)
    have q11 := v1.r.2.2
    have q9 := v1.r.2.1
    have eW : xm (d + 66) 49 [.ref Q] (oh 4 h Q (uI S 13 (nI (i + 1)))) = _ := k_word (d + 65) hs.1 hh.1 v1.r.1 v1.2.2.2.1 hj
    have eF : xm (d + 66) 19 [.ref κ, .long (p.2.2 (i + 1))] (oh 4 h Q (uI S 13 (nI (i + 1)))) = _ := k_find (d + 65) (Q := Q) (S := uI S 13 (nI (i + 1))) (w := p.2.2 (i + 1)) hs.1 hh.1
    -- the drop, as far as take(NAME)
    have st : ∃ S1 T1, cV P κ A S0 S1 (i + 1) (mnF (drBad ms (p.2.1 (i + 1)) ((eC SK nO).1 (p.2.2 (i + 1)))) z) C ∧ msT T1 tg (drMs ms ((eC SK nO).1 (p.2.2 (i + 1)))) ∧ ∀ h' , xm (d + 66) 52 [.ref Q, .int (nI 2)] (oh 4 (oh 3 h A T1) Q S1) = some (none, h') → xm (d + 67) 56 [.ref Q] (oh 4 h Q S) = xrun (d + 66) 56 138 [(1, .ref Q), (1, .int (nI 6)), (0, .null)] [] h' := by
      have eP : xm (d + 66) 50 [.ref Q] (oh 4 h Q (uI S 13 (nI (i + 1)))) = _ := k_place (d + 65) hs.1 hh.1 v1.r.1 v1.2.2.2.1 hj
      have eN := fun h => (k_note (Q := Q) (h := h) (S := uI S 13 (nI (i + 1))) (d + 65) v1.2.2.2.2.2.1 v1.2.2.2.2.2.2.1 (show p.2.1 (i + 1) ≤ 701 by omega) : xm (d + 66) 51 [.ref Q, .int (nI (p.2.1 (i + 1)))] (oh 4 h Q (uI S 13 (nI (i + 1)))) = _)
      have v2 := v1.no (p.2.1 (i + 1))
      cases hf : (eC SK nO).1 (p.2.2 (i + 1)) with
      | none =>
        rw [hf] at eF
        have HA := hh.1.2.2.frame (S := uI S 13 (nI (i + 1))) hs.1.2.2.1
        have eD : xm (d + 66) 57 [.ref A, .int (-nI 1)] (oh 4 h Q (uI S 13 (nI (i + 1)))) = _ := c_drop_n (d + 65) (oh 4 h Q (uI S 13 (nI (i + 1)))) A (-nI 1) T HA (by decide)
        refine ⟨_, T, v2, hm, fun h' eT => ?_⟩
        rw [hh.1.same] at eT
        rw [e0]
        simp (disch := omega) only [q_56_0, q_56_1, q_56_4, q_56_5, q_56_6, q_56_8, q_56_11, q_56_12, q_56_13, q_56_16, q_56_17, q_56_18, q_56_21, q_56_22, q_56_25, q_56_26, q_56_29, q_56_30, q_56_33, q_56_36, q_56_39, q_56_42, q_56_43, q_56_44, q_56_47, q_56_50, q_56_51, q_56_52, q_56_55, q_56_58, q_56_59, q_56_60, q_56_63, q_56_64, q_56_65, q_56_68, q_56_69, q_56_70, q_56_73, q_56_75, q_56_78, q_56_79, q_56_82, q_56_83, q_56_86, q_56_89, q_56_90, q_56_91, q_56_94, q_56_95, q_56_98, q_56_101, q_56_102, q_56_103, q_56_106, q_56_109, q_56_110, q_56_111, q_56_114, q_56_115, q_56_116, q_56_119, q_56_120, q_56_122, q_56_125, q_56_126, q_56_127, q_56_130, q_56_133, q_56_134, q_56_135, og_4_13, op_4_13, og_4_11, og_4_9, og_4_10, og_4_14, op_4_14, o_is, o_ob, ofs_len4, ↓reduceIte, k_cr, k_ci, k_oR, k_oN, k_aR, k_aN, and_true, true_and, and_self, eq_self, Nat.reduceLT, Nat.reduceLeDiff, Nat.reduceEqDiff, Nat.reduceAdd, Nat.reduceMul, Bool.true_eq_false, Bool.false_eq_true, Nat.add_sub_cancel, Nat.not_lt_zero, Nat.zero_le, k_sub, k_sb1, k_r, k_n, k_ret, k_t1, k_t0, k_nr, k_nn, k_z0, k_z1, k_zb, x_okI, lit_nI, k_in, k_cl, k_lt, k_le, k_eq, k_neg, nI_add, nI_mul, k_clt, k_cgt, k_cle, k_cge, k_ceq, bI_0, k_sh8, ne_eq, Nat.add_eq_zero_iff, Nat.one_ne_zero, Nat.succ_ne_zero, and_false, false_and, not_false_eq_true, not_true_eq_false, ite_true, ite_false, if_true, if_false, iK, iA, iN, sI_uI, sJ_uI, sA_uI, sL_uI, sR_uI, sQ_uI, sI_uJ, sJ_uJ, sA_uJ, sL_uJ, sR_uJ, sQ_uJ, sI_uA, sJ_uA, sA_uA, sL_uA, sR_uA, sQ_uA, sI_uL, sJ_uL, sA_uL, sL_uL, sR_uL, sQ_uL, sI_uR, sJ_uR, sA_uR, sL_uR, sR_uR, sQ_uR, sI_uQ, sJ_uQ, sA_uQ, sL_uQ, sR_uQ, sQ_uQ, oI, r9, r11, q9, q11, h13, eK, eW, eF, eD, eP, eN, eT]
      | some m =>
        obtain ⟨m1, m2⟩ := eC_lt hs.1 hf
        rw [hf] at eF
        obtain ⟨T1, eD, hm1⟩ := n_drop (d + 65) (Q := Q) (S := uI S 13 (nI (i + 1))) hs hh hm m2
        have eD : xm (d + 66) 57 [.ref A, .int (nI m)] (oh 4 h Q (uI S 13 (nI (i + 1)))) = _ := eD
        have hh1 := hh.mv hs T1
        have eP : xm (d + 66) 50 [.ref Q] (oh 4 (oh 3 h A T1) Q (uI S 13 (nI (i + 1)))) = _ := k_place (d + 65) hs.1 hh1.1 v1.r.1 v1.2.2.2.1 hj
        have eN := eN (oh 3 h A T1)
        rw [show drBad ms (p.2.1 (i + 1)) (some m) = (if ms.2.2.2.2.1 m = true then [p.2.1 (i + 1)] else []) from rfl, show drMs ms (some m) = (if ms.2.2.2.2.1 m = true then ms else msDrop ms m) from rfl]
        cases hdr : ms.2.2.2.2.1 m with
        | true =>
          rw [hdr] at eD hm1
          rw [if_pos rfl]
          refine ⟨_, T1, v2, hm1, fun h' eT => ?_⟩
          rw [e0]
          simp (disch := omega) only [q_56_0, q_56_1, q_56_4, q_56_5, q_56_6, q_56_8, q_56_11, q_56_12, q_56_13, q_56_16, q_56_17, q_56_18, q_56_21, q_56_22, q_56_25, q_56_26, q_56_29, q_56_30, q_56_33, q_56_36, q_56_39, q_56_42, q_56_43, q_56_44, q_56_47, q_56_50, q_56_51, q_56_52, q_56_55, q_56_58, q_56_59, q_56_60, q_56_63, q_56_64, q_56_65, q_56_68, q_56_69, q_56_70, q_56_73, q_56_75, q_56_78, q_56_79, q_56_82, q_56_83, q_56_86, q_56_89, q_56_90, q_56_91, q_56_94, q_56_95, q_56_98, q_56_101, q_56_102, q_56_103, q_56_106, q_56_109, q_56_110, q_56_111, q_56_114, q_56_115, q_56_116, q_56_119, q_56_120, q_56_122, q_56_125, q_56_126, q_56_127, q_56_130, q_56_133, q_56_134, q_56_135, og_4_13, op_4_13, og_4_11, og_4_9, og_4_10, og_4_14, op_4_14, o_is, o_ob, ofs_len4, ↓reduceIte, k_cr, k_ci, k_oR, k_oN, k_aR, k_aN, and_true, true_and, and_self, eq_self, Nat.reduceLT, Nat.reduceLeDiff, Nat.reduceEqDiff, Nat.reduceAdd, Nat.reduceMul, Bool.true_eq_false, Bool.false_eq_true, Nat.add_sub_cancel, Nat.not_lt_zero, Nat.zero_le, k_sub, k_sb1, k_r, k_n, k_ret, k_t1, k_t0, k_nr, k_nn, k_z0, k_z1, k_zb, x_okI, lit_nI, k_in, k_cl, k_lt, k_le, k_eq, k_neg, nI_add, nI_mul, k_clt, k_cgt, k_cle, k_cge, k_ceq, bI_0, k_sh8, ne_eq, Nat.add_eq_zero_iff, Nat.one_ne_zero, Nat.succ_ne_zero, and_false, false_and, not_false_eq_true, not_true_eq_false, ite_true, ite_false, if_true, if_false, iK, iA, iN, sI_uI, sJ_uI, sA_uI, sL_uI, sR_uI, sQ_uI, sI_uJ, sJ_uJ, sA_uJ, sL_uJ, sR_uJ, sQ_uJ, sI_uA, sJ_uA, sA_uA, sL_uA, sR_uA, sQ_uA, sI_uL, sJ_uL, sA_uL, sL_uL, sR_uL, sQ_uL, sI_uR, sJ_uR, sA_uR, sL_uR, sR_uR, sQ_uR, sI_uQ, sJ_uQ, sA_uQ, sL_uQ, sR_uQ, sQ_uQ, oI, bI_f, bI_t, Bool.not_true, Bool.not_false, r9, r11, q9, q11, h13, eK, eW, eF, eD, eP, eN, eT]
        | false =>
          rw [hdr] at eD hm1
          rw [if_neg (by decide)]
          refine ⟨_, T1, v1, hm1, fun h' eT => ?_⟩
          rw [e0]
          simp (disch := omega) only [q_56_0, q_56_1, q_56_4, q_56_5, q_56_6, q_56_8, q_56_11, q_56_12, q_56_13, q_56_16, q_56_17, q_56_18, q_56_21, q_56_22, q_56_25, q_56_26, q_56_29, q_56_30, q_56_33, q_56_36, q_56_39, q_56_42, q_56_43, q_56_44, q_56_47, q_56_50, q_56_51, q_56_52, q_56_55, q_56_58, q_56_59, q_56_60, q_56_63, q_56_64, q_56_65, q_56_68, q_56_69, q_56_70, q_56_73, q_56_75, q_56_78, q_56_79, q_56_82, q_56_83, q_56_86, q_56_89, q_56_90, q_56_91, q_56_94, q_56_95, q_56_98, q_56_101, q_56_102, q_56_103, q_56_106, q_56_109, q_56_110, q_56_111, q_56_114, q_56_115, q_56_116, q_56_119, q_56_120, q_56_122, q_56_125, q_56_126, q_56_127, q_56_130, q_56_133, q_56_134, q_56_135, og_4_13, op_4_13, og_4_11, og_4_9, og_4_10, og_4_14, op_4_14, o_is, o_ob, ofs_len4, ↓reduceIte, k_cr, k_ci, k_oR, k_oN, k_aR, k_aN, and_true, true_and, and_self, eq_self, Nat.reduceLT, Nat.reduceLeDiff, Nat.reduceEqDiff, Nat.reduceAdd, Nat.reduceMul, Bool.true_eq_false, Bool.false_eq_true, Nat.add_sub_cancel, Nat.not_lt_zero, Nat.zero_le, k_sub, k_sb1, k_r, k_n, k_ret, k_t1, k_t0, k_nr, k_nn, k_z0, k_z1, k_zb, x_okI, lit_nI, k_in, k_cl, k_lt, k_le, k_eq, k_neg, nI_add, nI_mul, k_clt, k_cgt, k_cle, k_cge, k_ceq, bI_0, k_sh8, ne_eq, Nat.add_eq_zero_iff, Nat.one_ne_zero, Nat.succ_ne_zero, and_false, false_and, not_false_eq_true, not_true_eq_false, ite_true, ite_false, if_true, if_false, iK, iA, iN, sI_uI, sJ_uI, sA_uI, sL_uI, sR_uI, sQ_uI, sI_uJ, sJ_uJ, sA_uJ, sL_uJ, sR_uJ, sQ_uJ, sI_uA, sJ_uA, sA_uA, sL_uA, sR_uA, sQ_uA, sI_uL, sJ_uL, sA_uL, sL_uL, sR_uL, sQ_uL, sI_uR, sJ_uR, sA_uR, sL_uR, sR_uR, sQ_uR, sI_uQ, sJ_uQ, sA_uQ, sL_uQ, sR_uQ, sQ_uQ, oI, bI_f, bI_t, Bool.not_true, Bool.not_false, r9, r11, q9, q11, h13, eK, eW, eF, eD, eT]
    obtain ⟨S1, T1, v2, hm1, go⟩ := st
    have hh1 := hh.mv hs T1
    by_cases cn : pNm p (i + 1) = true
    · rw [if_pos cn]
      have hj2 := hN.ltc hj (pNm_1 cn).1 (by decide)
      have e1 := go _ (k_take (d + 65) hs.1 hh1.1 v2.r.1 v2.2.2.2.1 hj v2.2.2.2.2.1 (cK_nm.mpr cn) (by omega))
      have v3 := v2.at (i + 2)
      by_cases cs : p.1 (i + 2) = nI 59
      · rw [if_pos cs]
        have hj3 := hN.ltc hj2 cs (by decide)
        refine ⟨by show i + 3 + 0 ≤ i + 3; omega, hj3, _, T1, e1.trans (r_138 (S' := S) (k_take (d + 65) hs.1 hh1.1 v3.r.1 v3.2.2.2.1 hj2 v3.2.2.2.2.1 ((cK_c (by decide)).mpr cs) (by omega))), ?_, hm1⟩
        show cV P κ A S0 _ (i + 3) _ (C ++ [])
        rw [List.append_nil]
        exact v3.at (i + 3)
      · rw [if_neg cs]
        exact ⟨hj2, _, T1, e1.trans (r_138 (S' := S) (k_takeX (d + 65) hs.1 hh1.1 v3.r.1 v3.2.2.2.1 hj2 v3.2.2.2.2.1 (fun q => cs ((cK_c (by decide)).mp q)))), v3.bad (by omega)⟩
    · rw [if_neg cn]
      have e1 := go _ (k_takeX (d + 65) hs.1 hh1.1 v2.r.1 v2.2.2.2.1 hj v2.2.2.2.2.1 (fun q => cn (cK_nm.mp q)))
      have x1 := v2.bad (show C.length ≤ 700 by omega)
      exact ⟨hj, _, T1, e1.trans (r_138 (S' := S) (k_takeF (d + 65) hs.1 hh1.1 x1.r.1 x1.2.2.2.1 hj x1.2.2.2.2.1)), x1⟩
  · rw [if_neg cd]
    have n6 : ¬ cK p i = nI 6 := fun q => cd ((cK_wd hkp (Or.inr (Or.inr (Or.inl ⟨rfl, rfl⟩)))).mp q)
    by_cases ck : pWd p i 7038329 = true ∨ pNm p i = true
    · rw [if_pos ck]
      have ck1 : p.1 i = nI 1 := by
        rcases ck with q | q
        · exact wd1 _ _ q
        · exact (pNm_1 q).1
      have hj := hN.ltc hi ck1 (by decide)
      have hpl := h7 i
      generalize hky : pWd p i 7038329 = ky at *
      -- the slot, and its claim, as far as take(=)
      have st : ∃ sl S1 T1 u1, (ky = true → sl = some 8) ∧ (ky = false → sl = (eC SN nN).1 (p.2.2 i)) ∧ cV P κ A S0 S1 (i + 1) (mnF (slBad ms (p.2.1 i) sl) z) C ∧ msT T1 tg (slClaim ms sl) ∧ ∀ S2 h', xm (d + 66) 52 [.ref Q, .int (nI 61)] (oh 4 (oh 3 h A T1) Q S1) = some (none, oh 4 (oh 3 h A T1) Q S2) → xm (d + 66) 59 [.ref Q, .int (oI sl)] (oh 4 (oh 3 h A T1) Q S2) = some (none, h') → xm (d + 67) 56 [.ref Q] (oh 4 h Q S) = xrun (d + 66) 56 138 [(1, .ref Q), (1, .int u1), (1, .int (oI sl))] [] h' := by
        have eP := fun h T (hh : cH2 P κ A κN SP SK SN T h) => (k_place (d + 65) hs.1 hh.1 r0 h13 hi : xm (d + 66) 50 [.ref Q] (oh 4 h Q S) = _)
        have eN := fun h => (k_note (Q := Q) (h := h) (S := S) (d + 65) hv.2.2.2.2.2.1 hv.2.2.2.2.2.2.1 (show p.2.1 i ≤ 701 by omega) : xm (d + 66) 51 [.ref Q, .int (nI (p.2.1 i))] (oh 4 h Q S) = _)
        have v2 := hv.no (p.2.1 i)
        have some_case : ∀ s, s < 9 → (∀ h', xrun (d + 66) 56 90 [(1, .ref Q), (1, .int (cK p i)), (1, .int (nI s))] [] (oh 4 h Q S) = h' → xm (d + 67) 56 [.ref Q] (oh 4 h Q S) = h') → ∃ S1 T1, cV P κ A S0 S1 (i + 1) (mnF (if ms.1 s = true then [p.2.1 i] else []) z) C ∧ msT T1 tg (if ms.1 s = true then ms else msClaim ms s) ∧ ∀ S2 h', xm (d + 66) 52 [.ref Q, .int (nI 61)] (oh 4 (oh 3 h A T1) Q S1) = some (none, oh 4 (oh 3 h A T1) Q S2) → xm (d + 66) 59 [.ref Q, .int (nI s)] (oh 4 (oh 3 h A T1) Q S2) = some (none, h') → xm (d + 67) 56 [.ref Q] (oh 4 h Q S) = xrun (d + 66) 56 138 [(1, .ref Q), (1, .int (cK p i)), (1, .int (nI s))] [] h' := by
          intro s h9 start
          obtain ⟨T1, eCl, hm1⟩ := n_claim (d + 65) (Q := Q) (S := S) hs hh hm h9
          have eCl : xm (d + 66) 58 [.ref A, .int (nI s)] (oh 4 h Q S) = _ := eCl
          have eP := eP (oh 3 h A T1) T1 (hh.mv hs T1)
          have eN := eN (oh 3 h A T1)
          cases hah : ms.1 s with
          | true =>
            rw [hah] at eCl hm1
            rw [if_pos rfl]
            refine ⟨_, T1, v2.at (i + 1), hm1, fun S2 h' eT eW => start _ ?_⟩
            generalize cK p i = kk
            simp (disch := omega) only [q_56_0, q_56_1, q_56_4, q_56_5, q_56_6, q_56_8, q_56_11, q_56_12, q_56_13, q_56_16, q_56_17, q_56_18, q_56_21, q_56_22, q_56_25, q_56_26, q_56_29, q_56_30, q_56_33, q_56_36, q_56_39, q_56_42, q_56_43, q_56_44, q_56_47, q_56_50, q_56_51, q_56_52, q_56_55, q_56_58, q_56_59, q_56_60, q_56_63, q_56_64, q_56_65, q_56_68, q_56_69, q_56_70, q_56_73, q_56_75, q_56_78, q_56_79, q_56_82, q_56_83, q_56_86, q_56_89, q_56_90, q_56_91, q_56_94, q_56_95, q_56_98, q_56_101, q_56_102, q_56_103, q_56_106, q_56_109, q_56_110, q_56_111, q_56_114, q_56_115, q_56_116, q_56_119, q_56_120, q_56_122, q_56_125, q_56_126, q_56_127, q_56_130, q_56_133, q_56_134, q_56_135, og_4_13, op_4_13, og_4_11, og_4_9, og_4_10, og_4_14, op_4_14, o_is, o_ob, ofs_len4, ↓reduceIte, k_cr, k_ci, k_oR, k_oN, k_aR, k_aN, and_true, true_and, and_self, eq_self, Nat.reduceLT, Nat.reduceLeDiff, Nat.reduceEqDiff, Nat.reduceAdd, Nat.reduceMul, Bool.true_eq_false, Bool.false_eq_true, Nat.add_sub_cancel, Nat.not_lt_zero, Nat.zero_le, k_sub, k_sb1, k_r, k_n, k_ret, k_t1, k_t0, k_nr, k_nn, k_z0, k_z1, k_zb, x_okI, lit_nI, k_in, k_cl, k_lt, k_le, k_eq, k_neg, nI_add, nI_mul, k_clt, k_cgt, k_cle, k_cge, k_ceq, bI_0, k_sh8, ne_eq, Nat.add_eq_zero_iff, Nat.one_ne_zero, Nat.succ_ne_zero, and_false, false_and, not_false_eq_true, not_true_eq_false, ite_true, ite_false, if_true, if_false, iK, iA, iN, sI_uI, sJ_uI, sA_uI, sL_uI, sR_uI, sQ_uI, sI_uJ, sJ_uJ, sA_uJ, sL_uJ, sR_uJ, sQ_uJ, sI_uA, sJ_uA, sA_uA, sL_uA, sR_uA, sQ_uA, sI_uL, sJ_uL, sA_uL, sL_uL, sR_uL, sQ_uL, sI_uR, sJ_uR, sA_uR, sL_uR, sR_uR, sQ_uR, sI_uQ, sJ_uQ, sA_uQ, sL_uQ, sR_uQ, sQ_uQ, bI_f, bI_t, Bool.not_true, Bool.not_false, r11, h13, eCl, eP, eN, eT, eW]
          | false =>
            rw [hah] at eCl hm1
            rw [if_neg (by decide)]
            refine ⟨_, T1, hv.at (i + 1), hm1, fun S2 h' eT eW => start _ ?_⟩
            generalize cK p i = kk
            simp (disch := omega) only [q_56_0, q_56_1, q_56_4, q_56_5, q_56_6, q_56_8, q_56_11, q_56_12, q_56_13, q_56_16, q_56_17, q_56_18, q_56_21, q_56_22, q_56_25, q_56_26, q_56_29, q_56_30, q_56_33, q_56_36, q_56_39, q_56_42, q_56_43, q_56_44, q_56_47, q_56_50, q_56_51, q_56_52, q_56_55, q_56_58, q_56_59, q_56_60, q_56_63, q_56_64, q_56_65, q_56_68, q_56_69, q_56_70, q_56_73, q_56_75, q_56_78, q_56_79, q_56_82, q_56_83, q_56_86, q_56_89, q_56_90, q_56_91, q_56_94, q_56_95, q_56_98, q_56_101, q_56_102, q_56_103, q_56_106, q_56_109, q_56_110, q_56_111, q_56_114, q_56_115, q_56_116, q_56_119, q_56_120, q_56_122, q_56_125, q_56_126, q_56_127, q_56_130, q_56_133, q_56_134, q_56_135, og_4_13, op_4_13, og_4_11, og_4_9, og_4_10, og_4_14, op_4_14, o_is, o_ob, ofs_len4, ↓reduceIte, k_cr, k_ci, k_oR, k_oN, k_aR, k_aN, and_true, true_and, and_self, eq_self, Nat.reduceLT, Nat.reduceLeDiff, Nat.reduceEqDiff, Nat.reduceAdd, Nat.reduceMul, Bool.true_eq_false, Bool.false_eq_true, Nat.add_sub_cancel, Nat.not_lt_zero, Nat.zero_le, k_sub, k_sb1, k_r, k_n, k_ret, k_t1, k_t0, k_nr, k_nn, k_z0, k_z1, k_zb, x_okI, lit_nI, k_in, k_cl, k_lt, k_le, k_eq, k_neg, nI_add, nI_mul, k_clt, k_cgt, k_cle, k_cge, k_ceq, bI_0, k_sh8, ne_eq, Nat.add_eq_zero_iff, Nat.one_ne_zero, Nat.succ_ne_zero, and_false, false_and, not_false_eq_true, not_true_eq_false, ite_true, ite_false, if_true, if_false, iK, iA, iN, sI_uI, sJ_uI, sA_uI, sL_uI, sR_uI, sQ_uI, sI_uJ, sJ_uJ, sA_uJ, sL_uJ, sR_uJ, sQ_uJ, sI_uA, sJ_uA, sA_uA, sL_uA, sR_uA, sQ_uA, sI_uL, sJ_uL, sA_uL, sL_uL, sR_uL, sQ_uL, sI_uR, sJ_uR, sA_uR, sL_uR, sR_uR, sQ_uR, sI_uQ, sJ_uQ, sA_uQ, sL_uQ, sR_uQ, sQ_uQ, bI_f, bI_t, Bool.not_true, Bool.not_false, r11, h13, eCl, eT, eW]
        cases ky with
        | true =>
          have k4 : cK p i = nI 4 := (cK_wd hkp (Or.inl ⟨rfl, rfl⟩)).mpr hky
          obtain ⟨S1, T1, a1, a2, a3⟩ := some_case 8 (by omega) (fun h' e => by
            rw [e0, ← e]
            rw [k4] at eK ⊢
            simp (disch := omega) only [q_56_0, q_56_1, q_56_4, q_56_5, q_56_6, q_56_8, q_56_11, q_56_12, q_56_13, q_56_16, q_56_17, q_56_18, q_56_21, q_56_22, q_56_25, q_56_26, q_56_29, q_56_30, q_56_33, q_56_36, q_56_39, q_56_42, q_56_43, q_56_44, q_56_47, q_56_50, q_56_51, q_56_52, q_56_55, q_56_58, q_56_59, q_56_60, q_56_63, q_56_64, q_56_65, q_56_68, q_56_69, q_56_70, q_56_73, q_56_75, q_56_78, q_56_79, q_56_82, q_56_83, q_56_86, q_56_89, og_4_13, op_4_13, og_4_11, og_4_9, og_4_10, og_4_14, op_4_14, o_is, o_ob, ofs_len4, ↓reduceIte, k_cr, k_ci, k_oR, k_oN, k_aR, k_aN, and_true, true_and, and_self, eq_self, Nat.reduceLT, Nat.reduceLeDiff, Nat.reduceEqDiff, Nat.reduceAdd, Nat.reduceMul, Bool.true_eq_false, Bool.false_eq_true, Nat.add_sub_cancel, Nat.not_lt_zero, Nat.zero_le, k_sub, k_sb1, k_r, k_n, k_ret, k_t1, k_t0, k_nr, k_nn, k_z0, k_z1, k_zb, x_okI, lit_nI, k_in, k_cl, k_lt, k_le, k_eq, k_neg, nI_add, nI_mul, k_clt, k_cgt, k_cle, k_cge, k_ceq, bI_0, k_sh8, ne_eq, Nat.add_eq_zero_iff, Nat.one_ne_zero, Nat.succ_ne_zero, and_false, false_and, not_false_eq_true, not_true_eq_false, ite_true, ite_false, if_true, if_false, iK, iA, iN, eK])
          exact ⟨some 8, S1, T1, _, fun _ => rfl, fun z => (by cases z), a1, a2, a3⟩
        | false =>
          have kn : pNm p i = true := by
            rcases ck with q | q
            · cases q
            · exact q
          have k2 : cK p i = nI 2 := cK_nm.mpr kn
          have eW : xm (d + 66) 49 [.ref Q] (oh 4 h Q S) = _ := k_word (d + 65) hs.1 hh.1 r0 h13 hi
          have eF : xm (d + 66) 19 [.ref κN, .long (p.2.2 i)] (oh 4 h Q S) = _ := n_find (d + 65) (Q := Q) (S := S) (w := p.2.2 i) hs hh
          cases hf : (eC SN nN).1 (p.2.2 i) with
          | some s =>
            have h8 := (fnd_lt (f := sL SN 1) hf).1
            have h82 := hs.2.2.2.2.1
            rw [hf] at eF
            obtain ⟨S1, T1, a1, a2, a3⟩ := some_case s (by omega) (fun h' e => by
              rw [e0, ← e]
              rw [k2] at eK ⊢
              simp (disch := omega) only [q_56_0, q_56_1, q_56_4, q_56_5, q_56_6, q_56_8, q_56_11, q_56_12, q_56_13, q_56_16, q_56_17, q_56_18, q_56_21, q_56_22, q_56_25, q_56_26, q_56_29, q_56_30, q_56_33, q_56_36, q_56_39, q_56_42, q_56_43, q_56_44, q_56_47, q_56_50, q_56_51, q_56_52, q_56_55, q_56_58, q_56_59, q_56_60, q_56_63, q_56_64, q_56_65, q_56_68, q_56_69, q_56_70, q_56_73, q_56_75, q_56_78, q_56_79, q_56_82, q_56_83, q_56_86, q_56_89, og_4_13, op_4_13, og_4_11, og_4_9, og_4_10, og_4_14, op_4_14, o_is, o_ob, ofs_len4, ↓reduceIte, k_cr, k_ci, k_oR, k_oN, k_aR, k_aN, and_true, true_and, and_self, eq_self, Nat.reduceLT, Nat.reduceLeDiff, Nat.reduceEqDiff, Nat.reduceAdd, Nat.reduceMul, Bool.true_eq_false, Bool.false_eq_true, Nat.add_sub_cancel, Nat.not_lt_zero, Nat.zero_le, k_sub, k_sb1, k_r, k_n, k_ret, k_t1, k_t0, k_nr, k_nn, k_z0, k_z1, k_zb, x_okI, lit_nI, k_in, k_cl, k_lt, k_le, k_eq, k_neg, nI_add, nI_mul, k_clt, k_cgt, k_cle, k_cge, k_ceq, bI_0, k_sh8, ne_eq, Nat.add_eq_zero_iff, Nat.one_ne_zero, Nat.succ_ne_zero, and_false, false_and, not_false_eq_true, not_true_eq_false, ite_true, ite_false, if_true, if_false, iK, iA, iN, oI, r10, eK, eW, eF])
            exact ⟨some s, S1, T1, _, fun z => (by cases z), fun _ => rfl, a1, a2, a3⟩
          | none =>
            rw [hf] at eF
            have HA := hh.1.2.2.frame (S := S) hs.1.2.2.1
            have eCl : xm (d + 66) 58 [.ref A, .int (-nI 1)] (oh 4 h Q S) = _ := c_claim_n (d + 65) (oh 4 h Q S) A (-nI 1) T HA (by decide)
            refine ⟨none, _, T, nI 2, fun z => (by cases z), fun _ => rfl, v2.at (i + 1), hm, fun S2 h' eT eW2 => ?_⟩
            have eP := eP h T hh
            have eN := eN h
            rw [hh.1.same] at eT eW2
            have eW2 : xm (d + 66) 59 [.ref Q, .int (-nI 1)] (oh 4 h Q S2) = some (none, h') := eW2
            rw [e0]
            rw [k2] at eK
            simp (disch := omega) only [q_56_0, q_56_1, q_56_4, q_56_5, q_56_6, q_56_8, q_56_11, q_56_12, q_56_13, q_56_16, q_56_17, q_56_18, q_56_21, q_56_22, q_56_25, q_56_26, q_56_29, q_56_30, q_56_33, q_56_36, q_56_39, q_56_42, q_56_43, q_56_44, q_56_47, q_56_50, q_56_51, q_56_52, q_56_55, q_56_58, q_56_59, q_56_60, q_56_63, q_56_64, q_56_65, q_56_68, q_56_69, q_56_70, q_56_73, q_56_75, q_56_78, q_56_79, q_56_82, q_56_83, q_56_86, q_56_89, q_56_90, q_56_91, q_56_94, q_56_95, q_56_98, q_56_101, q_56_102, q_56_103, q_56_106, q_56_109, q_56_110, q_56_111, q_56_114, q_56_115, q_56_116, q_56_119, q_56_120, q_56_122, q_56_125, q_56_126, q_56_127, q_56_130, q_56_133, q_56_134, q_56_135, og_4_13, op_4_13, og_4_11, og_4_9, og_4_10, og_4_14, op_4_14, o_is, o_ob, ofs_len4, ↓reduceIte, k_cr, k_ci, k_oR, k_oN, k_aR, k_aN, and_true, true_and, and_self, eq_self, Nat.reduceLT, Nat.reduceLeDiff, Nat.reduceEqDiff, Nat.reduceAdd, Nat.reduceMul, Bool.true_eq_false, Bool.false_eq_true, Nat.add_sub_cancel, Nat.not_lt_zero, Nat.zero_le, k_sub, k_sb1, k_r, k_n, k_ret, k_t1, k_t0, k_nr, k_nn, k_z0, k_z1, k_zb, x_okI, lit_nI, k_in, k_cl, k_lt, k_le, k_eq, k_neg, nI_add, nI_mul, k_clt, k_cgt, k_cle, k_cge, k_ceq, bI_0, k_sh8, ne_eq, Nat.add_eq_zero_iff, Nat.one_ne_zero, Nat.succ_ne_zero, and_false, false_and, not_false_eq_true, not_true_eq_false, ite_true, ite_false, if_true, if_false, iK, iA, iN, sI_uI, sJ_uI, sA_uI, sL_uI, sR_uI, sQ_uI, sI_uJ, sJ_uJ, sA_uJ, sL_uJ, sR_uJ, sQ_uJ, sI_uA, sJ_uA, sA_uA, sL_uA, sR_uA, sQ_uA, sI_uL, sJ_uL, sA_uL, sL_uL, sR_uL, sQ_uL, sI_uR, sJ_uR, sA_uR, sL_uR, sR_uR, sQ_uR, sI_uQ, sJ_uQ, sA_uQ, sL_uQ, sR_uQ, sQ_uQ, oI, r10, r11, h13, eK, eW, eF, eCl, eP, eN, eT, eW2]
      obtain ⟨sl, S1, T1, u1, sl1, sl2, v2, hm1, go⟩ := st
      have hh1 := hh.mv hs T1
      have hsl9 : ∀ s, sl = some s → s < 9 := by
        intro s e
        cases ky with
        | true =>
          rw [sl1 rfl] at e
          have := Option.some.inj e
          omega
        | false =>
          rw [sl2 rfl] at e
          have h8 := (fnd_lt (f := sL SN 1) e).1
          have h82 := hs.2.2.2.2.1
          omega
      have hsl8 : (sl = some 8) ↔ ky = true := by
        refine ⟨fun e => ?_, sl1⟩
        cases ky with
        | true => rfl
        | false =>
          rw [sl2 rfl] at e
          have h8 := (fnd_lt (f := sL SN 1) e).1
          have h82 := hs.2.2.2.2.1
          omega
      by_cases cq : p.1 (i + 1) = nI 61
      · rw [if_pos cq]
        have hj2 := hN.ltc hj cq (by decide)
        have eT := k_take (d + 65) hs.1 hh1.1 v2.r.1 v2.2.2.2.1 hj v2.2.2.2.2.1 ((cK_c (by decide)).mpr cq) (by omega)
        have v3 := v2.at (i + 2)
        have hB : ∀ (r : rT), (ky = true → r.1 = 0) → (ky = false → r.1 = 1 ∧ r.2.1 = p.2.2 i) → ¬ r.1 = 2 ∧ ruSl (eC SN nN) r = sl := by
          intro r a b
          cases ky with
          | true =>
            refine ⟨by rw [a rfl]; decide, ?_⟩
            unfold ruSl
            rw [if_pos (a rfl), sl1 rfl]
          | false =>
            refine ⟨by rw [(b rfl).1]; decide, ?_⟩
            unfold ruSl
            rw [if_neg (by rw [(b rfl).1]; decide), (b rfl).2, sl2 rfl]
        by_cases cj : ¬ sl = some 8 ∧ pNm p (i + 2) = true ∧ p.1 (i + 3) = nI 59
        · -- just a NAME
          have hky0 : ky = false := by
            cases hk0 : ky with
            | false => rfl
            | true => exact absurd (sl1 hk0) cj.1
          have hj3 := hN.ltc hj2 (pNm_1 cj.2.1).1 (by decide)
          obtain ⟨S4, T4, e4, v4, hm4⟩ := k_just d hs hh1 v3 h10 h3 hm1 (fun s e => by
            have h9 := hsl9 s e
            have : ¬ s = 8 := fun z => cj.1 (by rw [e, z])
            omega) cj.2.1 cj.2.2 hj3
          rw [oh_oh] at e4
          have e5 := go _ _ eT e4
          have hh4 := hh.mv hs T4
          rw [ex_just cj.2.1 cj.2.2]
          show rcR (d + 67) Q P κ A S0 (eC SK nO) (eC SN nN) nN N i z C S tg ms h (if p.1 (i + 3) = nI 59 then .inr (i + 3 + 1, (if ky = true then 0 else 1, if ky = true then 0 else p.2.2 i, p.2.1 i, p.2.1 (i + 2), !ky && jsB p (i + 2) [(nI 3, p.2.2 (i + 2), p.2.1 (i + 2))], [(nI 3, p.2.2 (i + 2), p.2.1 (i + 2))])) else .inl (i + 3))
          rw [if_pos cj.2.2]
          have hj4 := hN.ltc (show i + 3 ≤ N from hj3) cj.2.2 (by decide)
          have js : jsB p (i + 2) [(nI 3, p.2.2 (i + 2), p.2.1 (i + 2))] = true := by
            show (decide (nI 3 = nI 3) && decide (nI (p.2.1 (i + 2)) = nI (p.2.1 (i + 2)))) = true
            rw [decide_eq_true rfl, decide_eq_true rfl]
            rfl
          rw [js, hky0]
          obtain ⟨b1, b2⟩ := hB (1, p.2.2 i, p.2.1 i, p.2.1 (i + 2), true, [(nI 3, p.2.2 (i + 2), p.2.1 (i + 2))]) (fun z => by rw [hky0] at z; cases z) (fun _ => ⟨rfl, rfl⟩)
          refine ⟨by show i + 3 + 1 ≤ i + 3 + 1; omega, hj4, _, T4, e5.trans (r_138 (S' := S) (k_take (d + 65) hs.1 hh4.1 v4.r.1 v4.2.2.2.1 hj3 v4.2.2.2.2.1 ((cK_c (by decide)).mpr cj.2.2) (by omega))), ?_, ?_⟩
          · have ec : cruB (eC SK nO) (eC SN nN) nN ms (1, p.2.2 i, p.2.1 i, p.2.1 (i + 2), true, [(nI 3, p.2.2 (i + 2), p.2.1 (i + 2))]) = slBad ms (p.2.1 i) sl ++ juBad (eC SK nO) (slRow (eC SN nN) nN sl) (p.2.1 (i + 2)) ((eC SK nO).1 (p.2.2 (i + 2))) := by
              unfold cruB
              rw [if_neg b1, b2]
              rfl
            show cV P κ A S0 _ (i + 3 + 1) (mnF (cruB (eC SK nO) (eC SN nN) nN ms (1, p.2.2 i, p.2.1 i, p.2.1 (i + 2), true, [(nI 3, p.2.2 (i + 2), p.2.1 (i + 2))])) z) (C ++ [])
            rw [List.append_nil, ec, mnF_app]
            exact v4.at (i + 3 + 1)
          · have es : ruStep (eC SK nO) (eC SN nN) C.length ms (1, p.2.2 i, p.2.1 i, p.2.1 (i + 2), true, [(nI 3, p.2.2 (i + 2), p.2.1 (i + 2))]) = slCopy (slClaim ms sl) sl ((eC SK nO).1 (p.2.2 (i + 2))) := by
              unfold ruStep
              rw [if_neg b1, b2]
              rfl
            show msT T4 tg (ruStep (eC SK nO) (eC SN nN) C.length ms (1, p.2.2 i, p.2.1 i, p.2.1 (i + 2), true, [(nI 3, p.2.2 (i + 2), p.2.1 (i + 2))]))
            rw [es]
            exact hm4
        · have hr := k_work d hs hh1 v3 h10 h3 hm1 hsl9 cj (by omega) hj2
          cases hx : exF p (i + 2) with
          | inl q =>
            rw [hx] at hr
            obtain ⟨s0, S4, T4, e4, x4⟩ := hr
            rw [oh_oh] at e4
            have e5 := go _ _ eT e4
            have hh4 := hh.mv hs T4
            exact ⟨s0, S4, T4, e5.trans (r_138 (S' := S) (k_takeF (d + 65) hs.1 hh4.1 x4.r.1 x4.2.2.2.1 s0 x4.2.2.2.2.1)), x4⟩
          | inr y =>
            obtain ⟨j, B⟩ := y
            rw [hx] at hr
            obtain ⟨s1, s2, s3, S4, T4, e4, v4, hm4⟩ := hr
            rw [oh_oh] at e4
            have e5 := go _ _ eT e4
            have hh4 := hh.mv hs T4
            show rcR (d + 67) Q P κ A S0 (eC SK nO) (eC SN nN) nN N i z C S tg ms h (if p.1 j = nI 59 then .inr (j + 1, (if ky = true then 0 else 1, if ky = true then 0 else p.2.2 i, p.2.1 i, p.2.1 (i + 2), !ky && jsB p (i + 2) B, B)) else .inl j)
            by_cases cs : p.1 j = nI 59
            · rw [if_pos cs]
              have hj3 := hN.ltc s2 cs (by decide)
              have js : (!ky && jsB p (i + 2) B) = false := by
                cases hk0 : ky with
                | true => rfl
                | false =>
                  rw [Bool.not_false, Bool.true_and, ← Bool.not_eq_true]
                  intro w
                  have w2 := (js_iff hN hu h7 hx s2 cs).mp w
                  exact cj ⟨(fun z => by rw [hsl8, hk0] at z; cases z), w2⟩
              rw [js]
              obtain ⟨b1, b2⟩ := hB (if ky = true then 0 else 1, if ky = true then 0 else p.2.2 i, p.2.1 i, p.2.1 (i + 2), false, B) (fun z => if_pos z) (fun z => by rw [z]; exact ⟨rfl, rfl⟩)
              refine ⟨by show i + 3 + B.length ≤ j + 1; omega, hj3, _, T4, e5.trans (r_138 (S' := S) (k_take (d + 65) hs.1 hh4.1 v4.r.1 v4.2.2.2.1 s2 v4.2.2.2.2.1 ((cK_c (by decide)).mpr cs) (by omega))), ?_, ?_⟩
              · have ec : cruB (eC SK nO) (eC SN nN) nN ms (if ky = true then 0 else 1, if ky = true then 0 else p.2.2 i, p.2.1 i, p.2.1 (i + 2), false, B) = slBad ms (p.2.1 i) sl ++ (B.flatMap (actB (eC SK nO)) ++ (if slRow (eC SN nN) nN sl = true then [p.2.1 (i + 2)] else [])) := by
                  unfold cruB
                  rw [if_neg b1, b2]
                  rfl
                rw [ec, mnF_app]
                exact v4.at (j + 1)
              · have es : ruStep (eC SK nO) (eC SN nN) C.length ms (if ky = true then 0 else 1, if ky = true then 0 else p.2.2 i, p.2.1 i, p.2.1 (i + 2), false, B) = slWork (msTold (slClaim ms sl) (tld (eC SK nO) B)) C.length (C.length + B.length) sl := by
                  unfold ruStep
                  rw [if_neg b1, b2]
                  rfl
                rw [es]
                exact hm4
            · rw [if_neg cs]
              exact ⟨s2, _, T4, e5.trans (r_138 (S' := S) (k_takeX (d + 65) hs.1 hh4.1 v4.r.1 v4.2.2.2.1 s2 v4.2.2.2.2.1 (fun q => cs ((cK_c (by decide)).mp q)))), v4.bad (by rw [List.length_append, List.length_map]; omega)⟩
      · rw [if_neg cq]
        have eT := k_takeX (d + 65) hs.1 hh1.1 v2.r.1 v2.2.2.2.1 hj v2.2.2.2.2.1 (fun q => cq ((cK_c (by decide)).mp q))
        have x2 := v2.bad (show C.length ≤ 700 by omega)
        have e59 : xm (d + 66) 59 [.ref Q, .int (oI sl)] (oh 4 (oh 3 h A T1) Q (uI S1 14 (nI 1))) = some (none, oh 4 (oh 3 h A T1) Q (uI S1 14 (nI 1))) := by
          have q14 : sI (uI S1 14 (nI 1)) 14 = nI 1 := rfl
          have e := E_59 (d + 65) (oh 4 (oh 3 h A T1) Q (uI S1 14 (nI 1))) (.ref Q) (oI sl) rfl
          refine Eq.trans e ?_
          generalize uI S1 14 (nI 1) = S2 at *
          simp (disch := omega) only [q_59_0, q_59_1, q_59_4, q_59_7, q_59_8, q_59_9, q_59_12, q_59_13, q_59_14, q_59_17, q_59_18, q_59_21, q_59_22, q_59_23, q_59_25, q_59_28, q_59_29, q_59_32, q_59_33, q_59_36, q_59_37, q_59_40, q_59_41, q_59_44, q_59_45, q_59_46, q_59_49, q_59_51, q_59_54, q_59_55, q_59_58, q_59_59, q_59_62, q_59_65, q_59_67, q_59_69, q_59_70, q_59_73, q_59_74, q_59_77, q_59_79, q_59_82, q_59_83, q_59_86, q_59_87, q_59_88, q_59_91, q_59_92, q_59_95, q_59_96, q_59_98, q_59_101, q_59_102, q_59_103, q_59_106, q_59_107, q_59_108, q_59_111, q_59_112, q_59_113, q_59_116, q_59_118, q_59_119, q_59_120, q_59_123, q_59_124, q_59_127, q_59_128, q_59_129, q_59_132, q_59_133, q_59_136, q_59_137, q_59_139, q_59_140, q_59_143, q_59_146, og_4_14, og_4_10, og_4_0, og_4_13, op_4_13, og_4_9, og_4_11, og_4_4, o_is, o_ob, ofs_len4, ↓reduceIte, k_cr, k_ci, k_oR, k_oN, k_aR, k_aN, and_true, true_and, and_self, eq_self, Nat.reduceLT, Nat.reduceLeDiff, Nat.reduceEqDiff, Nat.reduceAdd, Nat.reduceMul, Bool.true_eq_false, Bool.false_eq_true, Nat.add_sub_cancel, Nat.not_lt_zero, Nat.zero_le, k_sub, k_sb1, k_r, k_n, k_ret, k_t1, k_t0, k_nr, k_nn, k_z0, k_z1, k_zb, x_okI, lit_nI, k_in, k_cl, k_lt, k_le, k_eq, k_neg, nI_add, nI_mul, k_clt, k_cgt, k_cle, k_cge, k_ceq, bI_0, k_sh8, ne_eq, Nat.add_eq_zero_iff, Nat.one_ne_zero, Nat.succ_ne_zero, and_false, false_and, not_false_eq_true, not_true_eq_false, ite_true, ite_false, if_true, if_false, q14]
        have e5 := go _ _ eT e59
        exact ⟨hj, _, T1, e5.trans (r_138 (S' := S) (k_takeF (d + 65) hs.1 hh1.1 x2.r.1 x2.2.2.2.1 hj x2.2.2.2.2.1)), x2⟩
    · rw [if_neg ck]
      have ck1 : ¬ cK p i = nI 4 := fun q => ck (Or.inl ((cK_wd hkp (Or.inl ⟨rfl, rfl⟩)).mp q))
      have ck2 : ¬ cK p i = nI 2 := fun q => ck (Or.inr (cK_nm.mp q))
      have x1 := hv.bad (show C.length ≤ 700 by omega)
      have e1 : xm (d + 67) 56 [.ref Q] (oh 4 h Q S) = xrun (d + 66) 56 138 [(1, .ref Q), (1, .int (cK p i)), (0, .null)] [] (oh 4 h Q (uI S 14 (nI 1))) := by
        rw [e0]
        generalize cK p i = kk at *
        simp (disch := omega) only [q_56_0, q_56_1, q_56_4, q_56_5, q_56_6, q_56_8, q_56_11, q_56_12, q_56_13, q_56_16, q_56_17, q_56_18, q_56_21, q_56_22, q_56_25, q_56_26, q_56_29, q_56_30, q_56_33, q_56_36, q_56_39, q_56_42, q_56_43, q_56_44, q_56_47, q_56_50, q_56_51, q_56_52, q_56_55, q_56_58, q_56_59, q_56_60, q_56_63, q_56_64, q_56_65, q_56_68, q_56_69, q_56_70, q_56_73, q_56_75, q_56_78, q_56_79, q_56_82, q_56_83, q_56_86, q_56_89, q_56_90, q_56_91, q_56_94, q_56_95, q_56_98, q_56_101, q_56_102, q_56_103, q_56_106, q_56_109, q_56_110, q_56_111, q_56_114, q_56_115, q_56_116, q_56_119, q_56_120, q_56_122, q_56_125, q_56_126, q_56_127, q_56_130, q_56_133, q_56_134, q_56_135, og_4_13, op_4_13, og_4_11, og_4_9, og_4_10, og_4_14, op_4_14, o_is, o_ob, ofs_len4, ↓reduceIte, k_cr, k_ci, k_oR, k_oN, k_aR, k_aN, and_true, true_and, and_self, eq_self, Nat.reduceLT, Nat.reduceLeDiff, Nat.reduceEqDiff, Nat.reduceAdd, Nat.reduceMul, Bool.true_eq_false, Bool.false_eq_true, Nat.add_sub_cancel, Nat.not_lt_zero, Nat.zero_le, k_sub, k_sb1, k_r, k_n, k_ret, k_t1, k_t0, k_nr, k_nn, k_z0, k_z1, k_zb, x_okI, lit_nI, k_in, k_cl, k_lt, k_le, k_eq, k_neg, nI_add, nI_mul, k_clt, k_cgt, k_cle, k_cge, k_ceq, bI_0, k_sh8, ne_eq, Nat.add_eq_zero_iff, Nat.one_ne_zero, Nat.succ_ne_zero, and_false, false_and, not_false_eq_true, not_true_eq_false, ite_true, ite_false, if_true, if_false, iK, iA, iN, eK, n6, ck1, ck2]
      refine ⟨hi, _, T, ?_, x1⟩
      rw [hh.1.same]
      exact e1.trans (r_138 (S' := S) (k_takeF (d + 65) hs.1 hh.1 x1.r.1 x1.2.2.2.1 hi x1.2.2.2.2.1))
