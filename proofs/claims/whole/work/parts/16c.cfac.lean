/-! The class: readCount, readNamed. -/
theorem kW_v (w : Int64) : kW w = nI 2 ∨ kW w = nI 4 ∨ kW w = nI 5 ∨ kW w = nI 6 ∨ kW w = nI 7 := by
  unfold kW
  split
  · exact Or.inr (Or.inl rfl)
  · split
    · exact Or.inr (Or.inr (Or.inl rfl))
    · split
      · exact Or.inr (Or.inr (Or.inr (Or.inl rfl)))
      · split
        · exact Or.inr (Or.inr (Or.inr (Or.inr rfl)))
        · exact Or.inl rfl
theorem cK_c {p : pP} {i : Nat} {c : Int32} (hc : ¬ c = nI 1 ∧ ¬ c = nI 2 ∧ ¬ c = nI 3 ∧ ¬ c = nI 4 ∧ ¬ c = nI 5 ∧ ¬ c = nI 6 ∧ ¬ c = nI 7) : cK p i = c ↔ p.1 i = c := by
  obtain ⟨c1, c2, c3, c4, c5, c6, c7⟩ := hc
  unfold cK
  by_cases h1 : p.1 i = nI 1
  · rw [if_pos h1, h1]
    refine ⟨fun z => ?_, fun z => absurd z.symm c1⟩
    rcases kW_v (p.2.2 i) with q | q | q | q | q <;> rw [q] at z
    · exact absurd z.symm c2
    · exact absurd z.symm c4
    · exact absurd z.symm c5
    · exact absurd z.symm c6
    · exact absurd z.symm c7
  · rw [if_neg h1]
    by_cases h2 : p.1 i = nI 2
    · rw [if_pos h2, h2]
      exact ⟨fun z => absurd z.symm c3, fun z => absurd z.symm c2⟩
    · rw [if_neg h2]
      by_cases h3 : p.1 i = nI 3
      · rw [if_pos h3, h3]
        exact ⟨fun z => absurd z.symm c1, fun z => absurd z.symm c3⟩
      · rw [if_neg h3]
theorem cK_num {p : pP} {i : Nat} : cK p i = nI 3 ↔ p.1 i = nI 2 := by
  unfold cK
  by_cases h1 : p.1 i = nI 1
  · rw [if_pos h1, h1]
    refine ⟨fun z => ?_, fun z => absurd z (by decide)⟩
    rcases kW_v (p.2.2 i) with q | q | q | q | q <;> rw [q] at z <;> exact absurd z (by decide)
  · rw [if_neg h1]
    by_cases h2 : p.1 i = nI 2
    · rw [if_pos h2, h2]
      exact ⟨fun _ => rfl, fun _ => rfl⟩
    · rw [if_neg h2]
      by_cases h3 : p.1 i = nI 3
      · rw [if_pos h3, h3]
        exact ⟨fun z => absurd z (by decide), fun z => absurd z (by decide)⟩
      · rw [if_neg h3]
        exact ⟨fun z => absurd z h3, fun z => absurd z h2⟩
theorem cK_wd {p : pP} {i : Nat} {c : Int32} {w : Int64} (hk : ¬ (p.1 i = nI 4 ∨ p.1 i = nI 5 ∨ p.1 i = nI 6 ∨ p.1 i = nI 7)) (hc : c = nI 4 ∧ w = 7038329 ∨ c = nI 5 ∧ w = 1836021349 ∨ c = nI 6 ∧ w = 1685221232 ∨ c = nI 7 ∧ w = 29807) : cK p i = c ↔ pWd p i w = true := by
  unfold cK pWd
  rw [Bool.and_eq_true, decide_eq_true_eq, decide_eq_true_eq]
  by_cases h1 : p.1 i = nI 1
  · rw [if_pos h1, h1]
    unfold kW
    generalize p.2.2 i = x
    refine ⟨fun z => ⟨rfl, ?_⟩, fun z => ?_⟩
    · by_cases a1 : x = 7038329
      · rw [if_pos a1] at z
        rcases hc with ⟨q1, q2⟩ | ⟨q1, q2⟩ | ⟨q1, q2⟩ | ⟨q1, q2⟩
        · rw [a1, q2]
        · rw [q1] at z
          exact absurd z (by decide)
        · rw [q1] at z
          exact absurd z (by decide)
        · rw [q1] at z
          exact absurd z (by decide)
      · rw [if_neg a1] at z
        by_cases a2 : x = 1836021349
        · rw [if_pos a2] at z
          rcases hc with ⟨q1, q2⟩ | ⟨q1, q2⟩ | ⟨q1, q2⟩ | ⟨q1, q2⟩
          · rw [q1] at z
            exact absurd z (by decide)
          · rw [a2, q2]
          · rw [q1] at z
            exact absurd z (by decide)
          · rw [q1] at z
            exact absurd z (by decide)
        · rw [if_neg a2] at z
          by_cases a3 : x = 1685221232
          · rw [if_pos a3] at z
            rcases hc with ⟨q1, q2⟩ | ⟨q1, q2⟩ | ⟨q1, q2⟩ | ⟨q1, q2⟩
            · rw [q1] at z
              exact absurd z (by decide)
            · rw [q1] at z
              exact absurd z (by decide)
            · rw [a3, q2]
            · rw [q1] at z
              exact absurd z (by decide)
          · rw [if_neg a3] at z
            by_cases a4 : x = 29807
            · rw [if_pos a4] at z
              rcases hc with ⟨q1, q2⟩ | ⟨q1, q2⟩ | ⟨q1, q2⟩ | ⟨q1, q2⟩
              · rw [q1] at z
                exact absurd z (by decide)
              · rw [q1] at z
                exact absurd z (by decide)
              · rw [q1] at z
                exact absurd z (by decide)
              · rw [a4, q2]
            · rw [if_neg a4] at z
              rcases hc with ⟨q1, q2⟩ | ⟨q1, q2⟩ | ⟨q1, q2⟩ | ⟨q1, q2⟩ <;> rw [q1] at z <;> exact absurd z (by decide)
    · rw [z.2]
      rcases hc with ⟨q1, q2⟩ | ⟨q1, q2⟩ | ⟨q1, q2⟩ | ⟨q1, q2⟩ <;> rw [q1, q2] <;> decide
  · rw [if_neg h1]
    refine ⟨fun z => ?_, fun z => absurd z.1 h1⟩
    by_cases h2 : p.1 i = nI 2
    · rw [if_pos h2] at z
      rcases hc with ⟨q1, _⟩ | ⟨q1, _⟩ | ⟨q1, _⟩ | ⟨q1, _⟩ <;> rw [q1] at z <;> exact absurd z (by decide)
    · rw [if_neg h2] at z
      by_cases h3 : p.1 i = nI 3
      · rw [if_pos h3] at z
        rcases hc with ⟨q1, _⟩ | ⟨q1, _⟩ | ⟨q1, _⟩ | ⟨q1, _⟩ <;> rw [q1] at z <;> exact absurd z (by decide)
      · rw [if_neg h3] at z
        rcases hc with ⟨q1, _⟩ | ⟨q1, _⟩ | ⟨q1, _⟩ | ⟨q1, _⟩ <;> rw [q1] at z
        · exact absurd (Or.inl z) hk
        · exact absurd (Or.inr (Or.inl z)) hk
        · exact absurd (Or.inr (Or.inr (Or.inl z))) hk
        · exact absurd (Or.inr (Or.inr (Or.inr z))) hk
theorem cK_nm {p : pP} {i : Nat} : cK p i = nI 2 ↔ pNm p i = true := by
  unfold cK pNm
  rw [Bool.and_eq_true, decide_eq_true_eq, Bool.not_eq_true']
  by_cases h1 : p.1 i = nI 1
  · rw [if_pos h1, h1]
    unfold kW isW
    generalize p.2.2 i = x
    by_cases a1 : x = 7038329
    · rw [if_pos a1, a1]
      exact ⟨fun z => absurd z (by decide), fun z => absurd z.2 (by decide)⟩
    · rw [if_neg a1, decide_eq_false a1]
      by_cases a2 : x = 1836021349
      · rw [if_pos a2, a2]
        exact ⟨fun z => absurd z (by decide), fun z => absurd z.2 (by decide)⟩
      · rw [if_neg a2, decide_eq_false a2]
        by_cases a3 : x = 1685221232
        · rw [if_pos a3, a3]
          exact ⟨fun z => absurd z (by decide), fun z => absurd z.2 (by decide)⟩
        · rw [if_neg a3, decide_eq_false a3]
          by_cases a4 : x = 29807
          · rw [if_pos a4, a4]
            exact ⟨fun z => absurd z (by decide), fun z => absurd z.2 (by decide)⟩
          · rw [if_neg a4, decide_eq_false a4]
            exact ⟨fun _ => ⟨rfl, rfl⟩, fun _ => rfl⟩
  · rw [if_neg h1]
    refine ⟨fun z => ?_, fun z => absurd z.1 h1⟩
    by_cases h2 : p.1 i = nI 2
    · rw [if_pos h2] at z
      exact absurd z (by decide)
    · rw [if_neg h2] at z
      by_cases h3 : p.1 i = nI 3
      · rw [if_pos h3] at z
        exact absurd z (by decide)
      · rw [if_neg h3] at z
        exact absurd z h2
theorem k_count (d : Nat) {Q P κ A : Nat} {SP SK T : gS} {nO N : Nat} {p : pP} {h : xH} {S0 S : gS} {i z : Nat} {C : List cT} (hs : cS Q P κ A SP SK nO N p) (hh : cH P κ A SP SK T h) (hv : cV P κ A S0 S i z C) (hi : i ≤ N) (hl : C.length < 700) : ∃ T' S1, keV (eC SK nO) [(nI 5, p.2.2 i, p.2.1 i)] T T' ∧ cV P κ A S0 S1 i (mnF (actB (eC SK nO) (nI 5, p.2.2 i, p.2.1 i)) z) (C ++ [cod (eC SK nO) (nI 5, p.2.2 i, p.2.1 i)]) ∧ ∀ S2, xm (d + 1) 52 [.ref Q, .int (nI 2)] (oh 4 (oh 3 h A T') Q S1) = some (none, oh 4 (oh 3 h A T') Q S2) → xm (d + 2) 66 [.ref Q] (oh 4 h Q S) = some (none, oh 4 (oh 3 h A T') Q S2) := by
  obtain ⟨r0, r9, r11⟩ := hv.r
  have hpl := hs.2.2.2.2.2.2.2.2.2 i
  have iK := k_isK hs hh
  have iA := k_isA hs hh
  have eW := k_word d hs hh r0 hv.2.2.2.1 hi
  have eF := k_find (Q := Q) (S := S) d (w := p.2.2 i) hs hh
  rw [actB_5, show cod (eC SK nO) (nI 5, p.2.2 i, p.2.1 i) = (nI 4, oI ((eC SK nO).1 (p.2.2 i))) from rfl]
  cases hm : (eC SK nO).1 (p.2.2 i) with
  | none =>
    rw [hm] at eF
    have eR := k_isRowN (Q := Q) (S := S) d hs hh
    have eP := k_place d hs hh r0 hv.2.2.2.1 hi
    have eN := k_note (Q := Q) (h := h) (S := S) d hv.2.2.2.2.2.1 hv.2.2.2.2.2.2.1 (show p.2.1 i ≤ 701 by omega)
    have v1 := hv.no (p.2.1 i)
    have eM := k_mentionN (Q := Q) (S := uI S 15 (nI (min z (p.2.1 i)))) d hs hh
    have eE := k_emit (Q := Q) (h := h) d (c := nI 4) (o := -nI 1) v1.2.2.2.2.2.2.2.1.1 hl
    refine ⟨T, _, keV.none hm, v1.em (nI 4) (-nI 1), fun S2 eT => ?_⟩
    rw [hh.same] at eT ⊢
    rw [E_66 _ _ _ rfl]
    unfold emS at eT eE
    simp (disch := omega) only [q_66_0, q_66_1, q_66_4, q_66_5, q_66_8, q_66_11, q_66_12, q_66_13, q_66_16, q_66_17, q_66_20, q_66_23, q_66_24, q_66_25, q_66_28, q_66_31, q_66_32, q_66_35, q_66_36, q_66_39, q_66_40, q_66_41, q_66_42, q_66_45, q_66_46, q_66_47, q_66_50, og_4_9, og_4_11, o_is, o_ob, ofs_len4, ↓reduceIte, k_cr, k_ci, k_oR, k_oN, k_aR, k_aN, and_true, true_and, and_self, eq_self, Nat.reduceLT, Nat.reduceLeDiff, Nat.reduceEqDiff, Nat.reduceAdd, Nat.reduceMul, Bool.true_eq_false, Bool.false_eq_true, Nat.add_sub_cancel, Nat.not_lt_zero, Nat.zero_le, k_sub, k_sb1, k_r, k_n, k_ret, k_t1, k_t0, k_nr, k_nn, k_z0, k_z1, k_zb, x_okI, lit_nI, k_in, k_cl, k_lt, k_le, k_eq, k_neg, nI_add, nI_mul, k_clt, k_cgt, k_cle, k_cge, k_ceq, bI_0, k_sh8, ne_eq, Nat.add_eq_zero_iff, Nat.one_ne_zero, Nat.succ_ne_zero, and_false, false_and, not_false_eq_true, not_true_eq_false, ite_true, ite_false, if_true, if_false, iK, iA, sI_uI, sJ_uI, sA_uI, sL_uI, sR_uI, sQ_uI, sI_uJ, sJ_uJ, sA_uJ, sL_uJ, sR_uJ, sQ_uJ, sI_uA, sJ_uA, sA_uA, sL_uA, sR_uA, sQ_uA, sI_uL, sJ_uL, sA_uL, sL_uL, sR_uL, sQ_uL, sI_uR, sJ_uR, sA_uR, sL_uR, sR_uR, sQ_uR, sI_uQ, sJ_uQ, sA_uQ, sL_uQ, sR_uQ, sQ_uQ, oI, bI_f, r9, r11, eW, eF, eR, eP, eN, eM, eE, eT]
  | some m =>
    obtain ⟨m1, m2⟩ := eC_lt hs hm
    rw [hm] at eF
    have eR := k_isRow (Q := Q) (S := S) d hs hh m1
    show ∃ T' S1, _ ∧ cV P κ A S0 S1 i (mnF (if (eC SK nO).2.1 m = true then [] else [p.2.1 i]) z) (C ++ [(nI 4, nI m)]) ∧ _
    cases hro : (eC SK nO).2.1 m with
    | true =>
      rw [hro, bI_t] at eR
      rw [if_pos rfl]
      have eM := k_mention (Q := Q) (S := S) d hs hh m2
      have eE := k_emit (Q := Q) (h := oh 3 h A (uA T 6 m (nI 1))) d (c := nI 4) (o := nI m) hv.2.2.2.2.2.2.2.1.1 hl
      refine ⟨_, _, keV.one (Or.inr (Or.inr rfl)) hm, hv.em (nI 4) (nI m), fun S2 eT => ?_⟩
      rw [E_66 _ _ _ rfl]
      unfold emS at eT eE
      simp (disch := omega) only [q_66_0, q_66_1, q_66_4, q_66_5, q_66_8, q_66_11, q_66_12, q_66_13, q_66_16, q_66_17, q_66_20, q_66_23, q_66_24, q_66_25, q_66_28, q_66_31, q_66_32, q_66_35, q_66_36, q_66_39, q_66_40, q_66_41, q_66_42, q_66_45, q_66_46, q_66_47, q_66_50, og_4_9, og_4_11, o_is, o_ob, ofs_len4, ↓reduceIte, k_cr, k_ci, k_oR, k_oN, k_aR, k_aN, and_true, true_and, and_self, eq_self, Nat.reduceLT, Nat.reduceLeDiff, Nat.reduceEqDiff, Nat.reduceAdd, Nat.reduceMul, Bool.true_eq_false, Bool.false_eq_true, Nat.add_sub_cancel, Nat.not_lt_zero, Nat.zero_le, k_sub, k_sb1, k_r, k_n, k_ret, k_t1, k_t0, k_nr, k_nn, k_z0, k_z1, k_zb, x_okI, lit_nI, k_in, k_cl, k_lt, k_le, k_eq, k_neg, nI_add, nI_mul, k_clt, k_cgt, k_cle, k_cge, k_ceq, bI_0, k_sh8, ne_eq, Nat.add_eq_zero_iff, Nat.one_ne_zero, Nat.succ_ne_zero, and_false, false_and, not_false_eq_true, not_true_eq_false, ite_true, ite_false, if_true, if_false, iK, iA, sI_uI, sJ_uI, sA_uI, sL_uI, sR_uI, sQ_uI, sI_uJ, sJ_uJ, sA_uJ, sL_uJ, sR_uJ, sQ_uJ, sI_uA, sJ_uA, sA_uA, sL_uA, sR_uA, sQ_uA, sI_uL, sJ_uL, sA_uL, sL_uL, sR_uL, sQ_uL, sI_uR, sJ_uR, sA_uR, sL_uR, sR_uR, sQ_uR, sI_uQ, sJ_uQ, sA_uQ, sL_uQ, sR_uQ, sQ_uQ, oI, r9, r11, eW, eF, eR, eM, eE, eT]
    | false =>
      rw [hro, bI_f] at eR
      rw [if_neg (by decide)]
      have eP := k_place d hs hh r0 hv.2.2.2.1 hi
      have eN := k_note (Q := Q) (h := h) (S := S) d hv.2.2.2.2.2.1 hv.2.2.2.2.2.2.1 (show p.2.1 i ≤ 701 by omega)
      have v1 := hv.no (p.2.1 i)
      have eM := k_mention (Q := Q) (S := uI S 15 (nI (min z (p.2.1 i)))) d hs hh m2
      have eE := k_emit (Q := Q) (h := oh 3 h A (uA T 6 m (nI 1))) d (c := nI 4) (o := nI m) v1.2.2.2.2.2.2.2.1.1 hl
      refine ⟨_, _, keV.one (Or.inr (Or.inr rfl)) hm, v1.em (nI 4) (nI m), fun S2 eT => ?_⟩
      rw [E_66 _ _ _ rfl]
      unfold emS at eT eE
      simp (disch := omega) only [q_66_0, q_66_1, q_66_4, q_66_5, q_66_8, q_66_11, q_66_12, q_66_13, q_66_16, q_66_17, q_66_20, q_66_23, q_66_24, q_66_25, q_66_28, q_66_31, q_66_32, q_66_35, q_66_36, q_66_39, q_66_40, q_66_41, q_66_42, q_66_45, q_66_46, q_66_47, q_66_50, og_4_9, og_4_11, o_is, o_ob, ofs_len4, ↓reduceIte, k_cr, k_ci, k_oR, k_oN, k_aR, k_aN, and_true, true_and, and_self, eq_self, Nat.reduceLT, Nat.reduceLeDiff, Nat.reduceEqDiff, Nat.reduceAdd, Nat.reduceMul, Bool.true_eq_false, Bool.false_eq_true, Nat.add_sub_cancel, Nat.not_lt_zero, Nat.zero_le, k_sub, k_sb1, k_r, k_n, k_ret, k_t1, k_t0, k_nr, k_nn, k_z0, k_z1, k_zb, x_okI, lit_nI, k_in, k_cl, k_lt, k_le, k_eq, k_neg, nI_add, nI_mul, k_clt, k_cgt, k_cle, k_cge, k_ceq, bI_0, k_sh8, ne_eq, Nat.add_eq_zero_iff, Nat.one_ne_zero, Nat.succ_ne_zero, and_false, false_and, not_false_eq_true, not_true_eq_false, ite_true, ite_false, if_true, if_false, iK, iA, sI_uI, sJ_uI, sA_uI, sL_uI, sR_uI, sQ_uI, sI_uJ, sJ_uJ, sA_uJ, sL_uJ, sR_uJ, sQ_uJ, sI_uA, sJ_uA, sA_uA, sL_uA, sR_uA, sQ_uA, sI_uL, sJ_uL, sA_uL, sL_uL, sR_uL, sQ_uL, sI_uR, sJ_uR, sA_uR, sL_uR, sR_uR, sQ_uR, sI_uQ, sJ_uQ, sA_uQ, sL_uQ, sR_uQ, sQ_uQ, oI, r9, r11, eW, eF, eR, eP, eN, eM, eE, eT]
theorem i_lt6 (x : Int32) : (x < nI 6) = (x ≤ nI 5) := by
  apply propext
  rw [Int32.lt_iff_toInt_lt, Int32.le_iff_toInt_le]
  have a : (nI 6).toInt = 6 := by decide
  have b : (nI 5).toInt = 5 := by decide
  omega
/-- readNamed as far as the [ or what else follows -/
theorem k_named (d : Nat) {Q P κ A : Nat} {SP SK T : gS} {nO N : Nat} {p : pP} {h : xH} {S0 S : gS} {i z k : Nat} {C : List cT} (pk : Bool) (hs : cS Q P κ A SP SK nO N p) (hh : cH P κ A SP SK T h) (hv : cV P κ A S0 S i z C) (hi : i < N) (hpk : decide (p.1 (i + 1) = nI 91) = pk) : ∃ T' S1, keV (eC SK nO) [(if pk then nI 4 else nI 3, p.2.2 i, p.2.1 i)] T T' ∧ cV P κ A S0 S1 (i + 1) (mnF (actB (eC SK nO) (if pk then nI 4 else nI 3, p.2.2 i, p.2.1 i)) z) C ∧ xm (d + 2) 64 [.ref Q, .int (nI k)] (oh 4 h Q S) = xrun (d + 1) 64 87 [(1, .ref Q), (1, .int (nI k)), (1, .int (oI ((eC SK nO).1 (p.2.2 i)))), (1, .int (nI (p.2.1 i))), (1, .int (bI pk))] [] (oh 4 (oh 3 h A T') Q S1) := by
  obtain ⟨r0, r9, r11⟩ := hv.r
  have h7 := hs.2.2.2.2.2.2.2.1.1
  have hpl := hs.2.2.2.2.2.2.2.2.2 i
  have iK := k_isK hs hh
  have iA := k_isA hs hh
  have h13 := hv.2.2.2.1
  have eW := k_word d hs hh r0 h13 (by omega)
  have eF := k_find (Q := Q) (S := S) d (w := p.2.2 i) hs hh
  have eP := k_place d hs hh r0 h13 (by omega)
  have v1 := hv.at (i + 1)
  obtain ⟨q0, q9, q11⟩ := v1.r
  have eK := k_kind d hs hh q0 v1.2.2.2.1 (show i + 1 ≤ N from hi)
  have eN := k_note (Q := Q) (h := h) (S := uI S 13 (nI (i + 1))) d v1.2.2.2.2.2.1 v1.2.2.2.2.2.2.1 (show p.2.1 i ≤ 701 by omega)
  have v2 := v1.no (p.2.1 i)
  have ck : (cK p (i + 1) = nI 91) = (p.1 (i + 1) = nI 91) := propext (cK_c (by decide))
  have eAct : actB (eC SK nO) (if pk then nI 4 else nI 3, p.2.2 i, p.2.1 i) = (match (eC SK nO).1 (p.2.2 i) with
      | none => [p.2.1 i]
      | some m => if (!(eC SK nO).2.2 m && decide ((eC SK nO).2.1 m = pk)) = true then [] else [p.2.1 i]) := by
    cases pk
    · rw [if_neg (by decide), actB_3]
      cases (eC SK nO).1 (p.2.2 i) with
      | none => rfl
      | some m =>
        show (if (!(eC SK nO).2.2 m && !(eC SK nO).2.1 m) = true then _ else _) = (if (!(eC SK nO).2.2 m && decide ((eC SK nO).2.1 m = false)) = true then _ else _)
        cases (eC SK nO).2.1 m <;> rfl
    · rw [if_pos rfl, actB_4]
      cases (eC SK nO).1 (p.2.2 i) with
      | none => rfl
      | some m =>
        show (if (!(eC SK nO).2.2 m && (eC SK nO).2.1 m) = true then _ else _) = (if (!(eC SK nO).2.2 m && decide ((eC SK nO).2.1 m = true)) = true then _ else _)
        cases (eC SK nO).2.1 m <;> rfl
  have ha : ((if pk then nI 4 else nI 3, p.2.2 i, p.2.1 i) : aT).1 = nI 3 ∨ ((if pk then nI 4 else nI 3, p.2.2 i, p.2.1 i) : aT).1 = nI 4 ∨ ((if pk then nI 4 else nI 3, p.2.2 i, p.2.1 i) : aT).1 = nI 5 := by
    cases pk
    · exact Or.inl rfl
    · exact Or.inr (Or.inl rfl)
  rw [eAct]
  cases hm : (eC SK nO).1 (p.2.2 i) with
  | none =>
    rw [hm] at eF
    have eM := k_mentionN (Q := Q) (S := uI (uI S 13 (nI (i + 1))) 15 (nI (min z (p.2.1 i)))) d hs hh
    refine ⟨T, _, keV.none hm, v2, ?_⟩
    rw [hh.same, E_64 _ _ _ _ rfl]
    cases pk
    · have hc := of_decide_eq_false hpk
      simp (disch := omega) only [q_64_0, q_64_1, q_64_4, q_64_5, q_64_8, q_64_11, q_64_12, q_64_13, q_64_16, q_64_17, q_64_18, q_64_19, q_64_22, q_64_23, q_64_24, q_64_27, q_64_28, q_64_31, q_64_33, q_64_36, q_64_37, q_64_40, q_64_41, q_64_43, q_64_44, q_64_45, q_64_48, q_64_49, q_64_52, q_64_53, q_64_56, q_64_58, q_64_61, q_64_62, q_64_65, q_64_66, q_64_69, q_64_71, q_64_74, q_64_75, q_64_76, q_64_79, q_64_80, q_64_83, q_64_84, og_4_9, og_4_13, op_4_13, og_4_11, og_4_14, op_4_14, o_is, o_ob, ofs_len4, ↓reduceIte, k_cr, k_ci, k_oR, k_oN, k_aR, k_aN, and_true, true_and, and_self, eq_self, Nat.reduceLT, Nat.reduceLeDiff, Nat.reduceEqDiff, Nat.reduceAdd, Nat.reduceMul, Bool.true_eq_false, Bool.false_eq_true, Nat.add_sub_cancel, Nat.not_lt_zero, Nat.zero_le, k_sub, k_sb1, k_r, k_n, k_ret, k_t1, k_t0, k_nr, k_nn, k_z0, k_z1, k_zb, x_okI, lit_nI, k_in, k_cl, k_lt, k_le, k_eq, k_neg, nI_add, nI_mul, k_clt, k_cgt, k_cle, k_cge, k_ceq, bI_0, k_sh8, ne_eq, Nat.add_eq_zero_iff, Nat.one_ne_zero, Nat.succ_ne_zero, and_false, false_and, not_false_eq_true, not_true_eq_false, ite_true, ite_false, if_true, if_false, iK, iA, sI_uI, sJ_uI, sA_uI, sL_uI, sR_uI, sQ_uI, sI_uJ, sJ_uJ, sA_uJ, sL_uJ, sR_uJ, sQ_uJ, sI_uA, sJ_uA, sA_uA, sL_uA, sR_uA, sQ_uA, sI_uL, sJ_uL, sA_uL, sL_uL, sR_uL, sQ_uL, sI_uR, sJ_uR, sA_uR, sL_uR, sR_uR, sQ_uR, sI_uQ, sJ_uQ, sA_uQ, sL_uQ, sR_uQ, sQ_uQ, oI, bI_f, ck, hc, r9, r11, q9, q11, h13, eW, eF, eP, eK, eN, eM]
    · have hc := of_decide_eq_true hpk
      simp (disch := omega) only [q_64_0, q_64_1, q_64_4, q_64_5, q_64_8, q_64_11, q_64_12, q_64_13, q_64_16, q_64_17, q_64_18, q_64_19, q_64_22, q_64_23, q_64_24, q_64_27, q_64_28, q_64_31, q_64_33, q_64_36, q_64_37, q_64_40, q_64_41, q_64_43, q_64_44, q_64_45, q_64_48, q_64_49, q_64_52, q_64_53, q_64_56, q_64_58, q_64_61, q_64_62, q_64_65, q_64_66, q_64_69, q_64_71, q_64_74, q_64_75, q_64_76, q_64_79, q_64_80, q_64_83, q_64_84, og_4_9, og_4_13, op_4_13, og_4_11, og_4_14, op_4_14, o_is, o_ob, ofs_len4, ↓reduceIte, k_cr, k_ci, k_oR, k_oN, k_aR, k_aN, and_true, true_and, and_self, eq_self, Nat.reduceLT, Nat.reduceLeDiff, Nat.reduceEqDiff, Nat.reduceAdd, Nat.reduceMul, Bool.true_eq_false, Bool.false_eq_true, Nat.add_sub_cancel, Nat.not_lt_zero, Nat.zero_le, k_sub, k_sb1, k_r, k_n, k_ret, k_t1, k_t0, k_nr, k_nn, k_z0, k_z1, k_zb, x_okI, lit_nI, k_in, k_cl, k_lt, k_le, k_eq, k_neg, nI_add, nI_mul, k_clt, k_cgt, k_cle, k_cge, k_ceq, bI_0, k_sh8, ne_eq, Nat.add_eq_zero_iff, Nat.one_ne_zero, Nat.succ_ne_zero, and_false, false_and, not_false_eq_true, not_true_eq_false, ite_true, ite_false, if_true, if_false, iK, iA, sI_uI, sJ_uI, sA_uI, sL_uI, sR_uI, sQ_uI, sI_uJ, sJ_uJ, sA_uJ, sL_uJ, sR_uJ, sQ_uJ, sI_uA, sJ_uA, sA_uA, sL_uA, sR_uA, sQ_uA, sI_uL, sJ_uL, sA_uL, sL_uL, sR_uL, sQ_uL, sI_uR, sJ_uR, sA_uR, sL_uR, sR_uR, sQ_uR, sI_uQ, sJ_uQ, sA_uQ, sL_uQ, sR_uQ, sQ_uQ, oI, bI_t, ck, hc, r9, r11, q9, q11, h13, eW, eF, eP, eK, eN, eM]
  | some m =>
    obtain ⟨m1, m2⟩ := eC_lt hs hm
    rw [hm] at eF
    have eR := k_isRow (Q := Q) (S := uI S 13 (nI (i + 1))) d hs hh m1
    have eT := k_typeAt (Q := Q) (S := uI S 13 (nI (i + 1))) d hs hh m1
    have hx : (eC SK nO).2.2 m = decide (¬ sA SK 2 m ≤ nI 5) := rfl
    show ∃ T' S1, _ ∧ cV P κ A S0 S1 (i + 1) (mnF (if (!(eC SK nO).2.2 m && decide ((eC SK nO).2.1 m = pk)) = true then [] else [p.2.1 i]) z) C ∧ _
    rw [hx]
    generalize (eC SK nO).2.1 m = ro at *
    by_cases hg : sA SK 2 m ≤ nI 5 ∧ ro = pk
    · have hg1 := hg.1
      have hg2 := hg.2
      subst hg2
      have cnd : (!decide (¬ sA SK 2 m ≤ nI 5) && decide (ro = ro)) = true := by
        rw [decide_eq_false (not_not_intro hg1), decide_eq_true rfl]
        rfl
      rw [if_pos cnd]
      have eM := k_mention (Q := Q) (S := uI S 13 (nI (i + 1))) d hs hh m2
      refine ⟨_, _, keV.one ha hm, v1, ?_⟩
      rw [E_64 _ _ _ _ rfl]
      cases ro
      · have hc := of_decide_eq_false hpk
        simp (disch := omega) only [q_64_0, q_64_1, q_64_4, q_64_5, q_64_8, q_64_11, q_64_12, q_64_13, q_64_16, q_64_17, q_64_18, q_64_19, q_64_22, q_64_23, q_64_24, q_64_27, q_64_28, q_64_31, q_64_33, q_64_36, q_64_37, q_64_40, q_64_41, q_64_43, q_64_44, q_64_45, q_64_48, q_64_49, q_64_52, q_64_53, q_64_56, q_64_58, q_64_61, q_64_62, q_64_65, q_64_66, q_64_69, q_64_71, q_64_74, q_64_75, q_64_76, q_64_79, q_64_80, q_64_83, q_64_84, og_4_9, og_4_13, op_4_13, og_4_11, og_4_14, op_4_14, o_is, o_ob, ofs_len4, ↓reduceIte, k_cr, k_ci, k_oR, k_oN, k_aR, k_aN, and_true, true_and, and_self, eq_self, Nat.reduceLT, Nat.reduceLeDiff, Nat.reduceEqDiff, Nat.reduceAdd, Nat.reduceMul, Bool.true_eq_false, Bool.false_eq_true, Nat.add_sub_cancel, Nat.not_lt_zero, Nat.zero_le, k_sub, k_sb1, k_r, k_n, k_ret, k_t1, k_t0, k_nr, k_nn, k_z0, k_z1, k_zb, x_okI, lit_nI, k_in, k_cl, k_lt, k_le, k_eq, k_neg, nI_add, nI_mul, k_clt, k_cgt, k_cle, k_cge, k_ceq, bI_0, k_sh8, ne_eq, Nat.add_eq_zero_iff, Nat.one_ne_zero, Nat.succ_ne_zero, and_false, false_and, not_false_eq_true, not_true_eq_false, ite_true, ite_false, if_true, if_false, iK, iA, sI_uI, sJ_uI, sA_uI, sL_uI, sR_uI, sQ_uI, sI_uJ, sJ_uJ, sA_uJ, sL_uJ, sR_uJ, sQ_uJ, sI_uA, sJ_uA, sA_uA, sL_uA, sR_uA, sQ_uA, sI_uL, sJ_uL, sA_uL, sL_uL, sR_uL, sQ_uL, sI_uR, sJ_uR, sA_uR, sL_uR, sR_uR, sQ_uR, sI_uQ, sJ_uQ, sA_uQ, sL_uQ, sR_uQ, sQ_uQ, oI, bI_f, ck, hc, i_lt6, hg1, r9, r11, q9, q11, h13, eW, eF, eP, eK, eR, eT, eM]
      · have hc := of_decide_eq_true hpk
        simp (disch := omega) only [q_64_0, q_64_1, q_64_4, q_64_5, q_64_8, q_64_11, q_64_12, q_64_13, q_64_16, q_64_17, q_64_18, q_64_19, q_64_22, q_64_23, q_64_24, q_64_27, q_64_28, q_64_31, q_64_33, q_64_36, q_64_37, q_64_40, q_64_41, q_64_43, q_64_44, q_64_45, q_64_48, q_64_49, q_64_52, q_64_53, q_64_56, q_64_58, q_64_61, q_64_62, q_64_65, q_64_66, q_64_69, q_64_71, q_64_74, q_64_75, q_64_76, q_64_79, q_64_80, q_64_83, q_64_84, og_4_9, og_4_13, op_4_13, og_4_11, og_4_14, op_4_14, o_is, o_ob, ofs_len4, ↓reduceIte, k_cr, k_ci, k_oR, k_oN, k_aR, k_aN, and_true, true_and, and_self, eq_self, Nat.reduceLT, Nat.reduceLeDiff, Nat.reduceEqDiff, Nat.reduceAdd, Nat.reduceMul, Bool.true_eq_false, Bool.false_eq_true, Nat.add_sub_cancel, Nat.not_lt_zero, Nat.zero_le, k_sub, k_sb1, k_r, k_n, k_ret, k_t1, k_t0, k_nr, k_nn, k_z0, k_z1, k_zb, x_okI, lit_nI, k_in, k_cl, k_lt, k_le, k_eq, k_neg, nI_add, nI_mul, k_clt, k_cgt, k_cle, k_cge, k_ceq, bI_0, k_sh8, ne_eq, Nat.add_eq_zero_iff, Nat.one_ne_zero, Nat.succ_ne_zero, and_false, false_and, not_false_eq_true, not_true_eq_false, ite_true, ite_false, if_true, if_false, iK, iA, sI_uI, sJ_uI, sA_uI, sL_uI, sR_uI, sQ_uI, sI_uJ, sJ_uJ, sA_uJ, sL_uJ, sR_uJ, sQ_uJ, sI_uA, sJ_uA, sA_uA, sL_uA, sR_uA, sQ_uA, sI_uL, sJ_uL, sA_uL, sL_uL, sR_uL, sQ_uL, sI_uR, sJ_uR, sA_uR, sL_uR, sR_uR, sQ_uR, sI_uQ, sJ_uQ, sA_uQ, sL_uQ, sR_uQ, sQ_uQ, oI, bI_t, ck, hc, i_lt6, hg1, r9, r11, q9, q11, h13, eW, eF, eP, eK, eR, eT, eM]
    · have cnd : ¬ (!decide (¬ sA SK 2 m ≤ nI 5) && decide (ro = pk)) = true := by
        intro z
        rw [Bool.and_eq_true, Bool.not_eq_true', decide_eq_false_iff_not, decide_eq_true_eq] at z
        exact hg ⟨Decidable.not_not.mp z.1, z.2⟩
      rw [if_neg cnd]
      have eM := k_mention (Q := Q) (S := uI (uI S 13 (nI (i + 1))) 15 (nI (min z (p.2.1 i)))) d hs hh m2
      refine ⟨_, _, keV.one ha hm, v2, ?_⟩
      rw [E_64 _ _ _ _ rfl]
      by_cases hg1 : sA SK 2 m ≤ nI 5
      · have hg2 : ¬ ro = pk := fun z => hg ⟨hg1, z⟩
        cases pk
        · have hc := of_decide_eq_false hpk
          cases ro
          · exact absurd rfl hg2
          · simp (disch := omega) only [q_64_0, q_64_1, q_64_4, q_64_5, q_64_8, q_64_11, q_64_12, q_64_13, q_64_16, q_64_17, q_64_18, q_64_19, q_64_22, q_64_23, q_64_24, q_64_27, q_64_28, q_64_31, q_64_33, q_64_36, q_64_37, q_64_40, q_64_41, q_64_43, q_64_44, q_64_45, q_64_48, q_64_49, q_64_52, q_64_53, q_64_56, q_64_58, q_64_61, q_64_62, q_64_65, q_64_66, q_64_69, q_64_71, q_64_74, q_64_75, q_64_76, q_64_79, q_64_80, q_64_83, q_64_84, og_4_9, og_4_13, op_4_13, og_4_11, og_4_14, op_4_14, o_is, o_ob, ofs_len4, ↓reduceIte, k_cr, k_ci, k_oR, k_oN, k_aR, k_aN, and_true, true_and, and_self, eq_self, Nat.reduceLT, Nat.reduceLeDiff, Nat.reduceEqDiff, Nat.reduceAdd, Nat.reduceMul, Bool.true_eq_false, Bool.false_eq_true, Nat.add_sub_cancel, Nat.not_lt_zero, Nat.zero_le, k_sub, k_sb1, k_r, k_n, k_ret, k_t1, k_t0, k_nr, k_nn, k_z0, k_z1, k_zb, x_okI, lit_nI, k_in, k_cl, k_lt, k_le, k_eq, k_neg, nI_add, nI_mul, k_clt, k_cgt, k_cle, k_cge, k_ceq, bI_0, k_sh8, ne_eq, Nat.add_eq_zero_iff, Nat.one_ne_zero, Nat.succ_ne_zero, and_false, false_and, not_false_eq_true, not_true_eq_false, ite_true, ite_false, if_true, if_false, iK, iA, sI_uI, sJ_uI, sA_uI, sL_uI, sR_uI, sQ_uI, sI_uJ, sJ_uJ, sA_uJ, sL_uJ, sR_uJ, sQ_uJ, sI_uA, sJ_uA, sA_uA, sL_uA, sR_uA, sQ_uA, sI_uL, sJ_uL, sA_uL, sL_uL, sR_uL, sQ_uL, sI_uR, sJ_uR, sA_uR, sL_uR, sR_uR, sQ_uR, sI_uQ, sJ_uQ, sA_uQ, sL_uQ, sR_uQ, sQ_uQ, oI, bI_f, bI_t, ck, hc, i_lt6, hg1, r9, r11, q9, q11, h13, eW, eF, eP, eK, eR, eT, eN, eM]
        · have hc := of_decide_eq_true hpk
          cases ro
          · simp (disch := omega) only [q_64_0, q_64_1, q_64_4, q_64_5, q_64_8, q_64_11, q_64_12, q_64_13, q_64_16, q_64_17, q_64_18, q_64_19, q_64_22, q_64_23, q_64_24, q_64_27, q_64_28, q_64_31, q_64_33, q_64_36, q_64_37, q_64_40, q_64_41, q_64_43, q_64_44, q_64_45, q_64_48, q_64_49, q_64_52, q_64_53, q_64_56, q_64_58, q_64_61, q_64_62, q_64_65, q_64_66, q_64_69, q_64_71, q_64_74, q_64_75, q_64_76, q_64_79, q_64_80, q_64_83, q_64_84, og_4_9, og_4_13, op_4_13, og_4_11, og_4_14, op_4_14, o_is, o_ob, ofs_len4, ↓reduceIte, k_cr, k_ci, k_oR, k_oN, k_aR, k_aN, and_true, true_and, and_self, eq_self, Nat.reduceLT, Nat.reduceLeDiff, Nat.reduceEqDiff, Nat.reduceAdd, Nat.reduceMul, Bool.true_eq_false, Bool.false_eq_true, Nat.add_sub_cancel, Nat.not_lt_zero, Nat.zero_le, k_sub, k_sb1, k_r, k_n, k_ret, k_t1, k_t0, k_nr, k_nn, k_z0, k_z1, k_zb, x_okI, lit_nI, k_in, k_cl, k_lt, k_le, k_eq, k_neg, nI_add, nI_mul, k_clt, k_cgt, k_cle, k_cge, k_ceq, bI_0, k_sh8, ne_eq, Nat.add_eq_zero_iff, Nat.one_ne_zero, Nat.succ_ne_zero, and_false, false_and, not_false_eq_true, not_true_eq_false, ite_true, ite_false, if_true, if_false, iK, iA, sI_uI, sJ_uI, sA_uI, sL_uI, sR_uI, sQ_uI, sI_uJ, sJ_uJ, sA_uJ, sL_uJ, sR_uJ, sQ_uJ, sI_uA, sJ_uA, sA_uA, sL_uA, sR_uA, sQ_uA, sI_uL, sJ_uL, sA_uL, sL_uL, sR_uL, sQ_uL, sI_uR, sJ_uR, sA_uR, sL_uR, sR_uR, sQ_uR, sI_uQ, sJ_uQ, sA_uQ, sL_uQ, sR_uQ, sQ_uQ, oI, bI_f, bI_t, ck, hc, i_lt6, hg1, r9, r11, q9, q11, h13, eW, eF, eP, eK, eR, eT, eN, eM]
          · exact absurd rfl hg2
      · cases pk
        · have hc := of_decide_eq_false hpk
          cases ro <;> simp (disch := omega) only [q_64_0, q_64_1, q_64_4, q_64_5, q_64_8, q_64_11, q_64_12, q_64_13, q_64_16, q_64_17, q_64_18, q_64_19, q_64_22, q_64_23, q_64_24, q_64_27, q_64_28, q_64_31, q_64_33, q_64_36, q_64_37, q_64_40, q_64_41, q_64_43, q_64_44, q_64_45, q_64_48, q_64_49, q_64_52, q_64_53, q_64_56, q_64_58, q_64_61, q_64_62, q_64_65, q_64_66, q_64_69, q_64_71, q_64_74, q_64_75, q_64_76, q_64_79, q_64_80, q_64_83, q_64_84, og_4_9, og_4_13, op_4_13, og_4_11, og_4_14, op_4_14, o_is, o_ob, ofs_len4, ↓reduceIte, k_cr, k_ci, k_oR, k_oN, k_aR, k_aN, and_true, true_and, and_self, eq_self, Nat.reduceLT, Nat.reduceLeDiff, Nat.reduceEqDiff, Nat.reduceAdd, Nat.reduceMul, Bool.true_eq_false, Bool.false_eq_true, Nat.add_sub_cancel, Nat.not_lt_zero, Nat.zero_le, k_sub, k_sb1, k_r, k_n, k_ret, k_t1, k_t0, k_nr, k_nn, k_z0, k_z1, k_zb, x_okI, lit_nI, k_in, k_cl, k_lt, k_le, k_eq, k_neg, nI_add, nI_mul, k_clt, k_cgt, k_cle, k_cge, k_ceq, bI_0, k_sh8, ne_eq, Nat.add_eq_zero_iff, Nat.one_ne_zero, Nat.succ_ne_zero, and_false, false_and, not_false_eq_true, not_true_eq_false, ite_true, ite_false, if_true, if_false, iK, iA, sI_uI, sJ_uI, sA_uI, sL_uI, sR_uI, sQ_uI, sI_uJ, sJ_uJ, sA_uJ, sL_uJ, sR_uJ, sQ_uJ, sI_uA, sJ_uA, sA_uA, sL_uA, sR_uA, sQ_uA, sI_uL, sJ_uL, sA_uL, sL_uL, sR_uL, sQ_uL, sI_uR, sJ_uR, sA_uR, sL_uR, sR_uR, sQ_uR, sI_uQ, sJ_uQ, sA_uQ, sL_uQ, sR_uQ, sQ_uQ, oI, bI_f, bI_t, ck, hc, i_lt6, hg1, r9, r11, q9, q11, h13, eW, eF, eP, eK, eR, eT, eN, eM]
        · have hc := of_decide_eq_true hpk
          cases ro <;> simp (disch := omega) only [q_64_0, q_64_1, q_64_4, q_64_5, q_64_8, q_64_11, q_64_12, q_64_13, q_64_16, q_64_17, q_64_18, q_64_19, q_64_22, q_64_23, q_64_24, q_64_27, q_64_28, q_64_31, q_64_33, q_64_36, q_64_37, q_64_40, q_64_41, q_64_43, q_64_44, q_64_45, q_64_48, q_64_49, q_64_52, q_64_53, q_64_56, q_64_58, q_64_61, q_64_62, q_64_65, q_64_66, q_64_69, q_64_71, q_64_74, q_64_75, q_64_76, q_64_79, q_64_80, q_64_83, q_64_84, og_4_9, og_4_13, op_4_13, og_4_11, og_4_14, op_4_14, o_is, o_ob, ofs_len4, ↓reduceIte, k_cr, k_ci, k_oR, k_oN, k_aR, k_aN, and_true, true_and, and_self, eq_self, Nat.reduceLT, Nat.reduceLeDiff, Nat.reduceEqDiff, Nat.reduceAdd, Nat.reduceMul, Bool.true_eq_false, Bool.false_eq_true, Nat.add_sub_cancel, Nat.not_lt_zero, Nat.zero_le, k_sub, k_sb1, k_r, k_n, k_ret, k_t1, k_t0, k_nr, k_nn, k_z0, k_z1, k_zb, x_okI, lit_nI, k_in, k_cl, k_lt, k_le, k_eq, k_neg, nI_add, nI_mul, k_clt, k_cgt, k_cle, k_cge, k_ceq, bI_0, k_sh8, ne_eq, Nat.add_eq_zero_iff, Nat.one_ne_zero, Nat.succ_ne_zero, and_false, false_and, not_false_eq_true, not_true_eq_false, ite_true, ite_false, if_true, if_false, iK, iA, sI_uI, sJ_uI, sA_uI, sL_uI, sR_uI, sQ_uI, sI_uJ, sJ_uJ, sA_uJ, sL_uJ, sR_uJ, sQ_uJ, sI_uA, sJ_uA, sA_uA, sL_uA, sR_uA, sQ_uA, sI_uL, sJ_uL, sA_uL, sL_uL, sR_uL, sQ_uL, sI_uR, sJ_uR, sA_uR, sL_uR, sR_uR, sQ_uR, sI_uQ, sJ_uQ, sA_uQ, sL_uQ, sR_uQ, sQ_uQ, oI, bI_f, bI_t, ck, hc, i_lt6, hg1, r9, r11, q9, q11, h13, eW, eF, eP, eK, eR, eT, eN, eM]
