/-! The class: readWork, readRule. -/
theorem cX.no {P κ A : Nat} {S0 S : gS} {q : Nat} (hx : cX P κ A S0 S q) (d : Nat) (Q : Nat) (h : xH) {a : Nat} (ha : a ≤ 701) : ∃ S', xm (d + 1) 51 [.ref Q, .int (nI a)] (oh 4 h Q S) = some (none, oh 4 h Q S') ∧ cX P κ A S0 S' q := by
  obtain ⟨h1, h2, h3, h4, h5, ⟨z, hz, hz7⟩, h7, h8⟩ := hx
  exact ⟨_, k_note d hz hz7 ha, h1, h2, h3, h4, h5, ⟨min z a, rfl, Nat.le_trans (Nat.min_le_left _ _) hz7⟩, h7, h8.uI (by decide)⟩
theorem k_kindAt (d : Nat) {Q P κ A : Nat} {SP SK T : gS} {nO N : Nat} {p : pP} {h : xH} {S : gS} {i : Nat} (hs : cS Q P κ A SP SK nO N p) (hh : cH P κ A SP SK T h) (h3 : sI SP 3 = nI (N + 1)) (hi : i ≤ N) : xm (d + 1) 60 [.ref P, .int (nI i)] (oh 4 h Q S) = some (some (.int (cK p i)), oh 4 h Q S) := by
  have h7 := hs.2.2.2.2.2.2.2.1.1
  rw [c_pkindAt d (oh 4 h Q S) P (N + 1) i SP (hh.1.frame hs.1) h3 (by omega) (by omega), if_pos (by omega), (hs.2.2.2.2.2.2.1 i hi).1]
theorem n_copy (d : Nat) {Q P κ A κN : Nat} {SP SK SN T : gS} {nO nN N : Nat} {p : pP} {h : xH} {S : gS} {s m : Nat} (hs : cS2 Q P κ A κN SP SK SN nO nN N p) (hh : cH2 P κ A κN SP SK SN T h) (h8 : s < 8) (hm : m < 8) : xm (d + 1) 55 [.ref A, .int (nI s), .int (nI m)] (oh 4 h Q S) = some (none, oh 4 (oh 3 h A (uA (uA T 1 s (nI m)) 6 m (nI 1))) Q S) := by
  rw [c_mcopy d (oh 4 h Q S) A s m T (hh.1.2.2.frame hs.1.2.2.1) h8 hm, oh_comm hs.1.2.2.1.symm]
theorem n_copyN (d : Nat) {Q P κ A κN : Nat} {SP SK SN T : gS} {nO nN N : Nat} {p : pP} {h : xH} {S : gS} {s m : Option Nat} (hs : cS2 Q P κ A κN SP SK SN nO nN N p) (hh : cH2 P κ A κN SP SK SN T h) (h8 : ∀ x, s = some x → x < 9) (hn : s = none ∨ m = none) (hm : ∀ x, m = some x → x < 8) : xm (d + 1) 55 [.ref A, .int (oI s), .int (oI m)] (oh 4 h Q S) = some (none, oh 4 h Q S) := by
  have HA := hh.1.2.2.frame (S := S) hs.1.2.2.1
  rw [E_55 _ _ _ _ _ rfl]
  have l0 : (-nI 1 : Int32) < nI 0 := by decide
  rcases hn with e | e
  · subst e
    simp (disch := omega) only [q_55_0, q_55_1, q_55_4, q_55_5, q_55_7, q_55_10, q_55_11, q_55_14, q_55_15, q_55_17, q_55_20, q_55_21, q_55_24, q_55_25, q_55_26, q_55_27, q_55_28, q_55_31, q_55_32, q_55_33, q_55_34, hg_3_1 HA, hr_3_1 HA, hw_3_1 HA, hg_3_6 HA, hr_3_6 HA, hw_3_6 HA, h_is HA, h_ob HA, ofs_len3, ↓reduceIte, k_cr, k_ci, k_oR, k_oN, k_aR, k_aN, and_true, true_and, and_self, eq_self, Nat.reduceLT, Nat.reduceLeDiff, Nat.reduceEqDiff, Nat.reduceAdd, Nat.reduceMul, Bool.true_eq_false, Bool.false_eq_true, Nat.add_sub_cancel, Nat.not_lt_zero, Nat.zero_le, k_sub, k_sb1, k_r, k_n, k_ret, k_t1, k_t0, k_nr, k_nn, k_z0, k_z1, k_zb, x_okI, lit_nI, k_in, k_cl, k_lt, k_le, k_eq, k_neg, nI_add, nI_mul, k_clt, k_cgt, k_cle, k_cge, k_ceq, bI_0, k_sh8, ne_eq, Nat.add_eq_zero_iff, Nat.one_ne_zero, Nat.succ_ne_zero, and_false, false_and, not_false_eq_true, not_true_eq_false, ite_true, ite_false, if_true, if_false, oI, l0]
  · subst e
    cases s with
    | none => simp (disch := omega) only [q_55_0, q_55_1, q_55_4, q_55_5, q_55_7, q_55_10, q_55_11, q_55_14, q_55_15, q_55_17, q_55_20, q_55_21, q_55_24, q_55_25, q_55_26, q_55_27, q_55_28, q_55_31, q_55_32, q_55_33, q_55_34, hg_3_1 HA, hr_3_1 HA, hw_3_1 HA, hg_3_6 HA, hr_3_6 HA, hw_3_6 HA, h_is HA, h_ob HA, ofs_len3, ↓reduceIte, k_cr, k_ci, k_oR, k_oN, k_aR, k_aN, and_true, true_and, and_self, eq_self, Nat.reduceLT, Nat.reduceLeDiff, Nat.reduceEqDiff, Nat.reduceAdd, Nat.reduceMul, Bool.true_eq_false, Bool.false_eq_true, Nat.add_sub_cancel, Nat.not_lt_zero, Nat.zero_le, k_sub, k_sb1, k_r, k_n, k_ret, k_t1, k_t0, k_nr, k_nn, k_z0, k_z1, k_zb, x_okI, lit_nI, k_in, k_cl, k_lt, k_le, k_eq, k_neg, nI_add, nI_mul, k_clt, k_cgt, k_cle, k_cge, k_ceq, bI_0, k_sh8, ne_eq, Nat.add_eq_zero_iff, Nat.one_ne_zero, Nat.succ_ne_zero, and_false, false_and, not_false_eq_true, not_true_eq_false, ite_true, ite_false, if_true, if_false, oI, l0]
    | some x =>
      have := h8 x rfl
      by_cases h9 : 8 ≤ x
      · have h10 : ¬ x < 8 := by omega
        simp (disch := omega) only [q_55_0, q_55_1, q_55_4, q_55_5, q_55_7, q_55_10, q_55_11, q_55_14, q_55_15, q_55_17, q_55_20, q_55_21, q_55_24, q_55_25, q_55_26, q_55_27, q_55_28, q_55_31, q_55_32, q_55_33, q_55_34, hg_3_1 HA, hr_3_1 HA, hw_3_1 HA, hg_3_6 HA, hr_3_6 HA, hw_3_6 HA, h_is HA, h_ob HA, ofs_len3, ↓reduceIte, k_cr, k_ci, k_oR, k_oN, k_aR, k_aN, and_true, true_and, and_self, eq_self, Nat.reduceLT, Nat.reduceLeDiff, Nat.reduceEqDiff, Nat.reduceAdd, Nat.reduceMul, Bool.true_eq_false, Bool.false_eq_true, Nat.add_sub_cancel, Nat.not_lt_zero, Nat.zero_le, k_sub, k_sb1, k_r, k_n, k_ret, k_t1, k_t0, k_nr, k_nn, k_z0, k_z1, k_zb, x_okI, lit_nI, k_in, k_cl, k_lt, k_le, k_eq, k_neg, nI_add, nI_mul, k_clt, k_cgt, k_cle, k_cge, k_ceq, bI_0, k_sh8, ne_eq, Nat.add_eq_zero_iff, Nat.one_ne_zero, Nat.succ_ne_zero, and_false, false_and, not_false_eq_true, not_true_eq_false, ite_true, ite_false, if_true, if_false, oI, l0, h9, h10]
      · have h10 : x < 8 := by omega
        simp (disch := omega) only [q_55_0, q_55_1, q_55_4, q_55_5, q_55_7, q_55_10, q_55_11, q_55_14, q_55_15, q_55_17, q_55_20, q_55_21, q_55_24, q_55_25, q_55_26, q_55_27, q_55_28, q_55_31, q_55_32, q_55_33, q_55_34, hg_3_1 HA, hr_3_1 HA, hw_3_1 HA, hg_3_6 HA, hr_3_6 HA, hw_3_6 HA, h_is HA, h_ob HA, ofs_len3, ↓reduceIte, k_cr, k_ci, k_oR, k_oN, k_aR, k_aN, and_true, true_and, and_self, eq_self, Nat.reduceLT, Nat.reduceLeDiff, Nat.reduceEqDiff, Nat.reduceAdd, Nat.reduceMul, Bool.true_eq_false, Bool.false_eq_true, Nat.add_sub_cancel, Nat.not_lt_zero, Nat.zero_le, k_sub, k_sb1, k_r, k_n, k_ret, k_t1, k_t0, k_nr, k_nn, k_z0, k_z1, k_zb, x_okI, lit_nI, k_in, k_cl, k_lt, k_le, k_eq, k_neg, nI_add, nI_mul, k_clt, k_cgt, k_cle, k_cge, k_ceq, bI_0, k_sh8, ne_eq, Nat.add_eq_zero_iff, Nat.one_ne_zero, Nat.succ_ne_zero, and_false, false_and, not_false_eq_true, not_true_eq_false, ite_true, ite_false, if_true, if_false, oI, l0, h9, h10]
theorem n_work (d : Nat) {Q P κ A κN : Nat} {SP SK SN T : gS} {nO nN N : Nat} {p : pP} {h : xH} {S : gS} {s : Nat} {x y : Int32} (hs : cS2 Q P κ A κN SP SK SN nO nN N p) (hh : cH2 P κ A κN SP SK SN T h) (h9 : s < 9) : xm (d + 1) 67 [.ref A, .int (nI s), .int x, .int y] (oh 4 h Q S) = some (none, oh 4 (oh 3 h A (uA (uA T 2 s x) 3 s y)) Q S) := by
  rw [c_mwork d (oh 4 h Q S) A s T x y (hh.1.2.2.frame hs.1.2.2.1) (by omega), oh_comm hs.1.2.2.1.symm]
theorem n_workN (d : Nat) {Q P κ A κN : Nat} {SP SK SN T : gS} {nO nN N : Nat} {p : pP} {h : xH} {S : gS} {x y : Int32} (hs : cS2 Q P κ A κN SP SK SN nO nN N p) (hh : cH2 P κ A κN SP SK SN T h) : xm (d + 1) 67 [.ref A, .int (-nI 1), .int x, .int y] (oh 4 h Q S) = some (none, oh 4 h Q S) := by
  have HA := hh.1.2.2.frame (S := S) hs.1.2.2.1
  have l0 : (-nI 1 : Int32) < nI 0 := by decide
  rw [E_67 _ _ _ _ _ _ rfl]
  simp (disch := omega) only [q_67_0, q_67_1, q_67_4, q_67_5, q_67_7, q_67_10, q_67_11, q_67_14, q_67_15, q_67_16, q_67_17, q_67_18, q_67_21, q_67_22, q_67_23, q_67_24, hg_3_2 HA, hr_3_2 HA, hw_3_2 HA, hg_3_3 HA, hr_3_3 HA, hw_3_3 HA, h_is HA, h_ob HA, ofs_len3, ↓reduceIte, k_cr, k_ci, k_oR, k_oN, k_aR, k_aN, and_true, true_and, and_self, eq_self, Nat.reduceLT, Nat.reduceLeDiff, Nat.reduceEqDiff, Nat.reduceAdd, Nat.reduceMul, Bool.true_eq_false, Bool.false_eq_true, Nat.add_sub_cancel, Nat.not_lt_zero, Nat.zero_le, k_sub, k_sb1, k_r, k_n, k_ret, k_t1, k_t0, k_nr, k_nn, k_z0, k_z1, k_zb, x_okI, lit_nI, k_in, k_cl, k_lt, k_le, k_eq, k_neg, nI_add, nI_mul, k_clt, k_cgt, k_cle, k_cge, k_ceq, bI_0, k_sh8, ne_eq, Nat.add_eq_zero_iff, Nat.one_ne_zero, Nat.succ_ne_zero, and_false, false_and, not_false_eq_true, not_true_eq_false, ite_true, ite_false, if_true, if_false, l0]
/-- just a NAME -/
theorem k_just (d : Nat) {Q P κ A κN : Nat} {SP SK SN T : gS} {nO nN N : Nat} {p : pP} {h : xH} {S0 S : gS} {i z : Nat} {C : List cT} {sl : Option Nat} {tg : Int32} {ms : mS} (hs : cS2 Q P κ A κN SP SK SN nO nN N p) (hh : cH2 P κ A κN SP SK SN T h) (hv : cV P κ A S0 S i z C) (h10 : sR S0 10 = .ref κN) (h3 : sI SP 3 = nI (N + 1)) (hm : msT T tg ms) (hsl : ∀ s, sl = some s → s < 8) (hn : pNm p i = true) (hc : p.1 (i + 1) = nI 59) (hi : i + 1 ≤ N) : ∃ S' T', xm (d + 66) 59 [.ref Q, .int (oI sl)] (oh 4 h Q S) = some (none, oh 4 (oh 3 h A T') Q S') ∧ cV P κ A S0 S' (i + 1) (mnF (juBad (eC SK nO) (slRow (eC SN nN) nN sl) (p.2.1 i) ((eC SK nO).1 (p.2.2 i))) z) C ∧ msT T' tg (slCopy ms sl ((eC SK nO).1 (p.2.2 i))) := by
  obtain ⟨r0, r9, r11⟩ := hv.r
  have r10 : sR S 10 = .ref κN := (hv.2.2.2.2.2.2.2.2 10 (by decide)).2.2.2.2.1.trans h10
  have hpl := hs.1.2.2.2.2.2.2.2.2.2 i
  have iK := k_isK hs.1 hh.1
  have iA := k_isA hs.1 hh.1
  have iP := k_isP hs.1 hh.1
  have iN := n_isN hs hh
  have h13 := hv.2.2.2.1
  have h14 := hv.2.2.2.2.1
  have hi0 : i ≤ N := by omega
  have hN7 := hs.1.2.2.2.2.2.2.2.1.1
  have eP : xm (d + 65) 50 [.ref Q] (oh 4 h Q S) = _ := k_place (d + 64) hs.1 hh.1 r0 h13 hi0
  have eR : xm (d + 65) 29 [.ref κN, .int (oI sl)] (oh 4 h Q S) = _ := n_isRow (d + 64) (Q := Q) (S := S) (sl := sl) hs hh (fun s e => by have := hsl s e; omega)
  have eK : xm (d + 65) 47 [.ref Q] (oh 4 h Q S) = _ := k_kind (d + 64) hs.1 hh.1 r0 h13 hi0
  rw [cK_nm.mpr hn] at eK
  have eA : xm (d + 65) 60 [.ref P, .int (nI (i + 1))] (oh 4 h Q S) = _ := k_kindAt (d + 64) (Q := Q) (S := S) hs.1 hh.1 h3 hi
  rw [(cK_c (by decide)).mpr hc] at eA
  have eW : xm (d + 65) 49 [.ref Q] (oh 4 h Q S) = _ := k_word (d + 64) hs.1 hh.1 r0 h13 hi0
  have eF : xm (d + 65) 19 [.ref κ, .long (p.2.2 i)] (oh 4 h Q S) = _ := k_find (d + 64) (Q := Q) (S := S) (w := p.2.2 i) hs.1 hh.1
  have eN : xm (d + 65) 51 [.ref Q, .int (nI (p.2.1 i))] (oh 4 h Q S) = _ := k_note (Q := Q) (h := h) (S := S) (d + 64) hv.2.2.2.2.2.1 hv.2.2.2.2.2.2.1 (show p.2.1 i ≤ 701 by omega)
  have e0 : xm (d + 66) 59 [.ref Q, .int (oI sl)] (oh 4 h Q S) = _ := E_59 (d + 65) (oh 4 h Q S) (.ref Q) (oI sl) rfl
  have n8 : ¬ oI sl = nI 8 := by
    cases sl with
    | none => decide
    | some s =>
      have := hsl s rfl
      show ¬ nI s = nI 8
      rw [k_eq (by omega) (by omega)]
      omega
  have v2 := hv.no (p.2.1 i)
  generalize hro : slRow (eC SN nN) nN sl = ro at *
  cases hf : (eC SK nO).1 (p.2.2 i) with
  | none =>
    rw [hf] at eF
    have eCp : xm (d + 65) 55 [.ref A, .int (oI sl), .int (-nI 1)] (oh 4 h Q (uI S 15 (nI (min z (p.2.1 i))))) = _ := n_copyN (d + 64) (Q := Q) (S := uI S 15 (nI (min z (p.2.1 i)))) (s := sl) (m := none) hs hh (fun s e => by have := hsl s e; omega) (Or.inr rfl) (fun x e => by cases e)
    refine ⟨_, T, ?_, v2.at (i + 1), ?_⟩
    · rw [hh.1.same, e0]
      generalize oI sl = sx at *
      simp (disch := omega) only [q_59_0, q_59_1, q_59_4, q_59_7, q_59_8, q_59_9, q_59_12, q_59_13, q_59_14, q_59_17, q_59_18, q_59_21, q_59_22, q_59_23, q_59_25, q_59_28, q_59_29, q_59_32, q_59_33, q_59_36, q_59_37, q_59_40, q_59_41, q_59_44, q_59_45, q_59_46, q_59_49, q_59_51, q_59_54, q_59_55, q_59_58, q_59_59, q_59_62, q_59_65, q_59_67, q_59_69, q_59_70, q_59_73, q_59_74, q_59_77, q_59_79, q_59_82, q_59_83, q_59_86, q_59_87, q_59_88, q_59_91, q_59_92, q_59_95, q_59_96, q_59_98, q_59_101, q_59_102, q_59_103, q_59_106, q_59_107, q_59_108, q_59_111, q_59_112, q_59_113, q_59_116, q_59_118, q_59_119, q_59_120, q_59_123, q_59_124, q_59_127, q_59_128, q_59_129, q_59_132, q_59_133, q_59_136, q_59_137, q_59_139, q_59_140, q_59_143, q_59_146, og_4_14, og_4_10, og_4_0, og_4_13, op_4_13, og_4_9, og_4_11, og_4_4, o_is, o_ob, ofs_len4, ↓reduceIte, k_cr, k_ci, k_oR, k_oN, k_aR, k_aN, and_true, true_and, and_self, eq_self, Nat.reduceLT, Nat.reduceLeDiff, Nat.reduceEqDiff, Nat.reduceAdd, Nat.reduceMul, Bool.true_eq_false, Bool.false_eq_true, Nat.add_sub_cancel, Nat.not_lt_zero, Nat.zero_le, k_sub, k_sb1, k_r, k_n, k_ret, k_t1, k_t0, k_nr, k_nn, k_z0, k_z1, k_zb, x_okI, lit_nI, k_in, k_cl, k_lt, k_le, k_eq, k_neg, nI_add, nI_mul, k_clt, k_cgt, k_cle, k_cge, k_ceq, bI_0, k_sh8, ne_eq, Nat.add_eq_zero_iff, Nat.one_ne_zero, Nat.succ_ne_zero, and_false, false_and, not_false_eq_true, not_true_eq_false, ite_true, ite_false, if_true, if_false, iK, iA, iP, iN, sI_uI, sJ_uI, sA_uI, sL_uI, sR_uI, sQ_uI, sI_uJ, sJ_uJ, sA_uJ, sL_uJ, sR_uJ, sQ_uJ, sI_uA, sJ_uA, sA_uA, sL_uA, sR_uA, sQ_uA, sI_uL, sJ_uL, sA_uL, sL_uL, sR_uL, sQ_uL, sI_uR, sJ_uR, sA_uR, sL_uR, sR_uR, sQ_uR, sI_uQ, sJ_uQ, sA_uQ, sL_uQ, sR_uQ, sQ_uQ, oI, r0, r9, r10, r11, h13, h14, n8, eP, eR, eK, eA, eW, eF, eN, eCp]
    · cases sl <;> exact hm
  | some m =>
    obtain ⟨m1, m2⟩ := eC_lt hs.1 hf
    rw [hf] at eF
    have eR2 : xm (d + 65) 29 [.ref κ, .int (nI m)] (oh 4 h Q S) = _ := k_isRow (d + 64) (Q := Q) (S := S) hs.1 hh.1 m1
    rw [show juBad (eC SK nO) ro (p.2.1 i) (some m) = (if (eC SK nO).2.1 m = ro then [] else [p.2.1 i]) from rfl]
    have cp : ∀ S1, ∃ T', xm (d + 65) 55 [.ref A, .int (oI sl), .int (nI m)] (oh 4 h Q S1) = some (none, oh 4 (oh 3 h A T') Q S1) ∧ msT T' tg (slCopy ms sl (some m)) := by
      intro S1
      cases sl with
      | none =>
        refine ⟨T, ?_, hm⟩
        rw [hh.1.same]
        exact n_copyN (d + 64) (Q := Q) (S := S1) (s := none) (m := some m) hs hh (fun x e => by cases e) (Or.inl rfl) (fun x e => by cases e; exact m2)
      | some s => exact ⟨_, n_copy (d + 64) (Q := Q) (S := S1) hs hh (hsl s rfl) m2, hm.copy s m⟩
    by_cases hg : (eC SK nO).2.1 m = ro
    · rw [if_pos hg]
      obtain ⟨T', eCp, hm'⟩ := cp S
      refine ⟨_, T', ?_, hv.at (i + 1), hm'⟩
      rw [e0]
      rw [hg] at eR2
      generalize oI sl = sx at *
      simp (disch := omega) only [q_59_0, q_59_1, q_59_4, q_59_7, q_59_8, q_59_9, q_59_12, q_59_13, q_59_14, q_59_17, q_59_18, q_59_21, q_59_22, q_59_23, q_59_25, q_59_28, q_59_29, q_59_32, q_59_33, q_59_36, q_59_37, q_59_40, q_59_41, q_59_44, q_59_45, q_59_46, q_59_49, q_59_51, q_59_54, q_59_55, q_59_58, q_59_59, q_59_62, q_59_65, q_59_67, q_59_69, q_59_70, q_59_73, q_59_74, q_59_77, q_59_79, q_59_82, q_59_83, q_59_86, q_59_87, q_59_88, q_59_91, q_59_92, q_59_95, q_59_96, q_59_98, q_59_101, q_59_102, q_59_103, q_59_106, q_59_107, q_59_108, q_59_111, q_59_112, q_59_113, q_59_116, q_59_118, q_59_119, q_59_120, q_59_123, q_59_124, q_59_127, q_59_128, q_59_129, q_59_132, q_59_133, q_59_136, q_59_137, q_59_139, q_59_140, q_59_143, q_59_146, og_4_14, og_4_10, og_4_0, og_4_13, op_4_13, og_4_9, og_4_11, og_4_4, o_is, o_ob, ofs_len4, ↓reduceIte, k_cr, k_ci, k_oR, k_oN, k_aR, k_aN, and_true, true_and, and_self, eq_self, Nat.reduceLT, Nat.reduceLeDiff, Nat.reduceEqDiff, Nat.reduceAdd, Nat.reduceMul, Bool.true_eq_false, Bool.false_eq_true, Nat.add_sub_cancel, Nat.not_lt_zero, Nat.zero_le, k_sub, k_sb1, k_r, k_n, k_ret, k_t1, k_t0, k_nr, k_nn, k_z0, k_z1, k_zb, x_okI, lit_nI, k_in, k_cl, k_lt, k_le, k_eq, k_neg, nI_add, nI_mul, k_clt, k_cgt, k_cle, k_cge, k_ceq, bI_0, k_sh8, ne_eq, Nat.add_eq_zero_iff, Nat.one_ne_zero, Nat.succ_ne_zero, and_false, false_and, not_false_eq_true, not_true_eq_false, ite_true, ite_false, if_true, if_false, iK, iA, iP, iN, sI_uI, sJ_uI, sA_uI, sL_uI, sR_uI, sQ_uI, sI_uJ, sJ_uJ, sA_uJ, sL_uJ, sR_uJ, sQ_uJ, sI_uA, sJ_uA, sA_uA, sL_uA, sR_uA, sQ_uA, sI_uL, sJ_uL, sA_uL, sL_uL, sR_uL, sQ_uL, sI_uR, sJ_uR, sA_uR, sL_uR, sR_uR, sQ_uR, sI_uQ, sJ_uQ, sA_uQ, sL_uQ, sR_uQ, sQ_uQ, oI, r0, r9, r10, r11, h13, h14, n8, eP, eR, eR2, eK, eA, eW, eF, eCp]
    · rw [if_neg hg]
      obtain ⟨T', eCp, hm'⟩ := cp (uI S 15 (nI (min z (p.2.1 i))))
      refine ⟨_, T', ?_, v2.at (i + 1), hm'⟩
      have hg2 : ¬ bI ((eC SK nO).2.1 m) = bI ro := by
        rw [bI_inj]
        exact hg
      rw [e0]
      generalize oI sl = sx at *
      simp (disch := omega) only [q_59_0, q_59_1, q_59_4, q_59_7, q_59_8, q_59_9, q_59_12, q_59_13, q_59_14, q_59_17, q_59_18, q_59_21, q_59_22, q_59_23, q_59_25, q_59_28, q_59_29, q_59_32, q_59_33, q_59_36, q_59_37, q_59_40, q_59_41, q_59_44, q_59_45, q_59_46, q_59_49, q_59_51, q_59_54, q_59_55, q_59_58, q_59_59, q_59_62, q_59_65, q_59_67, q_59_69, q_59_70, q_59_73, q_59_74, q_59_77, q_59_79, q_59_82, q_59_83, q_59_86, q_59_87, q_59_88, q_59_91, q_59_92, q_59_95, q_59_96, q_59_98, q_59_101, q_59_102, q_59_103, q_59_106, q_59_107, q_59_108, q_59_111, q_59_112, q_59_113, q_59_116, q_59_118, q_59_119, q_59_120, q_59_123, q_59_124, q_59_127, q_59_128, q_59_129, q_59_132, q_59_133, q_59_136, q_59_137, q_59_139, q_59_140, q_59_143, q_59_146, og_4_14, og_4_10, og_4_0, og_4_13, op_4_13, og_4_9, og_4_11, og_4_4, o_is, o_ob, ofs_len4, ↓reduceIte, k_cr, k_ci, k_oR, k_oN, k_aR, k_aN, and_true, true_and, and_self, eq_self, Nat.reduceLT, Nat.reduceLeDiff, Nat.reduceEqDiff, Nat.reduceAdd, Nat.reduceMul, Bool.true_eq_false, Bool.false_eq_true, Nat.add_sub_cancel, Nat.not_lt_zero, Nat.zero_le, k_sub, k_sb1, k_r, k_n, k_ret, k_t1, k_t0, k_nr, k_nn, k_z0, k_z1, k_zb, x_okI, lit_nI, k_in, k_cl, k_lt, k_le, k_eq, k_neg, nI_add, nI_mul, k_clt, k_cgt, k_cle, k_cge, k_ceq, bI_0, k_sh8, ne_eq, Nat.add_eq_zero_iff, Nat.one_ne_zero, Nat.succ_ne_zero, and_false, false_and, not_false_eq_true, not_true_eq_false, ite_true, ite_false, if_true, if_false, iK, iA, iP, iN, sI_uI, sJ_uI, sA_uI, sL_uI, sR_uI, sQ_uI, sI_uJ, sJ_uJ, sA_uJ, sL_uJ, sR_uJ, sQ_uJ, sI_uA, sJ_uA, sA_uA, sL_uA, sR_uA, sQ_uA, sI_uL, sJ_uL, sA_uL, sL_uL, sR_uL, sQ_uL, sI_uR, sJ_uR, sA_uR, sL_uR, sR_uR, sQ_uR, sI_uQ, sJ_uQ, sA_uQ, sL_uQ, sR_uQ, sQ_uQ, oI, r0, r9, r10, r11, h13, h14, n8, eP, eR, eR2, hg2, eK, eA, eW, eF, eN, eCp]
/-- an E that is to be worked out -/
theorem k_work (d : Nat) {Q P κ A κN : Nat} {SP SK SN T : gS} {nO nN N : Nat} {p : pP} {h : xH} {S0 S : gS} {i z : Nat} {C : List cT} {sl : Option Nat} {tg : Int32} {ms : mS} (hs : cS2 Q P κ A κN SP SK SN nO nN N p) (hh : cH2 P κ A κN SP SK SN T h) (hv : cV P κ A S0 S i z C) (h10 : sR S0 10 = .ref κN) (h3 : sI SP 3 = nI (N + 1)) (hm : msT T tg ms) (hsl : ∀ s, sl = some s → s < 9) (hn : ¬ (¬ sl = some 8 ∧ pNm p i = true ∧ p.1 (i + 1) = nI 59)) (hl : C.length ≤ i) (hi : i ≤ N) : match exF p i with
    | .inl q => q ≤ N ∧ ∃ S' T', xm (d + 66) 59 [.ref Q, .int (oI sl)] (oh 4 h Q S) = some (none, oh 4 (oh 3 h A T') Q S') ∧ cX P κ A S0 S' q
    | .inr (j, B) => i < j ∧ j ≤ N ∧ B.length + i ≤ j ∧ ∃ S' T', xm (d + 66) 59 [.ref Q, .int (oI sl)] (oh 4 h Q S) = some (none, oh 4 (oh 3 h A T') Q S') ∧ cV P κ A S0 S' j (mnF (B.flatMap (actB (eC SK nO)) ++ (if slRow (eC SN nN) nN sl = true then [p.2.1 i] else [])) z) (C ++ B.map (cod (eC SK nO))) ∧ msT T' tg (slWork (msTold ms (tld (eC SK nO) B)) C.length (C.length + B.length) sl) := by
  obtain ⟨r0, r9, r11⟩ := hv.r
  have r10 : sR S 10 = .ref κN := (hv.2.2.2.2.2.2.2.2 10 (by decide)).2.2.2.2.1.trans h10
  have hpl := hs.1.2.2.2.2.2.2.2.2.2 i
  have iK := k_isK hs.1 hh.1
  have iA := k_isA hs.1 hh.1
  have iP := k_isP hs.1 hh.1
  have iN := n_isN hs hh
  have h13 := hv.2.2.2.1
  have h14 := hv.2.2.2.2.1
  have h4 := hv.2.2.2.2.2.2.2.1.1
  have hN := hs.1.2.2.2.2.2.2.2.1
  have hN7 := hN.1
  have eP : xm (d + 65) 50 [.ref Q] (oh 4 h Q S) = _ := k_place (d + 64) hs.1 hh.1 r0 h13 hi
  have eR : xm (d + 65) 29 [.ref κN, .int (oI sl)] (oh 4 h Q S) = _ := n_isRow (d + 64) (Q := Q) (S := S) (sl := sl) hs hh hsl
  have eK : xm (d + 65) 47 [.ref Q] (oh 4 h Q S) = _ := k_kind (d + 64) hs.1 hh.1 r0 h13 hi
  have e0 : xm (d + 66) 59 [.ref Q, .int (oI sl)] (oh 4 h Q S) = _ := E_59 (d + 65) (oh 4 h Q S) (.ref Q) (oI sl) rfl
  have e8 : (oI sl = nI 8) = (sl = some 8) := by
    cases sl with
    | none => exact propext ⟨fun z => absurd z (by decide), fun z => by cases z⟩
    | some s =>
      have := hsl s rfl
      show (nI s = nI 8) = _
      rw [k_eq (by omega) (by omega)]
      exact propext ⟨fun z => by rw [z], fun z => Option.some.inj z⟩
  have k2 : (cK p i = nI 2) = (pNm p i = true) := propext cK_nm
  -- as far as readSum
  have e1 : xm (d + 66) 59 [.ref Q, .int (oI sl)] (oh 4 h Q S) = xrun (d + 65) 59 118 [(1, .ref Q), (1, .int (oI sl)), (1, .int (nI (p.2.1 i))), (1, .int (bI (slRow (eC SN nN) nN sl))), (1, .int (nI C.length))] [] (oh 4 h Q S) := by
    rw [e0]
    by_cases q1 : sl = some 8
    · generalize slRow (eC SN nN) nN sl = ro at *
      generalize oI sl = sx at *
      simp (disch := omega) only [q_59_0, q_59_1, q_59_4, q_59_7, q_59_8, q_59_9, q_59_12, q_59_13, q_59_14, q_59_17, q_59_18, q_59_21, q_59_22, q_59_23, q_59_25, q_59_28, q_59_29, q_59_32, q_59_33, q_59_36, q_59_37, q_59_40, q_59_41, q_59_44, q_59_45, q_59_46, q_59_49, q_59_51, q_59_54, q_59_55, q_59_58, q_59_59, q_59_62, q_59_65, q_59_67, q_59_69, q_59_70, q_59_73, q_59_74, q_59_77, q_59_79, q_59_82, q_59_83, q_59_86, q_59_87, q_59_88, q_59_91, q_59_92, q_59_95, q_59_96, q_59_98, q_59_101, q_59_102, q_59_103, q_59_106, q_59_107, q_59_108, q_59_111, q_59_112, q_59_113, q_59_116, og_4_14, og_4_10, og_4_0, og_4_13, op_4_13, og_4_9, og_4_11, og_4_4, o_is, o_ob, ofs_len4, ↓reduceIte, k_cr, k_ci, k_oR, k_oN, k_aR, k_aN, and_true, true_and, and_self, eq_self, Nat.reduceLT, Nat.reduceLeDiff, Nat.reduceEqDiff, Nat.reduceAdd, Nat.reduceMul, Bool.true_eq_false, Bool.false_eq_true, Nat.add_sub_cancel, Nat.not_lt_zero, Nat.zero_le, k_sub, k_sb1, k_r, k_n, k_ret, k_t1, k_t0, k_nr, k_nn, k_z0, k_z1, k_zb, x_okI, lit_nI, k_in, k_cl, k_lt, k_le, k_eq, k_neg, nI_add, nI_mul, k_clt, k_cgt, k_cle, k_cge, k_ceq, bI_0, k_sh8, ne_eq, Nat.add_eq_zero_iff, Nat.one_ne_zero, Nat.succ_ne_zero, and_false, false_and, not_false_eq_true, not_true_eq_false, ite_true, ite_false, if_true, if_false, iK, iA, iP, iN, r0, r9, r10, r11, h4, h13, h14, e8, q1, eP, eR]
    · by_cases q2 : pNm p i = true
      · have q3 : ¬ p.1 (i + 1) = nI 59 := fun z => hn ⟨q1, q2, z⟩
        have hj := hN.ltc hi (pNm_1 q2).1 (by decide)
        have eA : xm (d + 65) 60 [.ref P, .int (nI (i + 1))] (oh 4 h Q S) = _ := k_kindAt (d + 64) (Q := Q) (S := S) hs.1 hh.1 h3 hj
        have k59 : (cK p (i + 1) = nI 59) = (p.1 (i + 1) = nI 59) := propext (cK_c (by decide))
        generalize slRow (eC SN nN) nN sl = ro at *
        generalize oI sl = sx at *
        simp (disch := omega) only [q_59_0, q_59_1, q_59_4, q_59_7, q_59_8, q_59_9, q_59_12, q_59_13, q_59_14, q_59_17, q_59_18, q_59_21, q_59_22, q_59_23, q_59_25, q_59_28, q_59_29, q_59_32, q_59_33, q_59_36, q_59_37, q_59_40, q_59_41, q_59_44, q_59_45, q_59_46, q_59_49, q_59_51, q_59_54, q_59_55, q_59_58, q_59_59, q_59_62, q_59_65, q_59_67, q_59_69, q_59_70, q_59_73, q_59_74, q_59_77, q_59_79, q_59_82, q_59_83, q_59_86, q_59_87, q_59_88, q_59_91, q_59_92, q_59_95, q_59_96, q_59_98, q_59_101, q_59_102, q_59_103, q_59_106, q_59_107, q_59_108, q_59_111, q_59_112, q_59_113, q_59_116, og_4_14, og_4_10, og_4_0, og_4_13, op_4_13, og_4_9, og_4_11, og_4_4, o_is, o_ob, ofs_len4, ↓reduceIte, k_cr, k_ci, k_oR, k_oN, k_aR, k_aN, and_true, true_and, and_self, eq_self, Nat.reduceLT, Nat.reduceLeDiff, Nat.reduceEqDiff, Nat.reduceAdd, Nat.reduceMul, Bool.true_eq_false, Bool.false_eq_true, Nat.add_sub_cancel, Nat.not_lt_zero, Nat.zero_le, k_sub, k_sb1, k_r, k_n, k_ret, k_t1, k_t0, k_nr, k_nn, k_z0, k_z1, k_zb, x_okI, lit_nI, k_in, k_cl, k_lt, k_le, k_eq, k_neg, nI_add, nI_mul, k_clt, k_cgt, k_cle, k_cge, k_ceq, bI_0, k_sh8, ne_eq, Nat.add_eq_zero_iff, Nat.one_ne_zero, Nat.succ_ne_zero, and_false, false_and, not_false_eq_true, not_true_eq_false, ite_true, ite_false, if_true, if_false, iK, iA, iP, iN, r0, r9, r10, r11, h4, h13, h14, e8, q1, k2, q2, k59, q3, eP, eR, eK, eA]
      · generalize slRow (eC SN nN) nN sl = ro at *
        generalize oI sl = sx at *
        simp (disch := omega) only [q_59_0, q_59_1, q_59_4, q_59_7, q_59_8, q_59_9, q_59_12, q_59_13, q_59_14, q_59_17, q_59_18, q_59_21, q_59_22, q_59_23, q_59_25, q_59_28, q_59_29, q_59_32, q_59_33, q_59_36, q_59_37, q_59_40, q_59_41, q_59_44, q_59_45, q_59_46, q_59_49, q_59_51, q_59_54, q_59_55, q_59_58, q_59_59, q_59_62, q_59_65, q_59_67, q_59_69, q_59_70, q_59_73, q_59_74, q_59_77, q_59_79, q_59_82, q_59_83, q_59_86, q_59_87, q_59_88, q_59_91, q_59_92, q_59_95, q_59_96, q_59_98, q_59_101, q_59_102, q_59_103, q_59_106, q_59_107, q_59_108, q_59_111, q_59_112, q_59_113, q_59_116, og_4_14, og_4_10, og_4_0, og_4_13, op_4_13, og_4_9, og_4_11, og_4_4, o_is, o_ob, ofs_len4, ↓reduceIte, k_cr, k_ci, k_oR, k_oN, k_aR, k_aN, and_true, true_and, and_self, eq_self, Nat.reduceLT, Nat.reduceLeDiff, Nat.reduceEqDiff, Nat.reduceAdd, Nat.reduceMul, Bool.true_eq_false, Bool.false_eq_true, Nat.add_sub_cancel, Nat.not_lt_zero, Nat.zero_le, k_sub, k_sb1, k_r, k_n, k_ret, k_t1, k_t0, k_nr, k_nn, k_z0, k_z1, k_zb, x_okI, lit_nI, k_in, k_cl, k_lt, k_le, k_eq, k_neg, nI_add, nI_mul, k_clt, k_cgt, k_cle, k_cge, k_ceq, bI_0, k_sh8, ne_eq, Nat.add_eq_zero_iff, Nat.one_ne_zero, Nat.succ_ne_zero, and_false, false_and, not_false_eq_true, not_true_eq_false, ite_true, ite_false, if_true, if_false, iK, iA, iP, iN, r0, r9, r10, r11, h4, h13, h14, e8, q1, k2, q2, eP, eR, eK]
  have wk : ∀ S1 T1 ms1 x, cH2 P κ A κN SP SK SN T1 (oh 3 h A T1) → msT T1 tg ms1 → ∃ T', xm (d + 65) 67 [.ref A, .int (oI sl), .int (nI C.length), .int (nI x)] (oh 4 (oh 3 h A T1) Q S1) = some (none, oh 4 (oh 3 h A T') Q S1) ∧ msT T' tg (slWork ms1 C.length x sl) := by
    intro S1 T1 ms1 x hh1 hm1
    cases sl with
    | none => exact ⟨T1, n_workN (d + 64) (Q := Q) (S := S1) hs hh1, hm1⟩
    | some s =>
      refine ⟨uA (uA T1 2 s (nI C.length)) 3 s (nI x), ?_, hm1.work s C.length x⟩
      have e := n_work (d + 64) (Q := Q) (S := S1) (x := nI C.length) (y := nI x) hs hh1 (hsl s rfl)
      rw [oh_oh] at e
      exact e
  have hr := c_readSum d hs.1 hh.1 hv hl hi
  cases hx : exF p i with
  | inl q =>
    rw [hx] at hr
    obtain ⟨s0, S2, T2, e2, x2, f2⟩ := hr
    refine ⟨s0, ?_⟩
    have hh2 := hh.mv hs T2
    have iA2 := k_isA hs.1 hh2.1
    -- a row: noted; then work
    have nt : ∃ S3, (if slRow (eC SN nN) nN sl = true then xm (d + 65) 51 [.ref Q, .int (nI (p.2.1 i))] (oh 4 (oh 3 h A T2) Q S2) = some (none, oh 4 (oh 3 h A T2) Q S3) else S3 = S2) ∧ cX P κ A S0 S3 q := by
      by_cases q1 : slRow (eC SN nN) nN sl = true
      · obtain ⟨S3, e3, x3⟩ := x2.no (d + 64) Q (oh 3 h A T2) (show p.2.1 i ≤ 701 by omega)
        exact ⟨S3, by rw [if_pos q1]; exact e3, x3⟩
      · exact ⟨S2, by rw [if_neg q1], x2⟩
    obtain ⟨S3, e3, x3⟩ := nt
    obtain ⟨k, hk, hk7⟩ := x3.2.2.2.2.2.2.1
    have T3 : ∃ T', xm (d + 65) 67 [.ref A, .int (oI sl), .int (nI C.length), .int (nI k)] (oh 4 (oh 3 h A T2) Q S3) = some (none, oh 4 (oh 3 h A T') Q S3) := by
      cases sl with
      | none => exact ⟨T2, n_workN (d + 64) (Q := Q) (S := S3) hs hh2⟩
      | some s =>
        refine ⟨uA (uA T2 2 s (nI C.length)) 3 s (nI k), ?_⟩
        have e := n_work (d + 64) (Q := Q) (S := S3) (x := nI C.length) (y := nI k) hs hh2 (hsl s rfl)
        rw [oh_oh] at e
        exact e
    obtain ⟨T', e4⟩ := T3
    refine ⟨S3, T', ?_, x3⟩
    rw [e1]
    have r11' := x3.r.2.2
    cases hro : slRow (eC SN nN) nN sl with
    | true =>
      rw [hro, if_pos rfl] at e3
      generalize oI sl = sx at e4 ⊢
      simp (disch := omega) only [q_59_118, q_59_119, q_59_120, q_59_123, q_59_124, q_59_127, q_59_128, q_59_129, q_59_132, q_59_133, q_59_136, q_59_137, q_59_139, q_59_140, q_59_143, q_59_146, og_4_14, og_4_10, og_4_0, og_4_13, op_4_13, og_4_9, og_4_11, og_4_4, o_is, o_ob, ofs_len4, ↓reduceIte, k_cr, k_ci, k_oR, k_oN, k_aR, k_aN, and_true, true_and, and_self, eq_self, Nat.reduceLT, Nat.reduceLeDiff, Nat.reduceEqDiff, Nat.reduceAdd, Nat.reduceMul, Bool.true_eq_false, Bool.false_eq_true, Nat.add_sub_cancel, Nat.not_lt_zero, Nat.zero_le, k_sub, k_sb1, k_r, k_n, k_ret, k_t1, k_t0, k_nr, k_nn, k_z0, k_z1, k_zb, x_okI, lit_nI, k_in, k_cl, k_lt, k_le, k_eq, k_neg, nI_add, nI_mul, k_clt, k_cgt, k_cle, k_cge, k_ceq, bI_0, k_sh8, ne_eq, Nat.add_eq_zero_iff, Nat.one_ne_zero, Nat.succ_ne_zero, and_false, false_and, not_false_eq_true, not_true_eq_false, ite_true, ite_false, if_true, if_false, iA2, bI_t, e2, e3, e4, hk, r11']
    | false =>
      rw [hro, if_neg (by decide)] at e3
      subst e3
      generalize oI sl = sx at e4 ⊢
      simp (disch := omega) only [q_59_118, q_59_119, q_59_120, q_59_123, q_59_124, q_59_127, q_59_128, q_59_129, q_59_132, q_59_133, q_59_136, q_59_137, q_59_139, q_59_140, q_59_143, q_59_146, og_4_14, og_4_10, og_4_0, og_4_13, op_4_13, og_4_9, og_4_11, og_4_4, o_is, o_ob, ofs_len4, ↓reduceIte, k_cr, k_ci, k_oR, k_oN, k_aR, k_aN, and_true, true_and, and_self, eq_self, Nat.reduceLT, Nat.reduceLeDiff, Nat.reduceEqDiff, Nat.reduceAdd, Nat.reduceMul, Bool.true_eq_false, Bool.false_eq_true, Nat.add_sub_cancel, Nat.not_lt_zero, Nat.zero_le, k_sub, k_sb1, k_r, k_n, k_ret, k_t1, k_t0, k_nr, k_nn, k_z0, k_z1, k_zb, x_okI, lit_nI, k_in, k_cl, k_lt, k_le, k_eq, k_neg, nI_add, nI_mul, k_clt, k_cgt, k_cle, k_cge, k_ceq, bI_0, k_sh8, ne_eq, Nat.add_eq_zero_iff, Nat.one_ne_zero, Nat.succ_ne_zero, and_false, false_and, not_false_eq_true, not_true_eq_false, ite_true, ite_false, if_true, if_false, iA2, bI_f, e2, e4, hk, r11']
  | inr y =>
    obtain ⟨j, B⟩ := y
    rw [hx] at hr
    obtain ⟨s1, s2, s3, S2, T2, e2, v2, t2⟩ := hr
    refine ⟨s1, s2, s3, ?_⟩
    have hh2 := hh.mv hs T2
    have iA2 := k_isA hs.1 hh2.1
    have hm2 := hm.told t2
    have hlen : (C ++ B.map (cod (eC SK nO))).length = C.length + B.length := by rw [List.length_append, List.length_map]
    rw [mnF_app]
    cases hro : slRow (eC SN nN) nN sl with
    | true =>
      rw [if_pos rfl]
      have e3 : xm (d + 65) 51 [.ref Q, .int (nI (p.2.1 i))] (oh 4 (oh 3 h A T2) Q S2) = _ := k_note (Q := Q) (h := oh 3 h A T2) (S := S2) (d + 64) v2.2.2.2.2.2.1 v2.2.2.2.2.2.2.1 (show p.2.1 i ≤ 701 by omega)
      have v3 := v2.no (p.2.1 i)
      have r11' := v3.r.2.2
      have h4' := v3.2.2.2.2.2.2.2.1.1
      rw [hlen] at h4'
      obtain ⟨T', e4, hm4⟩ := wk (uI S2 15 (nI (min (mnF (B.flatMap (actB (eC SK nO))) z) (p.2.1 i)))) T2 _ (C.length + B.length) hh2 hm2
      refine ⟨_, T', ?_, v3, hm4⟩
      rw [e1, hro]
      generalize oI sl = sx at e4 ⊢
      simp (disch := omega) only [q_59_118, q_59_119, q_59_120, q_59_123, q_59_124, q_59_127, q_59_128, q_59_129, q_59_132, q_59_133, q_59_136, q_59_137, q_59_139, q_59_140, q_59_143, q_59_146, og_4_14, og_4_10, og_4_0, og_4_13, op_4_13, og_4_9, og_4_11, og_4_4, o_is, o_ob, ofs_len4, ↓reduceIte, k_cr, k_ci, k_oR, k_oN, k_aR, k_aN, and_true, true_and, and_self, eq_self, Nat.reduceLT, Nat.reduceLeDiff, Nat.reduceEqDiff, Nat.reduceAdd, Nat.reduceMul, Bool.true_eq_false, Bool.false_eq_true, Nat.add_sub_cancel, Nat.not_lt_zero, Nat.zero_le, k_sub, k_sb1, k_r, k_n, k_ret, k_t1, k_t0, k_nr, k_nn, k_z0, k_z1, k_zb, x_okI, lit_nI, k_in, k_cl, k_lt, k_le, k_eq, k_neg, nI_add, nI_mul, k_clt, k_cgt, k_cle, k_cge, k_ceq, bI_0, k_sh8, ne_eq, Nat.add_eq_zero_iff, Nat.one_ne_zero, Nat.succ_ne_zero, and_false, false_and, not_false_eq_true, not_true_eq_false, ite_true, ite_false, if_true, if_false, iA2, bI_t, e2, e3, e4, h4', r11']
    | false =>
      rw [if_neg (by decide)]
      have r11' := v2.r.2.2
      have h4' := v2.2.2.2.2.2.2.2.1.1
      rw [hlen] at h4'
      obtain ⟨T', e4, hm4⟩ := wk S2 T2 _ (C.length + B.length) hh2 hm2
      refine ⟨S2, T', ?_, v2, hm4⟩
      rw [e1, hro]
      generalize oI sl = sx at e4 ⊢
      simp (disch := omega) only [q_59_118, q_59_119, q_59_120, q_59_123, q_59_124, q_59_127, q_59_128, q_59_129, q_59_132, q_59_133, q_59_136, q_59_137, q_59_139, q_59_140, q_59_143, q_59_146, og_4_14, og_4_10, og_4_0, og_4_13, op_4_13, og_4_9, og_4_11, og_4_4, o_is, o_ob, ofs_len4, ↓reduceIte, k_cr, k_ci, k_oR, k_oN, k_aR, k_aN, and_true, true_and, and_self, eq_self, Nat.reduceLT, Nat.reduceLeDiff, Nat.reduceEqDiff, Nat.reduceAdd, Nat.reduceMul, Bool.true_eq_false, Bool.false_eq_true, Nat.add_sub_cancel, Nat.not_lt_zero, Nat.zero_le, k_sub, k_sb1, k_r, k_n, k_ret, k_t1, k_t0, k_nr, k_nn, k_z0, k_z1, k_zb, x_okI, lit_nI, k_in, k_cl, k_lt, k_le, k_eq, k_neg, nI_add, nI_mul, k_clt, k_cgt, k_cle, k_cge, k_ceq, bI_0, k_sh8, ne_eq, Nat.add_eq_zero_iff, Nat.one_ne_zero, Nat.succ_ne_zero, and_false, false_and, not_false_eq_true, not_true_eq_false, ite_true, ite_false, if_true, if_false, iA2, bI_f, e2, e4, h4', r11']
