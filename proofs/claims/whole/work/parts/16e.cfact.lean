/-! The class: readFactor. -/
theorem mnF_min : ∀ (L : List Nat) (z a : Nat), mnF L (min z a) = min (mnF L z) a
  | [], z, a => rfl
  | b :: L, z, a => by
    show mnF L (min (min z a) b) = min (mnF L (min z b)) a
    rw [← mnF_min L (min z b) a, Nat.min_assoc, Nat.min_comm a b, ← Nat.min_assoc]
theorem mnF_comm (X : List Nat) : ∀ (Y : List Nat) (z : Nat), mnF X (mnF Y z) = mnF Y (mnF X z)
  | [], z => rfl
  | y :: Y, z => by
    show mnF X (mnF Y (min z y)) = mnF Y (min (mnF X z) y)
    rw [mnF_comm X Y, mnF_min X z y]
def scR (D Q P κ A : Nat) (S0 : gS) (e : kE) (N k i z : Nat) (C : List cT) (S T : gS) (h : xH) : eR → Prop
  | .inl q => q ≤ N ∧ ∃ S' T', xm D 61 [.ref Q, .int (nI k)] (oh 4 h Q S) = some (none, oh 4 (oh 3 h A T') Q S') ∧ cX P κ A S0 S' q ∧ fr p6 T T'
  | .inr (j, B) => i < j ∧ j ≤ N ∧ B.length + i ≤ j ∧ ∃ S' T', xm D 61 [.ref Q, .int (nI k)] (oh 4 h Q S) = some (none, oh 4 (oh 3 h A T') Q S') ∧ cV P κ A S0 S' j (mnF (B.flatMap (actB e)) z) (C ++ B.map (cod e)) ∧ keV e B T T'
theorem smc_ok {dd Q P κ A : Nat} {SP SK S0 : gS} {nO N k : Nat} {p : pP} {g : Nat → eR} (hg : fcOK dd Q P κ A SP SK S0 nO N k g) (hs : cS Q P κ A SP SK nO N p) (d : Nat) {i z : Nat} {C : List cT} {S T : gS} {h : xH} (hh : cH P κ A SP SK T h) (hv : cV P κ A S0 S i z C) (hl : C.length ≤ i) (hi : i ≤ N) : scR (d + (dd + 5)) Q P κ A S0 (eC SK nO) N k i z C S T h (smF p g i) := by
  have hr := hg d i z C S T h hh hv hl hi
  have hN := hs.2.2.2.2.2.2.2.1
  have hN7 := hN.1
  have go : ∀ H' R, xm (d + (dd + 4)) 62 [.ref Q, .int (nI k)] (oh 4 h Q S) = some (none, H') → xrun (d + (dd + 4)) 61 9 [(1, .ref Q), (1, .int (nI k)), (1, .int (wI none)), (1, .int (nI 0)), (0, .null)] [] H' = R → xm (d + (dd + 5)) 61 [.ref Q, .int (nI k)] (oh 4 h Q S) = R := by
    intro H' R e1 e2
    have e0 := E_61 (d + (dd + 4)) (oh 4 h Q S) (.ref Q) (nI k) rfl
    refine e0.trans ?_
    rw [← e2]
    simp (disch := omega) only [q_61_0, q_61_1, q_61_2, q_61_3, q_61_4, q_61_7, q_61_8, og_4_14, og_4_13, op_4_13, o_is, o_ob, ofs_len4, ↓reduceIte, k_cr, k_ci, k_oR, k_oN, k_aR, k_aN, and_true, true_and, and_self, eq_self, Nat.reduceLT, Nat.reduceLeDiff, Nat.reduceEqDiff, Nat.reduceAdd, Nat.reduceMul, Bool.true_eq_false, Bool.false_eq_true, Nat.add_sub_cancel, Nat.not_lt_zero, Nat.zero_le, k_sub, k_sb1, k_r, k_n, k_ret, k_t1, k_t0, k_nr, k_nn, k_z0, k_z1, k_zb, x_okI, lit_nI, k_in, k_cl, k_lt, k_le, k_eq, k_neg, nI_add, nI_mul, k_clt, k_cgt, k_cle, k_cge, k_ceq, bI_0, k_sh8, ne_eq, Nat.add_eq_zero_iff, Nat.one_ne_zero, Nat.succ_ne_zero, and_false, false_and, not_false_eq_true, not_true_eq_false, ite_true, ite_false, if_true, if_false, wI, e1]
  unfold smF
  cases hgq : g i with
  | inl q =>
    rw [hgq] at hr
    obtain ⟨r0, S2, T2, e2, x2, f2⟩ := hr
    obtain ⟨S3, e3, x3⟩ := sum_X (d + (dd + 3)) (Q := Q) (k := nI k) (c := 0) (w := none) (u := (0, .null)) (h := oh 3 h A T2) x2 (fun x e => by cases e) (by omega)
    exact ⟨r0, S3, T2, go _ _ e2 e3, x3, f2⟩
  | inr y =>
    obtain ⟨j, B⟩ := y
    rw [hgq] at hr
    obtain ⟨r1, r2, r3, S2, T2, e2, v2, t2⟩ := hr
    have ih := tlc_ok hg hs d 701 j (mnF (B.flatMap (actB (eC SK nO))) z) 0 none (0, .null) (C ++ B.map (cod (eC SK nO))) S2 T2 (oh 3 h A T2) (fun x e => by cases e) (hh.mv hs T2) v2 (by rw [List.length_append, List.length_map]; show _ + 0 ≤ j; omega) r2 (by omega) (by omega)
    show scR (d + (dd + 5)) Q P κ A S0 (eC SK nO) N k i z C S T h (ePre B (tlF p g 701 j none))
    cases hq2 : tlF p g 701 j none with
    | inl y =>
      rw [hq2] at ih
      obtain ⟨s0, S3, T3, e3, x3, f3⟩ := ih
      rw [oh_oh] at e3
      exact ⟨s0, S3, T3, go _ _ e2 e3, x3, t2.1.trans f3⟩
    | inr y =>
      obtain ⟨j', B'⟩ := y
      rw [hq2] at ih
      obtain ⟨s1, s2, s3, S3, T3, e3, v3, t3⟩ := ih
      rw [oh_oh] at e3
      have s4 : B'.length + j ≤ j' := s3
      refine ⟨by omega, s2, ?_, S3, T3, go _ _ e2 e3, ?_, t2.app t3⟩
      · rw [List.length_append]
        omega
      · rw [flat_app, List.map_append, ← List.append_assoc]
        exact v3
theorem one_flat (e : kE) (a : aT) (z : Nat) : mnF ([a].flatMap (actB e)) z = mnF (actB e a) z := by
  show mnF (actB e a ++ []) z = _
  rw [List.append_nil]
theorem fcGc_ok {dd Q P κ A : Nat} {SP SK S0 : gS} {nO N k : Nat} {p : pP} {r : Option (Nat → eR)} (hs : cS Q P κ A SP SK nO N p) (hr : r = none ∧ k = 20 ∨ ∃ g dd', r = some g ∧ dd = dd' + 3 ∧ k < 20 ∧ fcOK dd' Q P κ A SP SK S0 nO N (k + 1) g) : fcOK dd Q P κ A SP SK S0 nO N k (fcG p r) := by
  intro d i z C S T h hh hv hl hi
  have hN := hs.2.2.2.2.2.2.2.1
  have hN7 := hN.1
  have hkp := hs.2.2.2.2.2.2.2.2.1 i
  obtain ⟨r0, r9, r11⟩ := hv.r
  have h13 := hv.2.2.2.1
  have h4 := hv.2.2.2.2.2.2.2.1.1
  have eK : xm (d + (dd + 3)) 47 [.ref Q] (oh 4 h Q S) = some (some (.int (cK p i)), oh 4 h Q S) := k_kind (d + dd + 2) hs hh r0 h13 hi
  have e0 := E_62 (d + (dd + 3)) (oh 4 h Q S) (.ref Q) (nI k) rfl
  have e00 : xm (d + (dd + 4)) 62 [.ref Q, .int (nI k)] (oh 4 h Q S) = xrun (d + (dd + 3)) 62 0 [(1, .ref Q), (1, .int (nI k)), (0, .null)] [] (oh 4 h Q S) := e0
  have hk20 : k ≤ 20 := by
    rcases hr with ⟨_, q⟩ | ⟨_, _, _, _, q, _⟩ <;> omega
  have v1 := hv.at (i + 1)
  have one : ∀ x : aT, ([x] : List aT).length = 1 := fun _ => rfl
  unfold fcG
  by_cases c1 : p.1 i = nI 45
  · rw [if_pos c1]
    have hj := hN.ltc hi c1 (by decide)
    rw [(cK_c (by decide)).mpr c1] at eK
    rcases hr with ⟨q1, q2⟩ | ⟨g, dd', q1, q2, q3, hg⟩
    · subst q1
      have h20 : 20 ≤ k := by omega
      have n20 : ¬ k < 20 := by omega
      refine ⟨hi, _, T, ?_, hv.bad (by omega), fr.rfl⟩
      rw [hh.same, e00]
      simp (disch := omega) only [q_62_0, q_62_1, q_62_4, q_62_5, q_62_6, q_62_7, q_62_10, q_62_11, q_62_12, q_62_13, q_62_16, q_62_17, q_62_20, q_62_21, q_62_22, q_62_25, q_62_26, q_62_27, q_62_30, q_62_33, q_62_34, q_62_35, q_62_38, q_62_39, q_62_40, q_62_41, q_62_44, q_62_45, q_62_46, q_62_49, q_62_50, q_62_51, q_62_54, q_62_57, q_62_58, q_62_59, q_62_62, q_62_63, q_62_64, q_62_67, q_62_70, q_62_71, q_62_73, q_62_76, q_62_77, q_62_78, q_62_81, q_62_82, q_62_83, q_62_86, q_62_87, q_62_90, q_62_93, q_62_94, q_62_96, q_62_99, q_62_100, q_62_102, q_62_105, q_62_106, q_62_107, q_62_110, q_62_111, q_62_112, q_62_115, q_62_116, q_62_117, q_62_118, q_62_119, q_62_122, q_62_123, q_62_125, q_62_126, q_62_129, q_62_132, q_62_133, q_62_135, q_62_138, q_62_139, q_62_141, q_62_144, q_62_145, q_62_146, q_62_149, q_62_150, q_62_151, q_62_154, q_62_155, q_62_156, q_62_157, q_62_158, q_62_161, q_62_162, q_62_164, q_62_167, q_62_170, q_62_171, q_62_172, q_62_175, og_4_13, op_4_13, og_4_14, op_4_14, o_is, o_ob, ofs_len4, ↓reduceIte, k_cr, k_ci, k_oR, k_oN, k_aR, k_aN, and_true, true_and, and_self, eq_self, Nat.reduceLT, Nat.reduceLeDiff, Nat.reduceEqDiff, Nat.reduceAdd, Nat.reduceMul, Bool.true_eq_false, Bool.false_eq_true, Nat.add_sub_cancel, Nat.not_lt_zero, Nat.zero_le, k_sub, k_sb1, k_r, k_n, k_ret, k_t1, k_t0, k_nr, k_nn, k_z0, k_z1, k_zb, x_okI, lit_nI, k_in, k_cl, k_lt, k_le, k_eq, k_neg, nI_add, nI_mul, k_clt, k_cgt, k_cle, k_cge, k_ceq, bI_0, k_sh8, ne_eq, Nat.add_eq_zero_iff, Nat.one_ne_zero, Nat.succ_ne_zero, and_false, false_and, not_false_eq_true, not_true_eq_false, ite_true, ite_false, if_true, if_false, eK, h20, n20]
    · subst q1
      subst q2
      have n20 : ¬ 20 ≤ k := by omega
      have hr := hg (d + 2) (i + 1) z C (uI S 13 (nI (i + 1))) T h hh v1 (by omega) hj
      show fcR _ Q P κ A S0 (eC SK nO) N k i z C S T h (ePost [(nI 6, 0, 0)] (g (i + 1)))
      cases hgq : g (i + 1) with
      | inl q =>
        rw [hgq] at hr
        obtain ⟨s0, S2, T2, e2, x2, f2⟩ := hr
        rw [show d + 2 + (dd' + 4) = d + (dd' + 3 + 3) by omega] at e2
        obtain ⟨S3, e3, x3⟩ := x2.em (d + dd' + 5) Q (oh 3 h A T2) (nI 6) (nI 0)
        have e3 : xm (d + (dd' + 3 + 3)) 63 [.ref Q, .int (nI 6), .int (nI 0)] (oh 4 (oh 3 h A T2) Q S2) = _ := e3
        refine ⟨s0, S3, T2, ?_, x3, f2⟩
        rw [e00]
        simp (disch := omega) only [q_62_0, q_62_1, q_62_4, q_62_5, q_62_6, q_62_7, q_62_10, q_62_11, q_62_12, q_62_13, q_62_16, q_62_17, q_62_20, q_62_21, q_62_22, q_62_25, q_62_26, q_62_27, q_62_30, q_62_33, q_62_34, q_62_35, q_62_38, q_62_39, q_62_40, q_62_41, q_62_44, q_62_45, q_62_46, q_62_49, q_62_50, q_62_51, q_62_54, q_62_57, q_62_58, q_62_59, q_62_62, q_62_63, q_62_64, q_62_67, q_62_70, q_62_71, q_62_73, q_62_76, q_62_77, q_62_78, q_62_81, q_62_82, q_62_83, q_62_86, q_62_87, q_62_90, q_62_93, q_62_94, q_62_96, q_62_99, q_62_100, q_62_102, q_62_105, q_62_106, q_62_107, q_62_110, q_62_111, q_62_112, q_62_115, q_62_116, q_62_117, q_62_118, q_62_119, q_62_122, q_62_123, q_62_125, q_62_126, q_62_129, q_62_132, q_62_133, q_62_135, q_62_138, q_62_139, q_62_141, q_62_144, q_62_145, q_62_146, q_62_149, q_62_150, q_62_151, q_62_154, q_62_155, q_62_156, q_62_157, q_62_158, q_62_161, q_62_162, q_62_164, q_62_167, q_62_170, q_62_171, q_62_172, q_62_175, og_4_13, op_4_13, og_4_14, op_4_14, o_is, o_ob, ofs_len4, ↓reduceIte, k_cr, k_ci, k_oR, k_oN, k_aR, k_aN, and_true, true_and, and_self, eq_self, Nat.reduceLT, Nat.reduceLeDiff, Nat.reduceEqDiff, Nat.reduceAdd, Nat.reduceMul, Bool.true_eq_false, Bool.false_eq_true, Nat.add_sub_cancel, Nat.not_lt_zero, Nat.zero_le, k_sub, k_sb1, k_r, k_n, k_ret, k_t1, k_t0, k_nr, k_nn, k_z0, k_z1, k_zb, x_okI, lit_nI, k_in, k_cl, k_lt, k_le, k_eq, k_neg, nI_add, nI_mul, k_clt, k_cgt, k_cle, k_cge, k_ceq, bI_0, k_sh8, ne_eq, Nat.add_eq_zero_iff, Nat.one_ne_zero, Nat.succ_ne_zero, and_false, false_and, not_false_eq_true, not_true_eq_false, ite_true, ite_false, if_true, if_false, eK, n20, q3, h13, e2, e3]
      | inr y =>
        obtain ⟨j, B⟩ := y
        rw [hgq] at hr
        obtain ⟨s1, s2, s3, S2, T2, e2, v2, t2⟩ := hr
        rw [show d + 2 + (dd' + 4) = d + (dd' + 3 + 3) by omega] at e2
        have hlen : (C ++ B.map (cod (eC SK nO))).length = C.length + B.length := by rw [List.length_append, List.length_map]
        have e3 : xm (d + (dd' + 3 + 3)) 63 [.ref Q, .int (nI 6), .int (nI 0)] (oh 4 (oh 3 h A T2) Q S2) = _ := k_emit (Q := Q) (h := oh 3 h A T2) (d + dd' + 5) (c := nI 6) (o := nI 0) v2.2.2.2.2.2.2.2.1.1 (by omega)
        refine ⟨by omega, s2, by rw [List.length_append, one]; omega, emS S2 (C ++ B.map (cod (eC SK nO))).length (nI 6) (nI 0), T2, ?_, ?_, t2.no (by show ¬ (nI 6 = nI 3 ∨ nI 6 = nI 4 ∨ nI 6 = nI 5); decide)⟩
        · rw [e00]
          simp (disch := omega) only [q_62_0, q_62_1, q_62_4, q_62_5, q_62_6, q_62_7, q_62_10, q_62_11, q_62_12, q_62_13, q_62_16, q_62_17, q_62_20, q_62_21, q_62_22, q_62_25, q_62_26, q_62_27, q_62_30, q_62_33, q_62_34, q_62_35, q_62_38, q_62_39, q_62_40, q_62_41, q_62_44, q_62_45, q_62_46, q_62_49, q_62_50, q_62_51, q_62_54, q_62_57, q_62_58, q_62_59, q_62_62, q_62_63, q_62_64, q_62_67, q_62_70, q_62_71, q_62_73, q_62_76, q_62_77, q_62_78, q_62_81, q_62_82, q_62_83, q_62_86, q_62_87, q_62_90, q_62_93, q_62_94, q_62_96, q_62_99, q_62_100, q_62_102, q_62_105, q_62_106, q_62_107, q_62_110, q_62_111, q_62_112, q_62_115, q_62_116, q_62_117, q_62_118, q_62_119, q_62_122, q_62_123, q_62_125, q_62_126, q_62_129, q_62_132, q_62_133, q_62_135, q_62_138, q_62_139, q_62_141, q_62_144, q_62_145, q_62_146, q_62_149, q_62_150, q_62_151, q_62_154, q_62_155, q_62_156, q_62_157, q_62_158, q_62_161, q_62_162, q_62_164, q_62_167, q_62_170, q_62_171, q_62_172, q_62_175, og_4_13, op_4_13, og_4_14, op_4_14, o_is, o_ob, ofs_len4, ↓reduceIte, k_cr, k_ci, k_oR, k_oN, k_aR, k_aN, and_true, true_and, and_self, eq_self, Nat.reduceLT, Nat.reduceLeDiff, Nat.reduceEqDiff, Nat.reduceAdd, Nat.reduceMul, Bool.true_eq_false, Bool.false_eq_true, Nat.add_sub_cancel, Nat.not_lt_zero, Nat.zero_le, k_sub, k_sb1, k_r, k_n, k_ret, k_t1, k_t0, k_nr, k_nn, k_z0, k_z1, k_zb, x_okI, lit_nI, k_in, k_cl, k_lt, k_le, k_eq, k_neg, nI_add, nI_mul, k_clt, k_cgt, k_cle, k_cge, k_ceq, bI_0, k_sh8, ne_eq, Nat.add_eq_zero_iff, Nat.one_ne_zero, Nat.succ_ne_zero, and_false, false_and, not_false_eq_true, not_true_eq_false, ite_true, ite_false, if_true, if_false, eK, n20, q3, h13, e2, e3]
        · rw [flat_app, one_flat, actB_no _ (show ¬ (nI 6 = nI 3 ∨ nI 6 = nI 4 ∨ nI 6 = nI 5) by decide), List.map_append, ← List.append_assoc]
          exact v2.em (nI 6) (nI 0)
  rw [if_neg c1]
  have n45 : ¬ cK p i = nI 45 := fun q => c1 ((cK_c (by decide)).mp q)
  by_cases c2 : p.1 i = nI 40
  · rw [if_pos c2]
    have hj := hN.ltc hi c2 (by decide)
    rw [(cK_c (by decide)).mpr c2] at eK
    rcases hr with ⟨q1, q2⟩ | ⟨g, dd', q1, q2, q3, hg⟩
    · subst q1
      have h20 : 20 ≤ k := by omega
      have n20 : ¬ k < 20 := by omega
      refine ⟨hi, _, T, ?_, hv.bad (by omega), fr.rfl⟩
      rw [hh.same, e00]
      simp (disch := omega) only [q_62_0, q_62_1, q_62_4, q_62_5, q_62_6, q_62_7, q_62_10, q_62_11, q_62_12, q_62_13, q_62_16, q_62_17, q_62_20, q_62_21, q_62_22, q_62_25, q_62_26, q_62_27, q_62_30, q_62_33, q_62_34, q_62_35, q_62_38, q_62_39, q_62_40, q_62_41, q_62_44, q_62_45, q_62_46, q_62_49, q_62_50, q_62_51, q_62_54, q_62_57, q_62_58, q_62_59, q_62_62, q_62_63, q_62_64, q_62_67, q_62_70, q_62_71, q_62_73, q_62_76, q_62_77, q_62_78, q_62_81, q_62_82, q_62_83, q_62_86, q_62_87, q_62_90, q_62_93, q_62_94, q_62_96, q_62_99, q_62_100, q_62_102, q_62_105, q_62_106, q_62_107, q_62_110, q_62_111, q_62_112, q_62_115, q_62_116, q_62_117, q_62_118, q_62_119, q_62_122, q_62_123, q_62_125, q_62_126, q_62_129, q_62_132, q_62_133, q_62_135, q_62_138, q_62_139, q_62_141, q_62_144, q_62_145, q_62_146, q_62_149, q_62_150, q_62_151, q_62_154, q_62_155, q_62_156, q_62_157, q_62_158, q_62_161, q_62_162, q_62_164, q_62_167, q_62_170, q_62_171, q_62_172, q_62_175, og_4_13, op_4_13, og_4_14, op_4_14, o_is, o_ob, ofs_len4, ↓reduceIte, k_cr, k_ci, k_oR, k_oN, k_aR, k_aN, and_true, true_and, and_self, eq_self, Nat.reduceLT, Nat.reduceLeDiff, Nat.reduceEqDiff, Nat.reduceAdd, Nat.reduceMul, Bool.true_eq_false, Bool.false_eq_true, Nat.add_sub_cancel, Nat.not_lt_zero, Nat.zero_le, k_sub, k_sb1, k_r, k_n, k_ret, k_t1, k_t0, k_nr, k_nn, k_z0, k_z1, k_zb, x_okI, lit_nI, k_in, k_cl, k_lt, k_le, k_eq, k_neg, nI_add, nI_mul, k_clt, k_cgt, k_cle, k_cge, k_ceq, bI_0, k_sh8, ne_eq, Nat.add_eq_zero_iff, Nat.one_ne_zero, Nat.succ_ne_zero, and_false, false_and, not_false_eq_true, not_true_eq_false, ite_true, ite_false, if_true, if_false, eK, h20, n20]
    · subst q1
      subst q2
      have n20 : ¬ 20 ≤ k := by omega
      have hr := smc_ok hg hs (d + 1) hh v1 (by omega) hj
      show fcR _ Q P κ A S0 (eC SK nO) N k i z C S T h (eClo p (nI 41) [] (smF p g (i + 1)))
      cases hgq : smF p g (i + 1) with
      | inl q =>
        rw [hgq] at hr
        obtain ⟨s0, S2, T2, e2, x2, f2⟩ := hr
        rw [show d + 1 + (dd' + 5) = d + (dd' + 3 + 3) by omega] at e2
        have e3 : xm (d + (dd' + 3 + 3)) 52 [.ref Q, .int (nI 41)] (oh 4 (oh 3 h A T2) Q S2) = _ := k_takeF (d + dd' + 5) (c := nI 41) hs (hh.mv hs T2) x2.r.1 x2.2.2.2.1 s0 x2.2.2.2.2.1
        refine ⟨s0, S2, T2, ?_, x2, f2⟩
        rw [e00]
        simp (disch := omega) only [q_62_0, q_62_1, q_62_4, q_62_5, q_62_6, q_62_7, q_62_10, q_62_11, q_62_12, q_62_13, q_62_16, q_62_17, q_62_20, q_62_21, q_62_22, q_62_25, q_62_26, q_62_27, q_62_30, q_62_33, q_62_34, q_62_35, q_62_38, q_62_39, q_62_40, q_62_41, q_62_44, q_62_45, q_62_46, q_62_49, q_62_50, q_62_51, q_62_54, q_62_57, q_62_58, q_62_59, q_62_62, q_62_63, q_62_64, q_62_67, q_62_70, q_62_71, q_62_73, q_62_76, q_62_77, q_62_78, q_62_81, q_62_82, q_62_83, q_62_86, q_62_87, q_62_90, q_62_93, q_62_94, q_62_96, q_62_99, q_62_100, q_62_102, q_62_105, q_62_106, q_62_107, q_62_110, q_62_111, q_62_112, q_62_115, q_62_116, q_62_117, q_62_118, q_62_119, q_62_122, q_62_123, q_62_125, q_62_126, q_62_129, q_62_132, q_62_133, q_62_135, q_62_138, q_62_139, q_62_141, q_62_144, q_62_145, q_62_146, q_62_149, q_62_150, q_62_151, q_62_154, q_62_155, q_62_156, q_62_157, q_62_158, q_62_161, q_62_162, q_62_164, q_62_167, q_62_170, q_62_171, q_62_172, q_62_175, og_4_13, op_4_13, og_4_14, op_4_14, o_is, o_ob, ofs_len4, ↓reduceIte, k_cr, k_ci, k_oR, k_oN, k_aR, k_aN, and_true, true_and, and_self, eq_self, Nat.reduceLT, Nat.reduceLeDiff, Nat.reduceEqDiff, Nat.reduceAdd, Nat.reduceMul, Bool.true_eq_false, Bool.false_eq_true, Nat.add_sub_cancel, Nat.not_lt_zero, Nat.zero_le, k_sub, k_sb1, k_r, k_n, k_ret, k_t1, k_t0, k_nr, k_nn, k_z0, k_z1, k_zb, x_okI, lit_nI, k_in, k_cl, k_lt, k_le, k_eq, k_neg, nI_add, nI_mul, k_clt, k_cgt, k_cle, k_cge, k_ceq, bI_0, k_sh8, ne_eq, Nat.add_eq_zero_iff, Nat.one_ne_zero, Nat.succ_ne_zero, and_false, false_and, not_false_eq_true, not_true_eq_false, ite_true, ite_false, if_true, if_false, eK, n20, q3, h13, e2, e3]
      | inr y =>
        obtain ⟨j, B⟩ := y
        rw [hgq] at hr
        obtain ⟨s1, s2, s3, S2, T2, e2, v2, t2⟩ := hr
        rw [show d + 1 + (dd' + 5) = d + (dd' + 3 + 3) by omega] at e2
        show fcR _ Q P κ A S0 (eC SK nO) N k i z C S T h (if p.1 j = nI 41 then .inr (j + 1, B ++ []) else .inl j)
        by_cases cj : p.1 j = nI 41
        · rw [if_pos cj, List.append_nil]
          have hj2 := hN.ltc s2 cj (by decide)
          have e3 : xm (d + (dd' + 3 + 3)) 52 [.ref Q, .int (nI 41)] (oh 4 (oh 3 h A T2) Q S2) = _ := k_take (d + dd' + 5) hs (hh.mv hs T2) v2.r.1 v2.2.2.2.1 s2 v2.2.2.2.2.1 ((cK_c (by decide)).mpr cj) (by omega)
          refine ⟨by omega, hj2, by omega, _, T2, ?_, v2.at (j + 1), t2⟩
          rw [e00]
          simp (disch := omega) only [q_62_0, q_62_1, q_62_4, q_62_5, q_62_6, q_62_7, q_62_10, q_62_11, q_62_12, q_62_13, q_62_16, q_62_17, q_62_20, q_62_21, q_62_22, q_62_25, q_62_26, q_62_27, q_62_30, q_62_33, q_62_34, q_62_35, q_62_38, q_62_39, q_62_40, q_62_41, q_62_44, q_62_45, q_62_46, q_62_49, q_62_50, q_62_51, q_62_54, q_62_57, q_62_58, q_62_59, q_62_62, q_62_63, q_62_64, q_62_67, q_62_70, q_62_71, q_62_73, q_62_76, q_62_77, q_62_78, q_62_81, q_62_82, q_62_83, q_62_86, q_62_87, q_62_90, q_62_93, q_62_94, q_62_96, q_62_99, q_62_100, q_62_102, q_62_105, q_62_106, q_62_107, q_62_110, q_62_111, q_62_112, q_62_115, q_62_116, q_62_117, q_62_118, q_62_119, q_62_122, q_62_123, q_62_125, q_62_126, q_62_129, q_62_132, q_62_133, q_62_135, q_62_138, q_62_139, q_62_141, q_62_144, q_62_145, q_62_146, q_62_149, q_62_150, q_62_151, q_62_154, q_62_155, q_62_156, q_62_157, q_62_158, q_62_161, q_62_162, q_62_164, q_62_167, q_62_170, q_62_171, q_62_172, q_62_175, og_4_13, op_4_13, og_4_14, op_4_14, o_is, o_ob, ofs_len4, ↓reduceIte, k_cr, k_ci, k_oR, k_oN, k_aR, k_aN, and_true, true_and, and_self, eq_self, Nat.reduceLT, Nat.reduceLeDiff, Nat.reduceEqDiff, Nat.reduceAdd, Nat.reduceMul, Bool.true_eq_false, Bool.false_eq_true, Nat.add_sub_cancel, Nat.not_lt_zero, Nat.zero_le, k_sub, k_sb1, k_r, k_n, k_ret, k_t1, k_t0, k_nr, k_nn, k_z0, k_z1, k_zb, x_okI, lit_nI, k_in, k_cl, k_lt, k_le, k_eq, k_neg, nI_add, nI_mul, k_clt, k_cgt, k_cle, k_cge, k_ceq, bI_0, k_sh8, ne_eq, Nat.add_eq_zero_iff, Nat.one_ne_zero, Nat.succ_ne_zero, and_false, false_and, not_false_eq_true, not_true_eq_false, ite_true, ite_false, if_true, if_false, eK, n20, q3, h13, e2, e3]
        · rw [if_neg cj]
          have e3 : xm (d + (dd' + 3 + 3)) 52 [.ref Q, .int (nI 41)] (oh 4 (oh 3 h A T2) Q S2) = _ := k_takeX (d + dd' + 5) hs (hh.mv hs T2) v2.r.1 v2.2.2.2.1 s2 v2.2.2.2.2.1 (fun q => cj ((cK_c (by decide)).mp q))
          refine ⟨s2, _, T2, ?_, v2.bad (by rw [List.length_append, List.length_map]; omega), t2.1⟩
          rw [e00]
          simp (disch := omega) only [q_62_0, q_62_1, q_62_4, q_62_5, q_62_6, q_62_7, q_62_10, q_62_11, q_62_12, q_62_13, q_62_16, q_62_17, q_62_20, q_62_21, q_62_22, q_62_25, q_62_26, q_62_27, q_62_30, q_62_33, q_62_34, q_62_35, q_62_38, q_62_39, q_62_40, q_62_41, q_62_44, q_62_45, q_62_46, q_62_49, q_62_50, q_62_51, q_62_54, q_62_57, q_62_58, q_62_59, q_62_62, q_62_63, q_62_64, q_62_67, q_62_70, q_62_71, q_62_73, q_62_76, q_62_77, q_62_78, q_62_81, q_62_82, q_62_83, q_62_86, q_62_87, q_62_90, q_62_93, q_62_94, q_62_96, q_62_99, q_62_100, q_62_102, q_62_105, q_62_106, q_62_107, q_62_110, q_62_111, q_62_112, q_62_115, q_62_116, q_62_117, q_62_118, q_62_119, q_62_122, q_62_123, q_62_125, q_62_126, q_62_129, q_62_132, q_62_133, q_62_135, q_62_138, q_62_139, q_62_141, q_62_144, q_62_145, q_62_146, q_62_149, q_62_150, q_62_151, q_62_154, q_62_155, q_62_156, q_62_157, q_62_158, q_62_161, q_62_162, q_62_164, q_62_167, q_62_170, q_62_171, q_62_172, q_62_175, og_4_13, op_4_13, og_4_14, op_4_14, o_is, o_ob, ofs_len4, ↓reduceIte, k_cr, k_ci, k_oR, k_oN, k_aR, k_aN, and_true, true_and, and_self, eq_self, Nat.reduceLT, Nat.reduceLeDiff, Nat.reduceEqDiff, Nat.reduceAdd, Nat.reduceMul, Bool.true_eq_false, Bool.false_eq_true, Nat.add_sub_cancel, Nat.not_lt_zero, Nat.zero_le, k_sub, k_sb1, k_r, k_n, k_ret, k_t1, k_t0, k_nr, k_nn, k_z0, k_z1, k_zb, x_okI, lit_nI, k_in, k_cl, k_lt, k_le, k_eq, k_neg, nI_add, nI_mul, k_clt, k_cgt, k_cle, k_cge, k_ceq, bI_0, k_sh8, ne_eq, Nat.add_eq_zero_iff, Nat.one_ne_zero, Nat.succ_ne_zero, and_false, false_and, not_false_eq_true, not_true_eq_false, ite_true, ite_false, if_true, if_false, eK, n20, q3, h13, e2, e3]
  rw [if_neg c2]
  have n40 : ¬ cK p i = nI 40 := fun q => c2 ((cK_c (by decide)).mp q)
  by_cases c3 : p.1 i = nI 2
  · rw [if_pos c3]
    have hj := hN.ltc hi c3 (by decide)
    rw [cK_num.mpr c3] at eK
    have eW : xm (d + (dd + 3)) 49 [.ref Q] (oh 4 h Q S) = some (some (.long (p.2.2 i)), oh 4 h Q S) := k_word (d + dd + 2) hs hh r0 h13 hi
    have eE : xm (d + (dd + 3)) 63 [.ref Q, .int (nI 1), .int (p.2.2 i).toInt32] (oh 4 h Q S) = _ := k_emit (Q := Q) (h := h) (d + dd + 2) (c := nI 1) (o := (p.2.2 i).toInt32) h4 (by omega)
    refine ⟨by omega, hj, by rw [one]; omega, uI (emS S C.length (nI 1) (p.2.2 i).toInt32) 13 (nI (i + 1)), T, ?_, ?_, (keV.nil _ T).no (by show ¬ (nI 1 = nI 3 ∨ nI 1 = nI 4 ∨ nI 1 = nI 5); decide)⟩
    · rw [hh.same, e00]
      unfold emS at eE ⊢
      simp (disch := omega) only [q_62_0, q_62_1, q_62_4, q_62_5, q_62_6, q_62_7, q_62_10, q_62_11, q_62_12, q_62_13, q_62_16, q_62_17, q_62_20, q_62_21, q_62_22, q_62_25, q_62_26, q_62_27, q_62_30, q_62_33, q_62_34, q_62_35, q_62_38, q_62_39, q_62_40, q_62_41, q_62_44, q_62_45, q_62_46, q_62_49, q_62_50, q_62_51, q_62_54, q_62_57, q_62_58, q_62_59, q_62_62, q_62_63, q_62_64, q_62_67, q_62_70, q_62_71, q_62_73, q_62_76, q_62_77, q_62_78, q_62_81, q_62_82, q_62_83, q_62_86, q_62_87, q_62_90, q_62_93, q_62_94, q_62_96, q_62_99, q_62_100, q_62_102, q_62_105, q_62_106, q_62_107, q_62_110, q_62_111, q_62_112, q_62_115, q_62_116, q_62_117, q_62_118, q_62_119, q_62_122, q_62_123, q_62_125, q_62_126, q_62_129, q_62_132, q_62_133, q_62_135, q_62_138, q_62_139, q_62_141, q_62_144, q_62_145, q_62_146, q_62_149, q_62_150, q_62_151, q_62_154, q_62_155, q_62_156, q_62_157, q_62_158, q_62_161, q_62_162, q_62_164, q_62_167, q_62_170, q_62_171, q_62_172, q_62_175, og_4_13, op_4_13, og_4_14, op_4_14, o_is, o_ob, ofs_len4, ↓reduceIte, k_cr, k_ci, k_oR, k_oN, k_aR, k_aN, and_true, true_and, and_self, eq_self, Nat.reduceLT, Nat.reduceLeDiff, Nat.reduceEqDiff, Nat.reduceAdd, Nat.reduceMul, Bool.true_eq_false, Bool.false_eq_true, Nat.add_sub_cancel, Nat.not_lt_zero, Nat.zero_le, k_sub, k_sb1, k_r, k_n, k_ret, k_t1, k_t0, k_nr, k_nn, k_z0, k_z1, k_zb, x_okI, lit_nI, k_in, k_cl, k_lt, k_le, k_eq, k_neg, nI_add, nI_mul, k_clt, k_cgt, k_cle, k_cge, k_ceq, bI_0, k_sh8, ne_eq, Nat.add_eq_zero_iff, Nat.one_ne_zero, Nat.succ_ne_zero, and_false, false_and, not_false_eq_true, not_true_eq_false, ite_true, ite_false, if_true, if_false, sI_uI, sJ_uI, sA_uI, sL_uI, sR_uI, sQ_uI, sI_uJ, sJ_uJ, sA_uJ, sL_uJ, sR_uJ, sQ_uJ, sI_uA, sJ_uA, sA_uA, sL_uA, sR_uA, sQ_uA, sI_uL, sJ_uL, sA_uL, sL_uL, sR_uL, sQ_uL, sI_uR, sJ_uR, sA_uR, sL_uR, sR_uR, sQ_uR, sI_uQ, sJ_uQ, sA_uQ, sL_uQ, sR_uQ, sQ_uQ, eK, eW, eE, h13]
    · rw [one_flat, actB_no _ (show ¬ (nI 1 = nI 3 ∨ nI 1 = nI 4 ∨ nI 1 = nI 5) by decide)]
      exact (hv.em (nI 1) (p.2.2 i).toInt32).at (i + 1)
  rw [if_neg c3]
  have n3 : ¬ cK p i = nI 3 := fun q => c3 (cK_num.mp q)
  by_cases c4 : pWd p i 7038329 = true
  · rw [if_pos c4]
    have c4' : p.1 i = nI 1 := by
      unfold pWd at c4
      rw [Bool.and_eq_true, decide_eq_true_eq] at c4
      exact c4.1
    have hj := hN.ltc hi c4' (by decide)
    rw [(cK_wd hkp (Or.inl ⟨rfl, rfl⟩)).mpr c4] at eK
    have eE : xm (d + (dd + 3)) 63 [.ref Q, .int (nI 2), .int (nI 0)] (oh 4 h Q S) = _ := k_emit (Q := Q) (h := h) (d + dd + 2) (c := nI 2) (o := nI 0) h4 (by omega)
    refine ⟨by omega, hj, by rw [one]; omega, uI (emS S C.length (nI 2) (nI 0)) 13 (nI (i + 1)), T, ?_, ?_, (keV.nil _ T).no (by show ¬ (nI 2 = nI 3 ∨ nI 2 = nI 4 ∨ nI 2 = nI 5); decide)⟩
    · rw [hh.same, e00]
      unfold emS at eE ⊢
      simp (disch := omega) only [q_62_0, q_62_1, q_62_4, q_62_5, q_62_6, q_62_7, q_62_10, q_62_11, q_62_12, q_62_13, q_62_16, q_62_17, q_62_20, q_62_21, q_62_22, q_62_25, q_62_26, q_62_27, q_62_30, q_62_33, q_62_34, q_62_35, q_62_38, q_62_39, q_62_40, q_62_41, q_62_44, q_62_45, q_62_46, q_62_49, q_62_50, q_62_51, q_62_54, q_62_57, q_62_58, q_62_59, q_62_62, q_62_63, q_62_64, q_62_67, q_62_70, q_62_71, q_62_73, q_62_76, q_62_77, q_62_78, q_62_81, q_62_82, q_62_83, q_62_86, q_62_87, q_62_90, q_62_93, q_62_94, q_62_96, q_62_99, q_62_100, q_62_102, q_62_105, q_62_106, q_62_107, q_62_110, q_62_111, q_62_112, q_62_115, q_62_116, q_62_117, q_62_118, q_62_119, q_62_122, q_62_123, q_62_125, q_62_126, q_62_129, q_62_132, q_62_133, q_62_135, q_62_138, q_62_139, q_62_141, q_62_144, q_62_145, q_62_146, q_62_149, q_62_150, q_62_151, q_62_154, q_62_155, q_62_156, q_62_157, q_62_158, q_62_161, q_62_162, q_62_164, q_62_167, q_62_170, q_62_171, q_62_172, q_62_175, og_4_13, op_4_13, og_4_14, op_4_14, o_is, o_ob, ofs_len4, ↓reduceIte, k_cr, k_ci, k_oR, k_oN, k_aR, k_aN, and_true, true_and, and_self, eq_self, Nat.reduceLT, Nat.reduceLeDiff, Nat.reduceEqDiff, Nat.reduceAdd, Nat.reduceMul, Bool.true_eq_false, Bool.false_eq_true, Nat.add_sub_cancel, Nat.not_lt_zero, Nat.zero_le, k_sub, k_sb1, k_r, k_n, k_ret, k_t1, k_t0, k_nr, k_nn, k_z0, k_z1, k_zb, x_okI, lit_nI, k_in, k_cl, k_lt, k_le, k_eq, k_neg, nI_add, nI_mul, k_clt, k_cgt, k_cle, k_cge, k_ceq, bI_0, k_sh8, ne_eq, Nat.add_eq_zero_iff, Nat.one_ne_zero, Nat.succ_ne_zero, and_false, false_and, not_false_eq_true, not_true_eq_false, ite_true, ite_false, if_true, if_false, sI_uI, sJ_uI, sA_uI, sL_uI, sR_uI, sQ_uI, sI_uJ, sJ_uJ, sA_uJ, sL_uJ, sR_uJ, sQ_uJ, sI_uA, sJ_uA, sA_uA, sL_uA, sR_uA, sQ_uA, sI_uL, sJ_uL, sA_uL, sL_uL, sR_uL, sQ_uL, sI_uR, sJ_uR, sA_uR, sL_uR, sR_uR, sQ_uR, sI_uQ, sJ_uQ, sA_uQ, sL_uQ, sR_uQ, sQ_uQ, eK, eE, h13]
    · rw [one_flat, actB_no _ (show ¬ (nI 2 = nI 3 ∨ nI 2 = nI 4 ∨ nI 2 = nI 5) by decide)]
      exact (hv.em (nI 2) (nI 0)).at (i + 1)
  rw [if_neg c4]
  have n4 : ¬ cK p i = nI 4 := fun q => c4 ((cK_wd hkp (Or.inl ⟨rfl, rfl⟩)).mp q)
  by_cases c5 : p.1 i = nI 35
  · rw [if_pos c5]
    have hj := hN.ltc hi c5 (by decide)
    rw [(cK_c (by decide)).mpr c5] at eK
    obtain ⟨T', S1, t1, v2, go⟩ := k_count (d + dd + 1) hs hh v1 hj (by omega)
    have go : ∀ S2, xm (d + (dd + 2)) 52 [.ref Q, .int (nI 2)] (oh 4 (oh 3 h A T') Q S1) = some (none, oh 4 (oh 3 h A T') Q S2) → xm (d + (dd + 3)) 66 [.ref Q] (oh 4 h Q (uI S 13 (nI (i + 1)))) = some (none, oh 4 (oh 3 h A T') Q S2) := go
    by_cases c6 : pNm p (i + 1) = true
    · rw [if_pos c6]
      have hj2 := hN.ltc hj (pNm_1 c6).1 (by decide)
      have eC := go _ (k_take (d + dd + 1) hs (hh.mv hs T') v2.r.1 v2.2.2.2.1 hj v2.2.2.2.2.1 (cK_nm.mpr c6) (by omega))
      refine ⟨by omega, hj2, by rw [one]; omega, uI S1 13 (nI (i + 2)), T', ?_, ?_, t1⟩
      · rw [e00]
        simp (disch := omega) only [q_62_0, q_62_1, q_62_4, q_62_5, q_62_6, q_62_7, q_62_10, q_62_11, q_62_12, q_62_13, q_62_16, q_62_17, q_62_20, q_62_21, q_62_22, q_62_25, q_62_26, q_62_27, q_62_30, q_62_33, q_62_34, q_62_35, q_62_38, q_62_39, q_62_40, q_62_41, q_62_44, q_62_45, q_62_46, q_62_49, q_62_50, q_62_51, q_62_54, q_62_57, q_62_58, q_62_59, q_62_62, q_62_63, q_62_64, q_62_67, q_62_70, q_62_71, q_62_73, q_62_76, q_62_77, q_62_78, q_62_81, q_62_82, q_62_83, q_62_86, q_62_87, q_62_90, q_62_93, q_62_94, q_62_96, q_62_99, q_62_100, q_62_102, q_62_105, q_62_106, q_62_107, q_62_110, q_62_111, q_62_112, q_62_115, q_62_116, q_62_117, q_62_118, q_62_119, q_62_122, q_62_123, q_62_125, q_62_126, q_62_129, q_62_132, q_62_133, q_62_135, q_62_138, q_62_139, q_62_141, q_62_144, q_62_145, q_62_146, q_62_149, q_62_150, q_62_151, q_62_154, q_62_155, q_62_156, q_62_157, q_62_158, q_62_161, q_62_162, q_62_164, q_62_167, q_62_170, q_62_171, q_62_172, q_62_175, og_4_13, op_4_13, og_4_14, op_4_14, o_is, o_ob, ofs_len4, ↓reduceIte, k_cr, k_ci, k_oR, k_oN, k_aR, k_aN, and_true, true_and, and_self, eq_self, Nat.reduceLT, Nat.reduceLeDiff, Nat.reduceEqDiff, Nat.reduceAdd, Nat.reduceMul, Bool.true_eq_false, Bool.false_eq_true, Nat.add_sub_cancel, Nat.not_lt_zero, Nat.zero_le, k_sub, k_sb1, k_r, k_n, k_ret, k_t1, k_t0, k_nr, k_nn, k_z0, k_z1, k_zb, x_okI, lit_nI, k_in, k_cl, k_lt, k_le, k_eq, k_neg, nI_add, nI_mul, k_clt, k_cgt, k_cle, k_cge, k_ceq, bI_0, k_sh8, ne_eq, Nat.add_eq_zero_iff, Nat.one_ne_zero, Nat.succ_ne_zero, and_false, false_and, not_false_eq_true, not_true_eq_false, ite_true, ite_false, if_true, if_false, eK, h13, eC]
      · rw [one_flat]
        exact v2.at (i + 2)
    · rw [if_neg c6]
      have eC := go _ (k_takeX (d + dd + 1) hs (hh.mv hs T') v2.r.1 v2.2.2.2.1 hj v2.2.2.2.2.1 (fun q => c6 (cK_nm.mp q)))
      refine ⟨hj, _, T', ?_, v2.bad (by rw [List.length_append, List.length_singleton]; omega), t1.1⟩
      rw [e00]
      simp (disch := omega) only [q_62_0, q_62_1, q_62_4, q_62_5, q_62_6, q_62_7, q_62_10, q_62_11, q_62_12, q_62_13, q_62_16, q_62_17, q_62_20, q_62_21, q_62_22, q_62_25, q_62_26, q_62_27, q_62_30, q_62_33, q_62_34, q_62_35, q_62_38, q_62_39, q_62_40, q_62_41, q_62_44, q_62_45, q_62_46, q_62_49, q_62_50, q_62_51, q_62_54, q_62_57, q_62_58, q_62_59, q_62_62, q_62_63, q_62_64, q_62_67, q_62_70, q_62_71, q_62_73, q_62_76, q_62_77, q_62_78, q_62_81, q_62_82, q_62_83, q_62_86, q_62_87, q_62_90, q_62_93, q_62_94, q_62_96, q_62_99, q_62_100, q_62_102, q_62_105, q_62_106, q_62_107, q_62_110, q_62_111, q_62_112, q_62_115, q_62_116, q_62_117, q_62_118, q_62_119, q_62_122, q_62_123, q_62_125, q_62_126, q_62_129, q_62_132, q_62_133, q_62_135, q_62_138, q_62_139, q_62_141, q_62_144, q_62_145, q_62_146, q_62_149, q_62_150, q_62_151, q_62_154, q_62_155, q_62_156, q_62_157, q_62_158, q_62_161, q_62_162, q_62_164, q_62_167, q_62_170, q_62_171, q_62_172, q_62_175, og_4_13, op_4_13, og_4_14, op_4_14, o_is, o_ob, ofs_len4, ↓reduceIte, k_cr, k_ci, k_oR, k_oN, k_aR, k_aN, and_true, true_and, and_self, eq_self, Nat.reduceLT, Nat.reduceLeDiff, Nat.reduceEqDiff, Nat.reduceAdd, Nat.reduceMul, Bool.true_eq_false, Bool.false_eq_true, Nat.add_sub_cancel, Nat.not_lt_zero, Nat.zero_le, k_sub, k_sb1, k_r, k_n, k_ret, k_t1, k_t0, k_nr, k_nn, k_z0, k_z1, k_zb, x_okI, lit_nI, k_in, k_cl, k_lt, k_le, k_eq, k_neg, nI_add, nI_mul, k_clt, k_cgt, k_cle, k_cge, k_ceq, bI_0, k_sh8, ne_eq, Nat.add_eq_zero_iff, Nat.one_ne_zero, Nat.succ_ne_zero, and_false, false_and, not_false_eq_true, not_true_eq_false, ite_true, ite_false, if_true, if_false, eK, h13, eC]
  rw [if_neg c5]
  have n35 : ¬ cK p i = nI 35 := fun q => c5 ((cK_c (by decide)).mp q)
  by_cases c6 : pNm p i = true
  · rw [if_pos c6]
    have hj := hN.ltc hi (pNm_1 c6).1 (by decide)
    rw [cK_nm.mpr c6] at eK
    by_cases c7 : p.1 (i + 1) = nI 91
    · rw [if_pos c7]
      have hj2 := hN.ltc hj c7 (by decide)
      obtain ⟨T1, S1, t1, v2, en⟩ := k_named (d + dd + 1) (k := k) true hs hh hv hj (decide_eq_true c7)
      rw [if_pos rfl] at t1 v2
      have en : xm (d + (dd + 3)) 64 [.ref Q, .int (nI k)] (oh 4 h Q S) = xrun (d + (dd + 2)) 64 87 [(1, .ref Q), (1, .int (nI k)), (1, .int (oI ((eC SK nO).1 (p.2.2 i)))), (1, .int (nI (p.2.1 i))), (1, .int (bI true))] [] (oh 4 (oh 3 h A T1) Q S1) := en
      have h13' := v2.2.2.2.1
      generalize hso : oI ((eC SK nO).1 (p.2.2 i)) = so at en
      rcases hr with ⟨q1, q2⟩ | ⟨g, dd', q1, q2, q3, hg⟩
      · subst q1
        have h20 : 20 ≤ k := by omega
        have n20 : ¬ k < 20 := by omega
        have e2 : xrun (d + (dd + 2)) 64 87 [(1, .ref Q), (1, .int (nI k)), (1, .int so), (1, .int (nI (p.2.1 i))), (1, .int (bI true))] [] (oh 4 (oh 3 h A T1) Q S1) = some (none, oh 4 (oh 3 h A T1) Q (uI S1 14 (nI 1))) := by
          simp (disch := omega) only [q_64_87, q_64_89, q_64_92, q_64_93, q_64_94, q_64_95, q_64_98, q_64_101, q_64_102, q_64_104, q_64_107, q_64_108, q_64_109, q_64_112, q_64_113, q_64_114, q_64_117, q_64_118, q_64_119, q_64_120, q_64_121, q_64_124, q_64_125, q_64_127, q_64_130, q_64_131, q_64_132, q_64_133, q_64_136, q_64_139, q_64_140, q_64_141, q_64_144, og_4_9, og_4_13, op_4_13, og_4_11, og_4_14, op_4_14, o_is, o_ob, ofs_len4, ↓reduceIte, k_cr, k_ci, k_oR, k_oN, k_aR, k_aN, and_true, true_and, and_self, eq_self, Nat.reduceLT, Nat.reduceLeDiff, Nat.reduceEqDiff, Nat.reduceAdd, Nat.reduceMul, Bool.true_eq_false, Bool.false_eq_true, Nat.add_sub_cancel, Nat.not_lt_zero, Nat.zero_le, k_sub, k_sb1, k_r, k_n, k_ret, k_t1, k_t0, k_nr, k_nn, k_z0, k_z1, k_zb, x_okI, lit_nI, k_in, k_cl, k_lt, k_le, k_eq, k_neg, nI_add, nI_mul, k_clt, k_cgt, k_cle, k_cge, k_ceq, bI_0, k_sh8, ne_eq, Nat.add_eq_zero_iff, Nat.one_ne_zero, Nat.succ_ne_zero, and_false, false_and, not_false_eq_true, not_true_eq_false, ite_true, ite_false, if_true, if_false, bI_t, h20, n20]
        refine ⟨hj, _, T1, ?_, v2.bad (by omega), t1.1⟩
        rw [e00]
        rw [e2] at en
        simp (disch := omega) only [q_62_0, q_62_1, q_62_4, q_62_5, q_62_6, q_62_7, q_62_10, q_62_11, q_62_12, q_62_13, q_62_16, q_62_17, q_62_20, q_62_21, q_62_22, q_62_25, q_62_26, q_62_27, q_62_30, q_62_33, q_62_34, q_62_35, q_62_38, q_62_39, q_62_40, q_62_41, q_62_44, q_62_45, q_62_46, q_62_49, q_62_50, q_62_51, q_62_54, q_62_57, q_62_58, q_62_59, q_62_62, q_62_63, q_62_64, q_62_67, q_62_70, q_62_71, q_62_73, q_62_76, q_62_77, q_62_78, q_62_81, q_62_82, q_62_83, q_62_86, q_62_87, q_62_90, q_62_93, q_62_94, q_62_96, q_62_99, q_62_100, q_62_102, q_62_105, q_62_106, q_62_107, q_62_110, q_62_111, q_62_112, q_62_115, q_62_116, q_62_117, q_62_118, q_62_119, q_62_122, q_62_123, q_62_125, q_62_126, q_62_129, q_62_132, q_62_133, q_62_135, q_62_138, q_62_139, q_62_141, q_62_144, q_62_145, q_62_146, q_62_149, q_62_150, q_62_151, q_62_154, q_62_155, q_62_156, q_62_157, q_62_158, q_62_161, q_62_162, q_62_164, q_62_167, q_62_170, q_62_171, q_62_172, q_62_175, og_4_13, op_4_13, og_4_14, op_4_14, o_is, o_ob, ofs_len4, ↓reduceIte, k_cr, k_ci, k_oR, k_oN, k_aR, k_aN, and_true, true_and, and_self, eq_self, Nat.reduceLT, Nat.reduceLeDiff, Nat.reduceEqDiff, Nat.reduceAdd, Nat.reduceMul, Bool.true_eq_false, Bool.false_eq_true, Nat.add_sub_cancel, Nat.not_lt_zero, Nat.zero_le, k_sub, k_sb1, k_r, k_n, k_ret, k_t1, k_t0, k_nr, k_nn, k_z0, k_z1, k_zb, x_okI, lit_nI, k_in, k_cl, k_lt, k_le, k_eq, k_neg, nI_add, nI_mul, k_clt, k_cgt, k_cle, k_cge, k_ceq, bI_0, k_sh8, ne_eq, Nat.add_eq_zero_iff, Nat.one_ne_zero, Nat.succ_ne_zero, and_false, false_and, not_false_eq_true, not_true_eq_false, ite_true, ite_false, if_true, if_false, eK, en]
      · subst q1
        subst q2
        have n20 : ¬ 20 ≤ k := by omega
        have hr := smc_ok hg hs d (hh.mv hs T1) (v2.at (i + 2)) (by omega) hj2
        show fcR _ Q P κ A S0 (eC SK nO) N k i z C S T h (eClo p (nI 93) [(nI 4, p.2.2 i, p.2.1 i)] (smF p g (i + 2)))
        cases hgq : smF p g (i + 2) with
        | inl q =>
          rw [hgq] at hr
          obtain ⟨s0, S2, T2, e2, x2, f2⟩ := hr
          rw [oh_oh] at e2
          have e2 : xm (d + (dd' + 3 + 2)) 61 [.ref Q, .int (nI (k + 1))] (oh 4 (oh 3 h A T1) Q (uI S1 13 (nI (i + 2)))) = _ := e2
          have e3 : xm (d + (dd' + 3 + 2)) 52 [.ref Q, .int (nI 93)] (oh 4 (oh 3 h A T2) Q S2) = _ := k_takeF (d + dd' + 4) (c := nI 93) hs (hh.mv hs T2) x2.r.1 x2.2.2.2.1 s0 x2.2.2.2.2.1
          obtain ⟨S3, e4, x3⟩ := x2.em (d + dd' + 4) Q (oh 3 h A T2) (nI 5) so
          have e4 : xm (d + (dd' + 3 + 2)) 63 [.ref Q, .int (nI 5), .int so] (oh 4 (oh 3 h A T2) Q S2) = _ := e4
          have e5 : xrun (d + (dd' + 3 + 2)) 64 87 [(1, .ref Q), (1, .int (nI k)), (1, .int so), (1, .int (nI (p.2.1 i))), (1, .int (bI true))] [] (oh 4 (oh 3 h A T1) Q S1) = some (none, oh 4 (oh 3 h A T2) Q S3) := by
            simp (disch := omega) only [q_64_87, q_64_89, q_64_92, q_64_93, q_64_94, q_64_95, q_64_98, q_64_101, q_64_102, q_64_104, q_64_107, q_64_108, q_64_109, q_64_112, q_64_113, q_64_114, q_64_117, q_64_118, q_64_119, q_64_120, q_64_121, q_64_124, q_64_125, q_64_127, q_64_130, q_64_131, q_64_132, q_64_133, q_64_136, q_64_139, q_64_140, q_64_141, q_64_144, og_4_9, og_4_13, op_4_13, og_4_11, og_4_14, op_4_14, o_is, o_ob, ofs_len4, ↓reduceIte, k_cr, k_ci, k_oR, k_oN, k_aR, k_aN, and_true, true_and, and_self, eq_self, Nat.reduceLT, Nat.reduceLeDiff, Nat.reduceEqDiff, Nat.reduceAdd, Nat.reduceMul, Bool.true_eq_false, Bool.false_eq_true, Nat.add_sub_cancel, Nat.not_lt_zero, Nat.zero_le, k_sub, k_sb1, k_r, k_n, k_ret, k_t1, k_t0, k_nr, k_nn, k_z0, k_z1, k_zb, x_okI, lit_nI, k_in, k_cl, k_lt, k_le, k_eq, k_neg, nI_add, nI_mul, k_clt, k_cgt, k_cle, k_cge, k_ceq, bI_0, k_sh8, ne_eq, Nat.add_eq_zero_iff, Nat.one_ne_zero, Nat.succ_ne_zero, and_false, false_and, not_false_eq_true, not_true_eq_false, ite_true, ite_false, if_true, if_false, bI_t, n20, q3, h13', e2, e3, e4]
          refine ⟨s0, S3, T2, ?_, x3, t1.1.trans f2⟩
          rw [e00]
          rw [e5] at en
          simp (disch := omega) only [q_62_0, q_62_1, q_62_4, q_62_5, q_62_6, q_62_7, q_62_10, q_62_11, q_62_12, q_62_13, q_62_16, q_62_17, q_62_20, q_62_21, q_62_22, q_62_25, q_62_26, q_62_27, q_62_30, q_62_33, q_62_34, q_62_35, q_62_38, q_62_39, q_62_40, q_62_41, q_62_44, q_62_45, q_62_46, q_62_49, q_62_50, q_62_51, q_62_54, q_62_57, q_62_58, q_62_59, q_62_62, q_62_63, q_62_64, q_62_67, q_62_70, q_62_71, q_62_73, q_62_76, q_62_77, q_62_78, q_62_81, q_62_82, q_62_83, q_62_86, q_62_87, q_62_90, q_62_93, q_62_94, q_62_96, q_62_99, q_62_100, q_62_102, q_62_105, q_62_106, q_62_107, q_62_110, q_62_111, q_62_112, q_62_115, q_62_116, q_62_117, q_62_118, q_62_119, q_62_122, q_62_123, q_62_125, q_62_126, q_62_129, q_62_132, q_62_133, q_62_135, q_62_138, q_62_139, q_62_141, q_62_144, q_62_145, q_62_146, q_62_149, q_62_150, q_62_151, q_62_154, q_62_155, q_62_156, q_62_157, q_62_158, q_62_161, q_62_162, q_62_164, q_62_167, q_62_170, q_62_171, q_62_172, q_62_175, og_4_13, op_4_13, og_4_14, op_4_14, o_is, o_ob, ofs_len4, ↓reduceIte, k_cr, k_ci, k_oR, k_oN, k_aR, k_aN, and_true, true_and, and_self, eq_self, Nat.reduceLT, Nat.reduceLeDiff, Nat.reduceEqDiff, Nat.reduceAdd, Nat.reduceMul, Bool.true_eq_false, Bool.false_eq_true, Nat.add_sub_cancel, Nat.not_lt_zero, Nat.zero_le, k_sub, k_sb1, k_r, k_n, k_ret, k_t1, k_t0, k_nr, k_nn, k_z0, k_z1, k_zb, x_okI, lit_nI, k_in, k_cl, k_lt, k_le, k_eq, k_neg, nI_add, nI_mul, k_clt, k_cgt, k_cle, k_cge, k_ceq, bI_0, k_sh8, ne_eq, Nat.add_eq_zero_iff, Nat.one_ne_zero, Nat.succ_ne_zero, and_false, false_and, not_false_eq_true, not_true_eq_false, ite_true, ite_false, if_true, if_false, eK, en]
        | inr y =>
          obtain ⟨j, B⟩ := y
          rw [hgq] at hr
          obtain ⟨s1, s2, s3, S2, T2, e2, v3, t2⟩ := hr
          rw [oh_oh] at e2
          have e2 : xm (d + (dd' + 3 + 2)) 61 [.ref Q, .int (nI (k + 1))] (oh 4 (oh 3 h A T1) Q (uI S1 13 (nI (i + 2)))) = _ := e2
          have hlen : (C ++ B.map (cod (eC SK nO))).length = C.length + B.length := by rw [List.length_append, List.length_map]
          show fcR _ Q P κ A S0 (eC SK nO) N k i z C S T h (if p.1 j = nI 93 then .inr (j + 1, B ++ [(nI 4, p.2.2 i, p.2.1 i)]) else .inl j)
          by_cases cj : p.1 j = nI 93
          · rw [if_pos cj]
            have hj3 := hN.ltc s2 cj (by decide)
            have e3 : xm (d + (dd' + 3 + 2)) 52 [.ref Q, .int (nI 93)] (oh 4 (oh 3 h A T2) Q S2) = _ := k_take (d + dd' + 4) hs (hh.mv hs T2) v3.r.1 v3.2.2.2.1 s2 v3.2.2.2.2.1 ((cK_c (by decide)).mpr cj) (by omega)
            have v4 := v3.at (j + 1)
            have e4 : xm (d + (dd' + 3 + 2)) 63 [.ref Q, .int (nI 5), .int so] (oh 4 (oh 3 h A T2) Q (uI S2 13 (nI (j + 1)))) = _ := k_emit (Q := Q) (h := oh 3 h A T2) (d + dd' + 4) (c := nI 5) (o := so) v4.2.2.2.2.2.2.2.1.1 (by omega)
            have e5 : xrun (d + (dd' + 3 + 2)) 64 87 [(1, .ref Q), (1, .int (nI k)), (1, .int so), (1, .int (nI (p.2.1 i))), (1, .int (bI true))] [] (oh 4 (oh 3 h A T1) Q S1) = some (none, oh 4 (oh 3 h A T2) Q (emS (uI S2 13 (nI (j + 1))) (C ++ B.map (cod (eC SK nO))).length (nI 5) so)) := by
              simp (disch := omega) only [q_64_87, q_64_89, q_64_92, q_64_93, q_64_94, q_64_95, q_64_98, q_64_101, q_64_102, q_64_104, q_64_107, q_64_108, q_64_109, q_64_112, q_64_113, q_64_114, q_64_117, q_64_118, q_64_119, q_64_120, q_64_121, q_64_124, q_64_125, q_64_127, q_64_130, q_64_131, q_64_132, q_64_133, q_64_136, q_64_139, q_64_140, q_64_141, q_64_144, og_4_9, og_4_13, op_4_13, og_4_11, og_4_14, op_4_14, o_is, o_ob, ofs_len4, ↓reduceIte, k_cr, k_ci, k_oR, k_oN, k_aR, k_aN, and_true, true_and, and_self, eq_self, Nat.reduceLT, Nat.reduceLeDiff, Nat.reduceEqDiff, Nat.reduceAdd, Nat.reduceMul, Bool.true_eq_false, Bool.false_eq_true, Nat.add_sub_cancel, Nat.not_lt_zero, Nat.zero_le, k_sub, k_sb1, k_r, k_n, k_ret, k_t1, k_t0, k_nr, k_nn, k_z0, k_z1, k_zb, x_okI, lit_nI, k_in, k_cl, k_lt, k_le, k_eq, k_neg, nI_add, nI_mul, k_clt, k_cgt, k_cle, k_cge, k_ceq, bI_0, k_sh8, ne_eq, Nat.add_eq_zero_iff, Nat.one_ne_zero, Nat.succ_ne_zero, and_false, false_and, not_false_eq_true, not_true_eq_false, ite_true, ite_false, if_true, if_false, bI_t, n20, q3, h13', e2, e3, e4]
            refine ⟨by omega, hj3, by rw [List.length_append, one]; omega, emS (uI S2 13 (nI (j + 1))) (C ++ B.map (cod (eC SK nO))).length (nI 5) so, T2, ?_, ?_, ?_⟩
            · rw [e00]
              rw [e5] at en
              simp (disch := omega) only [q_62_0, q_62_1, q_62_4, q_62_5, q_62_6, q_62_7, q_62_10, q_62_11, q_62_12, q_62_13, q_62_16, q_62_17, q_62_20, q_62_21, q_62_22, q_62_25, q_62_26, q_62_27, q_62_30, q_62_33, q_62_34, q_62_35, q_62_38, q_62_39, q_62_40, q_62_41, q_62_44, q_62_45, q_62_46, q_62_49, q_62_50, q_62_51, q_62_54, q_62_57, q_62_58, q_62_59, q_62_62, q_62_63, q_62_64, q_62_67, q_62_70, q_62_71, q_62_73, q_62_76, q_62_77, q_62_78, q_62_81, q_62_82, q_62_83, q_62_86, q_62_87, q_62_90, q_62_93, q_62_94, q_62_96, q_62_99, q_62_100, q_62_102, q_62_105, q_62_106, q_62_107, q_62_110, q_62_111, q_62_112, q_62_115, q_62_116, q_62_117, q_62_118, q_62_119, q_62_122, q_62_123, q_62_125, q_62_126, q_62_129, q_62_132, q_62_133, q_62_135, q_62_138, q_62_139, q_62_141, q_62_144, q_62_145, q_62_146, q_62_149, q_62_150, q_62_151, q_62_154, q_62_155, q_62_156, q_62_157, q_62_158, q_62_161, q_62_162, q_62_164, q_62_167, q_62_170, q_62_171, q_62_172, q_62_175, og_4_13, op_4_13, og_4_14, op_4_14, o_is, o_ob, ofs_len4, ↓reduceIte, k_cr, k_ci, k_oR, k_oN, k_aR, k_aN, and_true, true_and, and_self, eq_self, Nat.reduceLT, Nat.reduceLeDiff, Nat.reduceEqDiff, Nat.reduceAdd, Nat.reduceMul, Bool.true_eq_false, Bool.false_eq_true, Nat.add_sub_cancel, Nat.not_lt_zero, Nat.zero_le, k_sub, k_sb1, k_r, k_n, k_ret, k_t1, k_t0, k_nr, k_nn, k_z0, k_z1, k_zb, x_okI, lit_nI, k_in, k_cl, k_lt, k_le, k_eq, k_neg, nI_add, nI_mul, k_clt, k_cgt, k_cle, k_cge, k_ceq, bI_0, k_sh8, ne_eq, Nat.add_eq_zero_iff, Nat.one_ne_zero, Nat.succ_ne_zero, and_false, false_and, not_false_eq_true, not_true_eq_false, ite_true, ite_false, if_true, if_false, eK, en]
            · rw [flat_app, one_flat, mnF_comm, List.map_append, ← List.append_assoc]
              show cV P κ A S0 _ (j + 1) _ (C ++ B.map (cod (eC SK nO)) ++ [(nI 5, oI ((eC SK nO).1 (p.2.2 i)))])
              rw [hso]
              exact v4.em (nI 5) so
            · exact (t1.app t2).swap
          · rw [if_neg cj]
            have e3 : xm (d + (dd' + 3 + 2)) 52 [.ref Q, .int (nI 93)] (oh 4 (oh 3 h A T2) Q S2) = _ := k_takeX (d + dd' + 4) hs (hh.mv hs T2) v3.r.1 v3.2.2.2.1 s2 v3.2.2.2.2.1 (fun q => cj ((cK_c (by decide)).mp q))
            have x3 := v3.bad (by omega)
            obtain ⟨S3, e4, x4⟩ := x3.em (d + dd' + 4) Q (oh 3 h A T2) (nI 5) so
            have e4 : xm (d + (dd' + 3 + 2)) 63 [.ref Q, .int (nI 5), .int so] (oh 4 (oh 3 h A T2) Q (uI S2 14 (nI 1))) = _ := e4
            have e5 : xrun (d + (dd' + 3 + 2)) 64 87 [(1, .ref Q), (1, .int (nI k)), (1, .int so), (1, .int (nI (p.2.1 i))), (1, .int (bI true))] [] (oh 4 (oh 3 h A T1) Q S1) = some (none, oh 4 (oh 3 h A T2) Q S3) := by
              simp (disch := omega) only [q_64_87, q_64_89, q_64_92, q_64_93, q_64_94, q_64_95, q_64_98, q_64_101, q_64_102, q_64_104, q_64_107, q_64_108, q_64_109, q_64_112, q_64_113, q_64_114, q_64_117, q_64_118, q_64_119, q_64_120, q_64_121, q_64_124, q_64_125, q_64_127, q_64_130, q_64_131, q_64_132, q_64_133, q_64_136, q_64_139, q_64_140, q_64_141, q_64_144, og_4_9, og_4_13, op_4_13, og_4_11, og_4_14, op_4_14, o_is, o_ob, ofs_len4, ↓reduceIte, k_cr, k_ci, k_oR, k_oN, k_aR, k_aN, and_true, true_and, and_self, eq_self, Nat.reduceLT, Nat.reduceLeDiff, Nat.reduceEqDiff, Nat.reduceAdd, Nat.reduceMul, Bool.true_eq_false, Bool.false_eq_true, Nat.add_sub_cancel, Nat.not_lt_zero, Nat.zero_le, k_sub, k_sb1, k_r, k_n, k_ret, k_t1, k_t0, k_nr, k_nn, k_z0, k_z1, k_zb, x_okI, lit_nI, k_in, k_cl, k_lt, k_le, k_eq, k_neg, nI_add, nI_mul, k_clt, k_cgt, k_cle, k_cge, k_ceq, bI_0, k_sh8, ne_eq, Nat.add_eq_zero_iff, Nat.one_ne_zero, Nat.succ_ne_zero, and_false, false_and, not_false_eq_true, not_true_eq_false, ite_true, ite_false, if_true, if_false, bI_t, n20, q3, h13', e2, e3, e4]
            refine ⟨s2, S3, T2, ?_, x4, (t1.app t2).1⟩
            rw [e00]
            rw [e5] at en
            simp (disch := omega) only [q_62_0, q_62_1, q_62_4, q_62_5, q_62_6, q_62_7, q_62_10, q_62_11, q_62_12, q_62_13, q_62_16, q_62_17, q_62_20, q_62_21, q_62_22, q_62_25, q_62_26, q_62_27, q_62_30, q_62_33, q_62_34, q_62_35, q_62_38, q_62_39, q_62_40, q_62_41, q_62_44, q_62_45, q_62_46, q_62_49, q_62_50, q_62_51, q_62_54, q_62_57, q_62_58, q_62_59, q_62_62, q_62_63, q_62_64, q_62_67, q_62_70, q_62_71, q_62_73, q_62_76, q_62_77, q_62_78, q_62_81, q_62_82, q_62_83, q_62_86, q_62_87, q_62_90, q_62_93, q_62_94, q_62_96, q_62_99, q_62_100, q_62_102, q_62_105, q_62_106, q_62_107, q_62_110, q_62_111, q_62_112, q_62_115, q_62_116, q_62_117, q_62_118, q_62_119, q_62_122, q_62_123, q_62_125, q_62_126, q_62_129, q_62_132, q_62_133, q_62_135, q_62_138, q_62_139, q_62_141, q_62_144, q_62_145, q_62_146, q_62_149, q_62_150, q_62_151, q_62_154, q_62_155, q_62_156, q_62_157, q_62_158, q_62_161, q_62_162, q_62_164, q_62_167, q_62_170, q_62_171, q_62_172, q_62_175, og_4_13, op_4_13, og_4_14, op_4_14, o_is, o_ob, ofs_len4, ↓reduceIte, k_cr, k_ci, k_oR, k_oN, k_aR, k_aN, and_true, true_and, and_self, eq_self, Nat.reduceLT, Nat.reduceLeDiff, Nat.reduceEqDiff, Nat.reduceAdd, Nat.reduceMul, Bool.true_eq_false, Bool.false_eq_true, Nat.add_sub_cancel, Nat.not_lt_zero, Nat.zero_le, k_sub, k_sb1, k_r, k_n, k_ret, k_t1, k_t0, k_nr, k_nn, k_z0, k_z1, k_zb, x_okI, lit_nI, k_in, k_cl, k_lt, k_le, k_eq, k_neg, nI_add, nI_mul, k_clt, k_cgt, k_cle, k_cge, k_ceq, bI_0, k_sh8, ne_eq, Nat.add_eq_zero_iff, Nat.one_ne_zero, Nat.succ_ne_zero, and_false, false_and, not_false_eq_true, not_true_eq_false, ite_true, ite_false, if_true, if_false, eK, en]
    · rw [if_neg c7]
      obtain ⟨T1, S1, t1, v2, en⟩ := k_named (d + dd + 1) (k := k) false hs hh hv hj (decide_eq_false c7)
      rw [if_neg (by decide)] at t1 v2
      have en : xm (d + (dd + 3)) 64 [.ref Q, .int (nI k)] (oh 4 h Q S) = xrun (d + (dd + 2)) 64 87 [(1, .ref Q), (1, .int (nI k)), (1, .int (oI ((eC SK nO).1 (p.2.2 i)))), (1, .int (nI (p.2.1 i))), (1, .int (bI false))] [] (oh 4 (oh 3 h A T1) Q S1) := en
      have eE : xm (d + (dd + 2)) 63 [.ref Q, .int (nI 3), .int (oI ((eC SK nO).1 (p.2.2 i)))] (oh 4 (oh 3 h A T1) Q S1) = _ := k_emit (Q := Q) (h := oh 3 h A T1) (d + dd + 1) (c := nI 3) (o := oI ((eC SK nO).1 (p.2.2 i))) v2.2.2.2.2.2.2.2.1.1 (by omega)
      have v3 := v2.em (nI 3) (oI ((eC SK nO).1 (p.2.2 i)))
      have ec : cod (eC SK nO) (nI 3, p.2.2 i, p.2.1 i) = (nI 3, oI ((eC SK nO).1 (p.2.2 i))) := rfl
      refine ⟨by omega, hj, by rw [one]; omega, emS S1 C.length (nI 3) (oI ((eC SK nO).1 (p.2.2 i))), T1, ?_, ?_, t1⟩
      · rw [e00]
        generalize oI ((eC SK nO).1 (p.2.2 i)) = so at en eE
        have e5 : xrun (d + (dd + 2)) 64 87 [(1, .ref Q), (1, .int (nI k)), (1, .int so), (1, .int (nI (p.2.1 i))), (1, .int (bI false))] [] (oh 4 (oh 3 h A T1) Q S1) = some (none, oh 4 (oh 3 h A T1) Q (emS S1 C.length (nI 3) so)) := by
          simp (disch := omega) only [q_64_87, q_64_89, q_64_92, q_64_93, q_64_94, q_64_95, q_64_98, q_64_101, q_64_102, q_64_104, q_64_107, q_64_108, q_64_109, q_64_112, q_64_113, q_64_114, q_64_117, q_64_118, q_64_119, q_64_120, q_64_121, q_64_124, q_64_125, q_64_127, q_64_130, q_64_131, q_64_132, q_64_133, q_64_136, q_64_139, q_64_140, q_64_141, q_64_144, og_4_9, og_4_13, op_4_13, og_4_11, og_4_14, op_4_14, o_is, o_ob, ofs_len4, ↓reduceIte, k_cr, k_ci, k_oR, k_oN, k_aR, k_aN, and_true, true_and, and_self, eq_self, Nat.reduceLT, Nat.reduceLeDiff, Nat.reduceEqDiff, Nat.reduceAdd, Nat.reduceMul, Bool.true_eq_false, Bool.false_eq_true, Nat.add_sub_cancel, Nat.not_lt_zero, Nat.zero_le, k_sub, k_sb1, k_r, k_n, k_ret, k_t1, k_t0, k_nr, k_nn, k_z0, k_z1, k_zb, x_okI, lit_nI, k_in, k_cl, k_lt, k_le, k_eq, k_neg, nI_add, nI_mul, k_clt, k_cgt, k_cle, k_cge, k_ceq, bI_0, k_sh8, ne_eq, Nat.add_eq_zero_iff, Nat.one_ne_zero, Nat.succ_ne_zero, and_false, false_and, not_false_eq_true, not_true_eq_false, ite_true, ite_false, if_true, if_false, bI_f, eE]
        rw [e5] at en
        simp (disch := omega) only [q_62_0, q_62_1, q_62_4, q_62_5, q_62_6, q_62_7, q_62_10, q_62_11, q_62_12, q_62_13, q_62_16, q_62_17, q_62_20, q_62_21, q_62_22, q_62_25, q_62_26, q_62_27, q_62_30, q_62_33, q_62_34, q_62_35, q_62_38, q_62_39, q_62_40, q_62_41, q_62_44, q_62_45, q_62_46, q_62_49, q_62_50, q_62_51, q_62_54, q_62_57, q_62_58, q_62_59, q_62_62, q_62_63, q_62_64, q_62_67, q_62_70, q_62_71, q_62_73, q_62_76, q_62_77, q_62_78, q_62_81, q_62_82, q_62_83, q_62_86, q_62_87, q_62_90, q_62_93, q_62_94, q_62_96, q_62_99, q_62_100, q_62_102, q_62_105, q_62_106, q_62_107, q_62_110, q_62_111, q_62_112, q_62_115, q_62_116, q_62_117, q_62_118, q_62_119, q_62_122, q_62_123, q_62_125, q_62_126, q_62_129, q_62_132, q_62_133, q_62_135, q_62_138, q_62_139, q_62_141, q_62_144, q_62_145, q_62_146, q_62_149, q_62_150, q_62_151, q_62_154, q_62_155, q_62_156, q_62_157, q_62_158, q_62_161, q_62_162, q_62_164, q_62_167, q_62_170, q_62_171, q_62_172, q_62_175, og_4_13, op_4_13, og_4_14, op_4_14, o_is, o_ob, ofs_len4, ↓reduceIte, k_cr, k_ci, k_oR, k_oN, k_aR, k_aN, and_true, true_and, and_self, eq_self, Nat.reduceLT, Nat.reduceLeDiff, Nat.reduceEqDiff, Nat.reduceAdd, Nat.reduceMul, Bool.true_eq_false, Bool.false_eq_true, Nat.add_sub_cancel, Nat.not_lt_zero, Nat.zero_le, k_sub, k_sb1, k_r, k_n, k_ret, k_t1, k_t0, k_nr, k_nn, k_z0, k_z1, k_zb, x_okI, lit_nI, k_in, k_cl, k_lt, k_le, k_eq, k_neg, nI_add, nI_mul, k_clt, k_cgt, k_cle, k_cge, k_ceq, bI_0, k_sh8, ne_eq, Nat.add_eq_zero_iff, Nat.one_ne_zero, Nat.succ_ne_zero, and_false, false_and, not_false_eq_true, not_true_eq_false, ite_true, ite_false, if_true, if_false, eK, en]
      · rw [one_flat]
        show cV P κ A S0 _ (i + 1) _ (C ++ [cod (eC SK nO) (nI 3, p.2.2 i, p.2.1 i)])
        rw [ec]
        exact v3
  rw [if_neg c6]
  have n2 : ¬ cK p i = nI 2 := fun q => c6 (cK_nm.mp q)
  refine ⟨hi, _, T, ?_, hv.bad (by omega), fr.rfl⟩
  rw [hh.same, e00]
  simp (disch := omega) only [q_62_0, q_62_1, q_62_4, q_62_5, q_62_6, q_62_7, q_62_10, q_62_11, q_62_12, q_62_13, q_62_16, q_62_17, q_62_20, q_62_21, q_62_22, q_62_25, q_62_26, q_62_27, q_62_30, q_62_33, q_62_34, q_62_35, q_62_38, q_62_39, q_62_40, q_62_41, q_62_44, q_62_45, q_62_46, q_62_49, q_62_50, q_62_51, q_62_54, q_62_57, q_62_58, q_62_59, q_62_62, q_62_63, q_62_64, q_62_67, q_62_70, q_62_71, q_62_73, q_62_76, q_62_77, q_62_78, q_62_81, q_62_82, q_62_83, q_62_86, q_62_87, q_62_90, q_62_93, q_62_94, q_62_96, q_62_99, q_62_100, q_62_102, q_62_105, q_62_106, q_62_107, q_62_110, q_62_111, q_62_112, q_62_115, q_62_116, q_62_117, q_62_118, q_62_119, q_62_122, q_62_123, q_62_125, q_62_126, q_62_129, q_62_132, q_62_133, q_62_135, q_62_138, q_62_139, q_62_141, q_62_144, q_62_145, q_62_146, q_62_149, q_62_150, q_62_151, q_62_154, q_62_155, q_62_156, q_62_157, q_62_158, q_62_161, q_62_162, q_62_164, q_62_167, q_62_170, q_62_171, q_62_172, q_62_175, og_4_13, op_4_13, og_4_14, op_4_14, o_is, o_ob, ofs_len4, ↓reduceIte, k_cr, k_ci, k_oR, k_oN, k_aR, k_aN, and_true, true_and, and_self, eq_self, Nat.reduceLT, Nat.reduceLeDiff, Nat.reduceEqDiff, Nat.reduceAdd, Nat.reduceMul, Bool.true_eq_false, Bool.false_eq_true, Nat.add_sub_cancel, Nat.not_lt_zero, Nat.zero_le, k_sub, k_sb1, k_r, k_n, k_ret, k_t1, k_t0, k_nr, k_nn, k_z0, k_z1, k_zb, x_okI, lit_nI, k_in, k_cl, k_lt, k_le, k_eq, k_neg, nI_add, nI_mul, k_clt, k_cgt, k_cle, k_cge, k_ceq, bI_0, k_sh8, ne_eq, Nat.add_eq_zero_iff, Nat.one_ne_zero, Nat.succ_ne_zero, and_false, false_and, not_false_eq_true, not_true_eq_false, ite_true, ite_false, if_true, if_false, eK, n45, n40, n3, n4, n35, n2]
theorem fcFc_ok {Q P κ A : Nat} {SP SK : gS} (S0 : gS) {nO N : Nat} {p : pP} (hs : cS Q P κ A SP SK nO N p) : ∀ r, r ≤ 20 → fcOK (3 * r) Q P κ A SP SK S0 nO N (20 - r) (fcF p r)
  | 0, _ => fcGc_ok hs (Or.inl ⟨rfl, rfl⟩)
  | r + 1, hr => by
    have ih := fcFc_ok S0 hs r (by omega)
    have e : 20 - r = 20 - (r + 1) + 1 := by omega
    rw [e] at ih
    exact fcGc_ok hs (Or.inr ⟨_, 3 * r, rfl, by omega, by omega, ih⟩)
/-- an E, as the class reads it -/
theorem c_readSum (d : Nat) {Q P κ A : Nat} {SP SK S0 : gS} {nO N : Nat} {p : pP} (hs : cS Q P κ A SP SK nO N p) {i z : Nat} {C : List cT} {S T : gS} {h : xH} (hh : cH P κ A SP SK T h) (hv : cV P κ A S0 S i z C) (hl : C.length ≤ i) (hi : i ≤ N) : scR (d + 65) Q P κ A S0 (eC SK nO) N 0 i z C S T h (exF p i) :=
  smc_ok (fcFc_ok S0 hs 20 (Nat.le_refl _)) hs d hh hv hl hi
