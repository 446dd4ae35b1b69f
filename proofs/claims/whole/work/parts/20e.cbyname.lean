/-! The class: moveByName. -/
def pmB (ft : Int64 → Option Nat) (E1 E2 : Nat → kE) (nE : Option Nat → Nat) (nm : Option Nat → Nat → Int64) (cn : Nat → Int64) (PM : pM) (i : Nat) : pM := match PM i with
  | some _ => PM
  | none => (match ft (cn i) with
    | none => PM
    | some t => up PM i (some (nI t, ihP (E1 i) (E2 t) (nm (some t)) (nE (some t)) 0 ms0)))
def pmF (ft : Int64 → Option Nat) (E1 E2 : Nat → kE) (nE : Option Nat → Nat) (nm : Option Nat → Nat → Int64) (cn : Nat → Int64) : Nat → Nat → pM → pM
  | 0, _, PM => PM
  | k + 1, i, PM => pmF ft E1 E2 nE nm cn k (i + 1) (pmB ft E1 E2 nE nm cn PM i)
theorem bn_loop (d : Nat) {Q P β1 β2 κ0 N n0 W : Nat} {SP SB1 SB2 SK0 S : gS} {n1 n2 : Nat} {κ1 κ2 : Nat → Nat} {SK1 SK2 : Nat → gS} {m1 m2 : Nat → Nat} {p : pP} (hs : hS Q P SP N p) (hW0 : n0 ≤ W) (r5 : sR S 5 = .ref β1) (r6 : sR S 6 = .ref β2) (r7 : sR S 7 = .ref W) (hK1 : ∀ c, c < n1 → kOK (SK1 c) (m1 c)) (hK2 : ∀ c, c < n2 → kOK (SK2 c) (m2 c)) : ∀ (k i : Nat) (h : xH) (PM : pM) (w : Nat → Value) (l2 l3 l4 l5 : Nat × Value), i + k = n1 → pE Q P β1 β2 κ0 n0 SP SB1 SB2 SK0 n1 n2 κ1 κ2 SK1 SK2 h → n0 ≤ h.2.2.1 → laQ h W 6 w → W < h.2.2.1 → (∀ c, c < 6 → mvC h n0 W (w c) (PM c)) → ∃ h' w' g, xrun (d + 2) 69 2 [(1, .ref Q), (1, .int (nI i)), l2, l3, l4, l5] [] (oh 4 h Q S) = some (none, oh 4 h' Q S) ∧ laQ h' W 6 w' ∧ (∀ c, c < 6 → mvC h' n0 W (w' c) (pmF (bF n2 SK2) (fun c => eC (SK1 c) (m1 c)) (fun c => eC (SK2 c) (m2 c)) (kC m2) (fun t => sL (kT SK0 SK2 t) 1) (fun i => sJ (SK1 i) 0) k i PM c)) ∧ kp n0 h h' ∧ h'.2.1 = h.2.1 ∧ g ≤ k ∧ h'.2.2.1 = h.2.2.1 + 7 * g ∧ h'.2.2.2 = h.2.2.2 + 58 * g
  | 0, i, h, PM, w, l2, l3, l4, l5, hik, hE, h0, hW, hWa, hM => by
    refine ⟨h, w, 0, ?_, hW, hM, kp.rfl, rfl, Nat.le_refl _, rfl, rfl⟩
    have hb1 := hE.2.1
    have n6 : n1 ≤ 6 := hb1.2.1.2.1
    have HB : isB 2 (oh 4 h Q S) β1 SB1 := (hb1.o S).1
    have g1 := hb1.2.1.1
    have hle : n1 ≤ i := by omega
    rw [q_69_2]
    simp (disch := omega) only [q_69_0, q_69_1, q_69_3, q_69_4, q_69_7, q_69_10, q_69_13, q_69_14, q_69_16, q_69_19, q_69_20, q_69_23, q_69_24, q_69_27, q_69_28, q_69_29, q_69_32, q_69_33, q_69_36, q_69_37, q_69_40, q_69_41, q_69_44, q_69_47, q_69_48, q_69_49, q_69_52, q_69_53, q_69_56, q_69_58, q_69_59, q_69_62, q_69_63, q_69_64, q_69_67, q_69_68, q_69_71, q_69_73, q_69_76, q_69_79, q_69_80, q_69_81, q_69_84, q_69_86, q_69_88, q_69_89, q_69_91, q_69_94, q_69_95, q_69_98, q_69_99, q_69_101, q_69_102, q_69_105, q_69_108, og_4_5, og_2_1, og_4_6, og_1_0, og_4_7, o_is, o_ob, ofs_len1, ofs_len2, ofs_len4, q_69_0, q_69_1, q_69_3, q_69_4, q_69_7, q_69_10, q_69_13, q_69_14, q_69_16, q_69_19, q_69_20, q_69_23, q_69_24, q_69_27, q_69_28, q_69_29, q_69_32, q_69_33, q_69_36, q_69_37, q_69_40, q_69_41, q_69_44, q_69_47, q_69_48, q_69_49, q_69_52, q_69_53, q_69_56, q_69_58, q_69_59, q_69_62, q_69_63, q_69_64, q_69_67, q_69_68, q_69_71, q_69_73, q_69_76, q_69_79, q_69_80, q_69_81, q_69_84, q_69_86, q_69_88, q_69_89, q_69_91, q_69_94, q_69_95, q_69_98, q_69_99, q_69_101, q_69_102, q_69_105, q_69_108, hg_2_1 HB, h_is HB, h_ob HB, ofs_len2, ↓reduceIte, k_cr, k_ci, k_oR, k_oN, k_aR, k_aN, and_true, true_and, and_self, eq_self, Nat.reduceLT, Nat.reduceLeDiff, Nat.reduceEqDiff, Nat.reduceAdd, Nat.reduceMul, Bool.true_eq_false, Bool.false_eq_true, Nat.add_sub_cancel, Nat.not_lt_zero, Nat.zero_le, k_sub, k_sb1, k_r, k_n, k_ret, k_t1, k_t0, k_nr, k_nn, k_z0, k_z1, k_zb, x_okI, lit_nI, k_in, k_cl, k_lt, k_le, k_eq, k_neg, nI_add, nI_mul, k_clt, k_cgt, k_cle, k_cge, k_ceq, bI_0, k_sh8, ne_eq, Nat.add_eq_zero_iff, Nat.one_ne_zero, Nat.succ_ne_zero, and_false, false_and, not_false_eq_true, not_true_eq_false, ite_true, ite_false, if_true, if_false, r5, g1, hle]
  | k + 1, i, h, PM, w, l2, l3, l4, l5, hik, hE, h0, hW, hWa, hM => by
    have hb1 := hE.2.1
    have hb2 := hE.2.2.1
    have a11 := hE.2.2.2.2.2.2.2.2.2.2.1
    have n6 : n1 ≤ 6 := hb1.2.1.2.1
    have m6 : n2 ≤ 6 := hb2.2.1.2.1
    have HB : isB 2 (oh 4 h Q S) β1 SB1 := (hb1.o S).1
    have g1 := hb1.2.1.1
    have hlt : ¬ n1 ≤ i := by omega
    have i6 : ¬ 6 ≤ i := by omega
    have hi6 : i < 6 := by omega
    have HK : isB 1 (oh 4 h Q S) (κ1 i) (SK1 i) := ((hb1.o S).2.2.2 i (by omega)).2
    have iB1 := t_is hb1
    have iB2 := t_is hb2
    have hWQ : ofp 4 Q W = false := a11.out hW0
    have e18 : xm (d + 2) 18 [.ref β1, .int (nI i)] (oh 4 h Q S) = _ := b_kindAt (d + 1) (Q := Q) (S := S) (o := some i) hb1 (fun c hc => by cases hc; omega)
    have e18 : xm (d + 2) 18 [.ref β1, .int (nI i)] (oh 4 h Q S) = some (some (.ref (κ1 i)), oh 4 h Q S) := e18
    have e13 : xm (d + 2) 13 [.ref β2, .long (sJ (SK1 i) 0)] (oh 4 h Q S) = _ := b_find (d + 1) (Q := Q) (S := S) (w := sJ (SK1 i) 0) hb2
    have e19 : xm (d + 2) 18 [.ref β2, .int (oI (bF n2 SK2 (sJ (SK1 i) 0)))] (oh 4 h Q S) = _ := b_kindAt (d + 1) (Q := Q) (S := S) hb2 (fun c hc => bF_lt hc)
    have rq : ∀ F : Value → Option xR, xrq (oh 4 h Q S) W (nI i) F = F (w i) := fun F => (hW.frame hWQ).rd hi6 (by omega) F
    have hMi := hM i hi6
    have fin : ∀ (h1 : xH) (PM1 : pM) (w1 : Nat → Value) (g1 : Nat) (m2' m3 m4 m5 : Nat × Value), g1 ≤ 1 → pmB (bF n2 SK2) (fun c => eC (SK1 c) (m1 c)) (fun c => eC (SK2 c) (m2 c)) (kC m2) (fun t => sL (kT SK0 SK2 t) 1) (fun i => sJ (SK1 i) 0) PM i = PM1 → xrun (d + 2) 69 2 [(1, .ref Q), (1, .int (nI i)), l2, l3, l4, l5] [] (oh 4 h Q S) = xrun (d + 2) 69 2 [(1, .ref Q), (1, .int (nI (i + 1))), m2', m3, m4, m5] [] (oh 4 h1 Q S) → laQ h1 W 6 w1 → (∀ c, c < 6 → mvC h1 n0 W (w1 c) (PM1 c)) → kp n0 h h1 → h1.2.1 = h.2.1 → h1.2.2.1 = h.2.2.1 + 7 * g1 → h1.2.2.2 = h.2.2.2 + 58 * g1 → ∃ h' w' g, xrun (d + 2) 69 2 [(1, .ref Q), (1, .int (nI i)), l2, l3, l4, l5] [] (oh 4 h Q S) = some (none, oh 4 h' Q S) ∧ laQ h' W 6 w' ∧ (∀ c, c < 6 → mvC h' n0 W (w' c) (pmF (bF n2 SK2) (fun c => eC (SK1 c) (m1 c)) (fun c => eC (SK2 c) (m2 c)) (kC m2) (fun t => sL (kT SK0 SK2 t) 1) (fun i => sJ (SK1 i) 0) (k + 1) i PM c)) ∧ kp n0 h h' ∧ h'.2.1 = h.2.1 ∧ g ≤ k + 1 ∧ h'.2.2.1 = h.2.2.1 + 7 * g ∧ h'.2.2.2 = h.2.2.2 + 58 * g := by
      intro h1 PM1 w1 gg m2' m3 m4 m5 hg hpm hrun hW1 hM1 hkp hb hn hsl
      obtain ⟨h', w', g, i1, i2, i3, i4, i5, i6, i7, i8⟩ := bn_loop d hs hW0 r5 r6 r7 hK1 hK2 k (i + 1) h1 PM1 w1 m2' m3 m4 m5 (by omega) (hE.kp hkp) (by omega) hW1 (by omega) hM1
      refine ⟨h', w', gg + g, hrun.trans i1, i2, ?_, hkp.trans i4, i5.trans hb, by omega, by omega, by omega⟩
      intro c hc
      have := i3 c hc
      rw [← hpm] at this
      exact this
    cases hq : PM i with
    | some v =>
      rw [hq] at hMi
      obtain ⟨a, T, ea, _⟩ := hMi
      have hpm : pmB (bF n2 SK2) (fun c => eC (SK1 c) (m1 c)) (fun c => eC (SK2 c) (m2 c)) (kC m2) (fun t => sL (kT SK0 SK2 t) 1) (fun i => sJ (SK1 i) 0) PM i = PM := by
        unfold pmB
        rw [hq]
      cases ht : bF n2 SK2 (sJ (SK1 i) 0) with
      | none =>
        rw [ht] at e13 e19
        have e13 : xm (d + 2) 13 [.ref β2, .long (sJ (SK1 i) 0)] (oh 4 h Q S) = some (some (.int (-nI 1)), oh 4 h Q S) := e13
        have e19 : xm (d + 2) 18 [.ref β2, .int (-nI 1)] (oh 4 h Q S) = some (some .null, oh 4 h Q S) := e19
        refine fin h PM w 0 (1, .ref (κ1 i)) (1, .int (-nI 1)) (1, .null) l5 (by omega) hpm ?_ hW hM kp.rfl rfl rfl rfl
        rw [q_69_2]
        simp (disch := omega) only [q_69_0, q_69_1, q_69_3, q_69_4, q_69_7, q_69_10, q_69_13, q_69_14, q_69_16, q_69_19, q_69_20, q_69_23, q_69_24, q_69_27, q_69_28, q_69_29, q_69_32, q_69_33, q_69_36, q_69_37, q_69_40, q_69_41, q_69_44, q_69_47, q_69_48, q_69_49, q_69_52, q_69_53, q_69_56, q_69_58, q_69_59, q_69_62, q_69_63, q_69_64, q_69_67, q_69_68, q_69_71, q_69_73, q_69_76, q_69_79, q_69_80, q_69_81, q_69_84, q_69_86, q_69_88, q_69_89, q_69_91, q_69_94, q_69_95, q_69_98, q_69_99, q_69_101, q_69_102, q_69_105, q_69_108, og_4_5, og_2_1, og_4_6, og_1_0, og_4_7, o_is, o_ob, ofs_len1, ofs_len2, ofs_len4, q_69_0, q_69_1, q_69_3, q_69_4, q_69_7, q_69_10, q_69_13, q_69_14, q_69_16, q_69_19, q_69_20, q_69_23, q_69_24, q_69_27, q_69_28, q_69_29, q_69_32, q_69_33, q_69_36, q_69_37, q_69_40, q_69_41, q_69_44, q_69_47, q_69_48, q_69_49, q_69_52, q_69_53, q_69_56, q_69_58, q_69_59, q_69_62, q_69_63, q_69_64, q_69_67, q_69_68, q_69_71, q_69_73, q_69_76, q_69_79, q_69_80, q_69_81, q_69_84, q_69_86, q_69_88, q_69_89, q_69_91, q_69_94, q_69_95, q_69_98, q_69_99, q_69_101, q_69_102, q_69_105, q_69_108, hg_2_1 HB, h_is HB, h_ob HB, ofs_len2, hg_1_0 HK, h_is HK, h_ob HK, ofs_len1, ↓reduceIte, k_cr, k_ci, k_oR, k_oN, k_aR, k_aN, and_true, true_and, and_self, eq_self, Nat.reduceLT, Nat.reduceLeDiff, Nat.reduceEqDiff, Nat.reduceAdd, Nat.reduceMul, Bool.true_eq_false, Bool.false_eq_true, Nat.add_sub_cancel, Nat.not_lt_zero, Nat.zero_le, k_sub, k_sb1, k_r, k_n, k_ret, k_t1, k_t0, k_nr, k_nn, k_z0, k_z1, k_zb, x_okI, lit_nI, k_in, k_cl, k_lt, k_le, k_eq, k_neg, nI_add, nI_mul, k_clt, k_cgt, k_cle, k_cge, k_ceq, bI_0, k_sh8, ne_eq, Nat.add_eq_zero_iff, Nat.one_ne_zero, Nat.succ_ne_zero, and_false, false_and, not_false_eq_true, not_true_eq_false, ite_true, ite_false, if_true, if_false, iB1, iB2, r5, r6, r7, g1, hlt, i6, e18, e13, e19, rq, ea]
      | some t =>
        rw [ht] at e13 e19
        have e13 : xm (d + 2) 13 [.ref β2, .long (sJ (SK1 i) 0)] (oh 4 h Q S) = some (some (.int (nI t)), oh 4 h Q S) := e13
        have e19 : xm (d + 2) 18 [.ref β2, .int (nI t)] (oh 4 h Q S) = some (some (.ref (κ2 t)), oh 4 h Q S) := e19
        refine fin h PM w 0 (1, .ref (κ1 i)) (1, .int (nI t)) (1, .ref (κ2 t)) l5 (by omega) hpm ?_ hW hM kp.rfl rfl rfl rfl
        rw [q_69_2]
        simp (disch := omega) only [q_69_0, q_69_1, q_69_3, q_69_4, q_69_7, q_69_10, q_69_13, q_69_14, q_69_16, q_69_19, q_69_20, q_69_23, q_69_24, q_69_27, q_69_28, q_69_29, q_69_32, q_69_33, q_69_36, q_69_37, q_69_40, q_69_41, q_69_44, q_69_47, q_69_48, q_69_49, q_69_52, q_69_53, q_69_56, q_69_58, q_69_59, q_69_62, q_69_63, q_69_64, q_69_67, q_69_68, q_69_71, q_69_73, q_69_76, q_69_79, q_69_80, q_69_81, q_69_84, q_69_86, q_69_88, q_69_89, q_69_91, q_69_94, q_69_95, q_69_98, q_69_99, q_69_101, q_69_102, q_69_105, q_69_108, og_4_5, og_2_1, og_4_6, og_1_0, og_4_7, o_is, o_ob, ofs_len1, ofs_len2, ofs_len4, q_69_0, q_69_1, q_69_3, q_69_4, q_69_7, q_69_10, q_69_13, q_69_14, q_69_16, q_69_19, q_69_20, q_69_23, q_69_24, q_69_27, q_69_28, q_69_29, q_69_32, q_69_33, q_69_36, q_69_37, q_69_40, q_69_41, q_69_44, q_69_47, q_69_48, q_69_49, q_69_52, q_69_53, q_69_56, q_69_58, q_69_59, q_69_62, q_69_63, q_69_64, q_69_67, q_69_68, q_69_71, q_69_73, q_69_76, q_69_79, q_69_80, q_69_81, q_69_84, q_69_86, q_69_88, q_69_89, q_69_91, q_69_94, q_69_95, q_69_98, q_69_99, q_69_101, q_69_102, q_69_105, q_69_108, hg_2_1 HB, h_is HB, h_ob HB, ofs_len2, hg_1_0 HK, h_is HK, h_ob HK, ofs_len1, ↓reduceIte, k_cr, k_ci, k_oR, k_oN, k_aR, k_aN, and_true, true_and, and_self, eq_self, Nat.reduceLT, Nat.reduceLeDiff, Nat.reduceEqDiff, Nat.reduceAdd, Nat.reduceMul, Bool.true_eq_false, Bool.false_eq_true, Nat.add_sub_cancel, Nat.not_lt_zero, Nat.zero_le, k_sub, k_sb1, k_r, k_n, k_ret, k_t1, k_t0, k_nr, k_nn, k_z0, k_z1, k_zb, x_okI, lit_nI, k_in, k_cl, k_lt, k_le, k_eq, k_neg, nI_add, nI_mul, k_clt, k_cgt, k_cle, k_cge, k_ceq, bI_0, k_sh8, ne_eq, Nat.add_eq_zero_iff, Nat.one_ne_zero, Nat.succ_ne_zero, and_false, false_and, not_false_eq_true, not_true_eq_false, ite_true, ite_false, if_true, if_false, iB1, iB2, r5, r6, r7, g1, hlt, i6, e18, e13, e19, rq, ea]
    | none =>
      rw [hq] at hMi
      have ea : w i = .null := hMi
      cases ht : bF n2 SK2 (sJ (SK1 i) 0) with
      | none =>
        rw [ht] at e13 e19
        have e13 : xm (d + 2) 13 [.ref β2, .long (sJ (SK1 i) 0)] (oh 4 h Q S) = some (some (.int (-nI 1)), oh 4 h Q S) := e13
        have e19 : xm (d + 2) 18 [.ref β2, .int (-nI 1)] (oh 4 h Q S) = some (some .null, oh 4 h Q S) := e19
        have hpm : pmB (bF n2 SK2) (fun c => eC (SK1 c) (m1 c)) (fun c => eC (SK2 c) (m2 c)) (kC m2) (fun t => sL (kT SK0 SK2 t) 1) (fun i => sJ (SK1 i) 0) PM i = PM := by
          unfold pmB
          rw [hq]
          show (match bF n2 SK2 (sJ (SK1 i) 0) with
            | none => PM
            | some t => _) = PM
          rw [ht]
        refine fin h PM w 0 (1, .ref (κ1 i)) (1, .int (-nI 1)) (1, .null) l5 (by omega) hpm ?_ hW hM kp.rfl rfl rfl rfl
        rw [q_69_2]
        simp (disch := omega) only [q_69_0, q_69_1, q_69_3, q_69_4, q_69_7, q_69_10, q_69_13, q_69_14, q_69_16, q_69_19, q_69_20, q_69_23, q_69_24, q_69_27, q_69_28, q_69_29, q_69_32, q_69_33, q_69_36, q_69_37, q_69_40, q_69_41, q_69_44, q_69_47, q_69_48, q_69_49, q_69_52, q_69_53, q_69_56, q_69_58, q_69_59, q_69_62, q_69_63, q_69_64, q_69_67, q_69_68, q_69_71, q_69_73, q_69_76, q_69_79, q_69_80, q_69_81, q_69_84, q_69_86, q_69_88, q_69_89, q_69_91, q_69_94, q_69_95, q_69_98, q_69_99, q_69_101, q_69_102, q_69_105, q_69_108, og_4_5, og_2_1, og_4_6, og_1_0, og_4_7, o_is, o_ob, ofs_len1, ofs_len2, ofs_len4, q_69_0, q_69_1, q_69_3, q_69_4, q_69_7, q_69_10, q_69_13, q_69_14, q_69_16, q_69_19, q_69_20, q_69_23, q_69_24, q_69_27, q_69_28, q_69_29, q_69_32, q_69_33, q_69_36, q_69_37, q_69_40, q_69_41, q_69_44, q_69_47, q_69_48, q_69_49, q_69_52, q_69_53, q_69_56, q_69_58, q_69_59, q_69_62, q_69_63, q_69_64, q_69_67, q_69_68, q_69_71, q_69_73, q_69_76, q_69_79, q_69_80, q_69_81, q_69_84, q_69_86, q_69_88, q_69_89, q_69_91, q_69_94, q_69_95, q_69_98, q_69_99, q_69_101, q_69_102, q_69_105, q_69_108, hg_2_1 HB, h_is HB, h_ob HB, ofs_len2, hg_1_0 HK, h_is HK, h_ob HK, ofs_len1, ↓reduceIte, k_cr, k_ci, k_oR, k_oN, k_aR, k_aN, and_true, true_and, and_self, eq_self, Nat.reduceLT, Nat.reduceLeDiff, Nat.reduceEqDiff, Nat.reduceAdd, Nat.reduceMul, Bool.true_eq_false, Bool.false_eq_true, Nat.add_sub_cancel, Nat.not_lt_zero, Nat.zero_le, k_sub, k_sb1, k_r, k_n, k_ret, k_t1, k_t0, k_nr, k_nn, k_z0, k_z1, k_zb, x_okI, lit_nI, k_in, k_cl, k_lt, k_le, k_eq, k_neg, nI_add, nI_mul, k_clt, k_cgt, k_cle, k_cge, k_ceq, bI_0, k_sh8, ne_eq, Nat.add_eq_zero_iff, Nat.one_ne_zero, Nat.succ_ne_zero, and_false, false_and, not_false_eq_true, not_true_eq_false, ite_true, ite_false, if_true, if_false, iB1, iB2, r5, r6, r7, g1, hlt, i6, e18, e13, e19, rq, ea]
      | some t =>
        have ht2 : t < n2 := bF_lt ht
        rw [ht] at e13 e19
        have e13 : xm (d + 2) 13 [.ref β2, .long (sJ (SK1 i) 0)] (oh 4 h Q S) = some (some (.int (nI t)), oh 4 h Q S) := e13
        have e19 : xm (d + 2) 18 [.ref β2, .int (nI t)] (oh 4 h Q S) = some (some (.ref (κ2 t)), oh 4 h Q S) := e19
        have hpm : pmB (bF n2 SK2) (fun c => eC (SK1 c) (m1 c)) (fun c => eC (SK2 c) (m2 c)) (kC m2) (fun t => sL (kT SK0 SK2 t) 1) (fun i => sJ (SK1 i) 0) PM i = pm1 PM (nI t, ihP (eC (SK1 i) (m1 i)) (eC (SK2 t) (m2 t)) (sL (SK2 t) 1) (m2 t) 0 ms0) (some i) := by
          unfold pmB
          rw [hq]
          show (match bF n2 SK2 (sJ (SK1 i) 0) with
            | none => PM
            | some t => _) = if (PM i).isSome = true then PM else _
          rw [ht, hq]
          rfl
        have hbq := a11.le h0
        have kpm : kp n0 h (mvH h (nI t)) := (mvH_kp h (nI t)).le h0
        have hE' := hE.kp kpm
        obtain ⟨b1, b2, b3, b4⟩ := hE'.k1 (o := some i) hK1 (fun c hc => by cases hc; omega)
        obtain ⟨c1, c2, c3, c4⟩ := hE'.k2 (o := some t) hK2 (fun c hc => by cases hc; omega)
        have s2 : cS2 Q P (κ1 i) h.2.2.1 (κ2 t) SP (SK1 i) (SK2 t) (m1 i) (m2 t) N p := ⟨⟨hs.1, b3, a11.dj h0, (hE.2.2.2.2.1.dj h0).symm, (b4.dj h0).symm, b2, hs.2⟩, c3, (c4.dj h0).symm, c2⟩
        have HA : isB 3 (mvH h (nI t)) h.2.2.1 (mvS (nI t) 8) := isB_oh _ _ _ _
        have hh : cH2 P (κ1 i) h.2.2.1 (κ2 t) SP (SK1 i) (SK2 t) (mvS (nI t) 8) (mvH h (nI t)) := ⟨⟨hE'.1, b1, HA⟩, c1⟩
        obtain ⟨T', eI, hm'⟩ := n_inherit d (Q := Q) (S := S) s2 hh (msT_new (nI t))
        have iA := k_isA s2.1 hh.1
        have eX : xmk (oh 4 h Q S) mvE 7 = oh 4 (xmk h mvE 7) Q S := xmk_oh (hbq.out (Nat.le_refl _))
        have eM : xm (d + 2) 5 [.ref h.2.2.1, .int (nI t)] (oh 4 (xmk h mvE 7) Q S) = some (none, oh 4 (mvH h (nI t)) Q S) := n_Move d hbq
        have hnx : (oh 4 h Q S).2.2.1 = h.2.2.1 := rfl
        have hmv : (.inr (3, [.int (nI 0), .null, .null, .null, .null, .null, .null]) : xE) = mvE := rfl
        have hW2 : laQ (oh 3 (mvH h (nI t)) h.2.2.1 T') W 6 w := by
          refine laQ.frame ?_ (ofp_lo hWa)
          exact (mvH_kp h (nI t) W hWa).trans hW
        have HA2 : isB 3 (oh 3 (mvH h (nI t)) h.2.2.1 T') h.2.2.1 T' := isB_oh _ _ _ _
        have wq : ∀ F : xH → Option xR, xwq (oh 4 (oh 3 (mvH h (nI t)) h.2.2.1 T') Q S) W (nI i) (.ref h.2.2.1) F = F (oh 4 (xput (oh 3 (mvH h (nI t)) h.2.2.1 T') W (.inl (8, 6, updV w i (.ref h.2.2.1)))) Q S) := fun F => by
          rw [(hW2.frame hWQ).wr hi6 (by omega) (fun X => h_is (HA2.frame (hbq.dj (Nat.le_refl _))) X), xput_oh hWQ]
        have kq : ∀ x, x < h.2.2.1 → x ≠ W → (xput (oh 3 (mvH h (nI t)) h.2.2.1 T') W (.inl (8, 6, updV w i (.ref h.2.2.1)))).1 x = h.1 x := by
          intro x hx hne
          show va_up (oh 3 (mvH h (nI t)) h.2.2.1 T').1 W _ x = h.1 x
          rw [va_up_ne _ _ hne, oh_same (ofp_lo hx)]
          exact mvH_kp h (nI t) x hx
        have HA3 : isB 3 (xput (oh 3 (mvH h (nI t)) h.2.2.1 T') W (.inl (8, 6, updV w i (.ref h.2.2.1)))) h.2.2.1 T' := HA2.any (fun q hq => va_up_ne _ _ (fun z => by
          have := ofp_ge hq
          omega))
        have hu : ¬ uP PM i = true := by
          unfold uP
          rw [hq]
          decide
        have hM2 := mv_next (o := some i) (v := (nI t, ihP (eC (SK1 i) (m1 i)) (eC (SK2 t) (m2 t)) (sL (SK2 t) 1) (m2 t) 0 ms0)) hM kq (show h.2.2.1 ≤ h.2.2.1 + 7 by omega) HA3 hm' h0 (below_3 h.2.2.1) (ofp_lo hWa)
        rw [← hpm] at hM2
        refine fin _ _ (wN (uP PM) w h.2.2.1 (some i)) 1 (1, .ref (κ1 i)) (1, .int (nI t)) (1, .ref (κ2 t)) (1, .ref h.2.2.1) (by omega) rfl ?_ ?_ hM2 (fun x hx => kq x (by omega) (by omega)) rfl rfl rfl
        · rw [q_69_2]
          simp (disch := omega) only [q_69_0, q_69_1, q_69_3, q_69_4, q_69_7, q_69_10, q_69_13, q_69_14, q_69_16, q_69_19, q_69_20, q_69_23, q_69_24, q_69_27, q_69_28, q_69_29, q_69_32, q_69_33, q_69_36, q_69_37, q_69_40, q_69_41, q_69_44, q_69_47, q_69_48, q_69_49, q_69_52, q_69_53, q_69_56, q_69_58, q_69_59, q_69_62, q_69_63, q_69_64, q_69_67, q_69_68, q_69_71, q_69_73, q_69_76, q_69_79, q_69_80, q_69_81, q_69_84, q_69_86, q_69_88, q_69_89, q_69_91, q_69_94, q_69_95, q_69_98, q_69_99, q_69_101, q_69_102, q_69_105, q_69_108, og_4_5, og_2_1, og_4_6, og_1_0, og_4_7, o_is, o_ob, ofs_len1, ofs_len2, ofs_len4, q_69_0, q_69_1, q_69_3, q_69_4, q_69_7, q_69_10, q_69_13, q_69_14, q_69_16, q_69_19, q_69_20, q_69_23, q_69_24, q_69_27, q_69_28, q_69_29, q_69_32, q_69_33, q_69_36, q_69_37, q_69_40, q_69_41, q_69_44, q_69_47, q_69_48, q_69_49, q_69_52, q_69_53, q_69_56, q_69_58, q_69_59, q_69_62, q_69_63, q_69_64, q_69_67, q_69_68, q_69_71, q_69_73, q_69_76, q_69_79, q_69_80, q_69_81, q_69_84, q_69_86, q_69_88, q_69_89, q_69_91, q_69_94, q_69_95, q_69_98, q_69_99, q_69_101, q_69_102, q_69_105, q_69_108, hg_2_1 HB, h_is HB, h_ob HB, ofs_len2, hg_1_0 HK, h_is HK, h_ob HK, ofs_len1, ↓reduceIte, k_cr, k_ci, k_oR, k_oN, k_aR, k_aN, and_true, true_and, and_self, eq_self, Nat.reduceLT, Nat.reduceLeDiff, Nat.reduceEqDiff, Nat.reduceAdd, Nat.reduceMul, Bool.true_eq_false, Bool.false_eq_true, Nat.add_sub_cancel, Nat.not_lt_zero, Nat.zero_le, k_sub, k_sb1, k_r, k_n, k_ret, k_t1, k_t0, k_nr, k_nn, k_z0, k_z1, k_zb, x_okI, lit_nI, k_in, k_cl, k_lt, k_le, k_eq, k_neg, nI_add, nI_mul, k_clt, k_cgt, k_cle, k_cge, k_ceq, bI_0, k_sh8, ne_eq, Nat.add_eq_zero_iff, Nat.one_ne_zero, Nat.succ_ne_zero, and_false, false_and, not_false_eq_true, not_true_eq_false, ite_true, ite_false, if_true, if_false, iB1, iB2, iA, r5, r6, r7, g1, hlt, i6, e18, e13, e19, rq, ea, hnx, hmv, eX, eM, eI, wq]
        · show laQ _ W 6 (if uP PM i = true then w else updV w i (.ref h.2.2.1))
          rw [if_neg hu]
          exact va_up_self _ _ _
theorem c_byName (d : Nat) {Q P β1 β2 κ0 N n0 W : Nat} {SP SB1 SB2 SK0 S : gS} {n1 n2 : Nat} {κ1 κ2 : Nat → Nat} {SK1 SK2 : Nat → gS} {m1 m2 : Nat → Nat} {p : pP} {h : xH} {PM : pM} {w : Nat → Value} (hs : hS Q P SP N p) (hW0 : n0 ≤ W) (r5 : sR S 5 = .ref β1) (r6 : sR S 6 = .ref β2) (r7 : sR S 7 = .ref W) (hK1 : ∀ c, c < n1 → kOK (SK1 c) (m1 c)) (hK2 : ∀ c, c < n2 → kOK (SK2 c) (m2 c)) (hE : pE Q P β1 β2 κ0 n0 SP SB1 SB2 SK0 n1 n2 κ1 κ2 SK1 SK2 h) (h0 : n0 ≤ h.2.2.1) (hW : laQ h W 6 w) (hWa : W < h.2.2.1) (hM : ∀ c, c < 6 → mvC h n0 W (w c) (PM c)) : ∃ h' w' g, xm (d + 3) 69 [.ref Q] (oh 4 h Q S) = some (none, oh 4 h' Q S) ∧ laQ h' W 6 w' ∧ (∀ c, c < 6 → mvC h' n0 W (w' c) (pmF (bF n2 SK2) (fun c => eC (SK1 c) (m1 c)) (fun c => eC (SK2 c) (m2 c)) (kC m2) (fun t => sL (kT SK0 SK2 t) 1) (fun i => sJ (SK1 i) 0) n1 0 PM c)) ∧ kp n0 h h' ∧ h'.2.1 = h.2.1 ∧ g ≤ n1 ∧ h'.2.2.1 = h.2.2.1 + 7 * g ∧ h'.2.2.2 = h.2.2.2 + 58 * g := by
  obtain ⟨h', w', g, e, r⟩ := bn_loop d hs hW0 r5 r6 r7 hK1 hK2 n1 0 h PM w (0, .null) (0, .null) (0, .null) (0, .null) (by omega) hE h0 hW hWa hM
  refine ⟨h', w', g, ?_, r⟩
  rw [← e, E_69 _ _ _ rfl]
  simp (disch := omega) only [q_69_0, q_69_1, o_is, ↓reduceIte, k_cr, k_ci, k_oR, k_oN, k_aR, k_aN, and_true, true_and, and_self, eq_self, Nat.reduceLT, Nat.reduceLeDiff, Nat.reduceEqDiff, Nat.reduceAdd, Nat.reduceMul, Bool.true_eq_false, Bool.false_eq_true, Nat.add_sub_cancel, Nat.not_lt_zero, Nat.zero_le, k_sub, k_sb1, k_r, k_n, k_ret, k_t1, k_t0, k_nr, k_nn, k_z0, k_z1, k_zb, x_okI, lit_nI, k_in, k_cl, k_lt, k_le, k_eq, k_neg, nI_add, nI_mul, k_clt, k_cgt, k_cle, k_cge, k_ceq, bI_0, k_sh8, ne_eq, Nat.add_eq_zero_iff, Nat.one_ne_zero, Nat.succ_ne_zero, and_false, false_and, not_false_eq_true, not_true_eq_false, ite_true, ite_false, if_true, if_false]
