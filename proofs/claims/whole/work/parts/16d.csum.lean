/-! The class: readSum, readFactor. -/
def wI : Option Int32 → Int32
  | none => nI 0
  | some c => c
theorem cod_op (e : kE) {c : Int32} (h : isOp c = true) : cod e (opA c) = (c, nI 0) := by
  unfold isOp at h
  rw [Bool.or_eq_true, Bool.or_eq_true, Bool.or_eq_true, Bool.or_eq_true, decide_eq_true_eq, decide_eq_true_eq, decide_eq_true_eq, decide_eq_true_eq, decide_eq_true_eq] at h
  rcases h with (((q | q) | q) | q) | q <;> (rw [q]; rfl)
theorem opA_no (c : Int32) : ¬ ((opA c).1 = nI 3 ∨ (opA c).1 = nI 4 ∨ (opA c).1 = nI 5) := by
  show ¬ (opW c = nI 3 ∨ opW c = nI 4 ∨ opW c = nI 5)
  unfold opW
  split
  · decide
  · split
    · decide
    · split
      · decide
      · split <;> decide
theorem actB_no (e : kE) {a : aT} (h : ¬ (a.1 = nI 3 ∨ a.1 = nI 4 ∨ a.1 = nI 5)) : actB e a = [] := if_neg h
theorem sum_X (D : Nat) {Q P κ A : Nat} {S0 S : gS} {q c : Nat} {k : Int32} {w : Option Int32} {u : Nat × Value} {h : xH} (hx : cX P κ A S0 S q) (hw : ∀ c, w = some c → ¬ c = nI 0) (hc : c ≤ 700) : ∃ S', xrun (D + 1) 61 9 [(1, .ref Q), (1, .int k), (1, .int (wI w)), (1, .int (nI c)), u] [] (oh 4 h Q S) = some (none, oh 4 h Q S') ∧ cX P κ A S0 S' q := by
  have h14 := hx.2.2.2.2.1
  cases w with
  | none =>
    refine ⟨S, ?_, hx⟩
    rw [q_61_9]
    by_cases h7 : c < 700
    · have h8 : ¬ 700 ≤ c := by omega
      simp (disch := omega) only [q_61_0, q_61_1, q_61_2, q_61_3, q_61_4, q_61_7, q_61_8, q_61_10, q_61_13, q_61_16, q_61_17, q_61_20, q_61_23, q_61_24, q_61_27, q_61_29, q_61_31, q_61_33, q_61_36, q_61_38, q_61_40, q_61_43, q_61_44, q_61_47, q_61_48, q_61_49, q_61_50, q_61_53, q_61_55, q_61_56, q_61_57, q_61_58, q_61_61, q_61_62, q_61_63, q_61_66, q_61_67, q_61_68, q_61_71, q_61_74, q_61_76, q_61_78, q_61_81, q_61_83, q_61_85, q_61_88, q_61_90, q_61_92, q_61_95, q_61_96, q_61_97, q_61_100, q_61_101, q_61_102, q_61_105, q_61_106, q_61_107, q_61_110, q_61_111, q_61_113, q_61_114, q_61_117, q_61_120, q_61_123, q_61_124, q_61_127, q_61_128, q_61_129, q_61_130, q_61_133, og_4_14, og_4_13, op_4_13, o_is, o_ob, ofs_len4, ↓reduceIte, k_cr, k_ci, k_oR, k_oN, k_aR, k_aN, and_true, true_and, and_self, eq_self, Nat.reduceLT, Nat.reduceLeDiff, Nat.reduceEqDiff, Nat.reduceAdd, Nat.reduceMul, Bool.true_eq_false, Bool.false_eq_true, Nat.add_sub_cancel, Nat.not_lt_zero, Nat.zero_le, k_sub, k_sb1, k_r, k_n, k_ret, k_t1, k_t0, k_nr, k_nn, k_z0, k_z1, k_zb, x_okI, lit_nI, k_in, k_cl, k_lt, k_le, k_eq, k_neg, nI_add, nI_mul, k_clt, k_cgt, k_cle, k_cge, k_ceq, bI_0, k_sh8, ne_eq, Nat.add_eq_zero_iff, Nat.one_ne_zero, Nat.succ_ne_zero, and_false, false_and, not_false_eq_true, not_true_eq_false, ite_true, ite_false, if_true, if_false, wI, h14, h7, h8]
    · have h8 : 700 ≤ c := by omega
      simp (disch := omega) only [q_61_0, q_61_1, q_61_2, q_61_3, q_61_4, q_61_7, q_61_8, q_61_10, q_61_13, q_61_16, q_61_17, q_61_20, q_61_23, q_61_24, q_61_27, q_61_29, q_61_31, q_61_33, q_61_36, q_61_38, q_61_40, q_61_43, q_61_44, q_61_47, q_61_48, q_61_49, q_61_50, q_61_53, q_61_55, q_61_56, q_61_57, q_61_58, q_61_61, q_61_62, q_61_63, q_61_66, q_61_67, q_61_68, q_61_71, q_61_74, q_61_76, q_61_78, q_61_81, q_61_83, q_61_85, q_61_88, q_61_90, q_61_92, q_61_95, q_61_96, q_61_97, q_61_100, q_61_101, q_61_102, q_61_105, q_61_106, q_61_107, q_61_110, q_61_111, q_61_113, q_61_114, q_61_117, q_61_120, q_61_123, q_61_124, q_61_127, q_61_128, q_61_129, q_61_130, q_61_133, og_4_14, og_4_13, op_4_13, o_is, o_ob, ofs_len4, ↓reduceIte, k_cr, k_ci, k_oR, k_oN, k_aR, k_aN, and_true, true_and, and_self, eq_self, Nat.reduceLT, Nat.reduceLeDiff, Nat.reduceEqDiff, Nat.reduceAdd, Nat.reduceMul, Bool.true_eq_false, Bool.false_eq_true, Nat.add_sub_cancel, Nat.not_lt_zero, Nat.zero_le, k_sub, k_sb1, k_r, k_n, k_ret, k_t1, k_t0, k_nr, k_nn, k_z0, k_z1, k_zb, x_okI, lit_nI, k_in, k_cl, k_lt, k_le, k_eq, k_neg, nI_add, nI_mul, k_clt, k_cgt, k_cle, k_cge, k_ceq, bI_0, k_sh8, ne_eq, Nat.add_eq_zero_iff, Nat.one_ne_zero, Nat.succ_ne_zero, and_false, false_and, not_false_eq_true, not_true_eq_false, ite_true, ite_false, if_true, if_false, wI, h14, h7, h8]
  | some w0 =>
    obtain ⟨S', e, hx'⟩ := hx.em D Q h w0 (nI 0)
    have h0 := hw w0 rfl
    refine ⟨S', ?_, hx'⟩
    rw [q_61_9]
    by_cases h7 : c < 700
    · have h8 : ¬ 700 ≤ c := by omega
      simp (disch := omega) only [q_61_0, q_61_1, q_61_2, q_61_3, q_61_4, q_61_7, q_61_8, q_61_10, q_61_13, q_61_16, q_61_17, q_61_20, q_61_23, q_61_24, q_61_27, q_61_29, q_61_31, q_61_33, q_61_36, q_61_38, q_61_40, q_61_43, q_61_44, q_61_47, q_61_48, q_61_49, q_61_50, q_61_53, q_61_55, q_61_56, q_61_57, q_61_58, q_61_61, q_61_62, q_61_63, q_61_66, q_61_67, q_61_68, q_61_71, q_61_74, q_61_76, q_61_78, q_61_81, q_61_83, q_61_85, q_61_88, q_61_90, q_61_92, q_61_95, q_61_96, q_61_97, q_61_100, q_61_101, q_61_102, q_61_105, q_61_106, q_61_107, q_61_110, q_61_111, q_61_113, q_61_114, q_61_117, q_61_120, q_61_123, q_61_124, q_61_127, q_61_128, q_61_129, q_61_130, q_61_133, og_4_14, og_4_13, op_4_13, o_is, o_ob, ofs_len4, ↓reduceIte, k_cr, k_ci, k_oR, k_oN, k_aR, k_aN, and_true, true_and, and_self, eq_self, Nat.reduceLT, Nat.reduceLeDiff, Nat.reduceEqDiff, Nat.reduceAdd, Nat.reduceMul, Bool.true_eq_false, Bool.false_eq_true, Nat.add_sub_cancel, Nat.not_lt_zero, Nat.zero_le, k_sub, k_sb1, k_r, k_n, k_ret, k_t1, k_t0, k_nr, k_nn, k_z0, k_z1, k_zb, x_okI, lit_nI, k_in, k_cl, k_lt, k_le, k_eq, k_neg, nI_add, nI_mul, k_clt, k_cgt, k_cle, k_cge, k_ceq, bI_0, k_sh8, ne_eq, Nat.add_eq_zero_iff, Nat.one_ne_zero, Nat.succ_ne_zero, and_false, false_and, not_false_eq_true, not_true_eq_false, ite_true, ite_false, if_true, if_false, wI, h14, h7, h8, h0, e]
    · have h8 : 700 ≤ c := by omega
      simp (disch := omega) only [q_61_0, q_61_1, q_61_2, q_61_3, q_61_4, q_61_7, q_61_8, q_61_10, q_61_13, q_61_16, q_61_17, q_61_20, q_61_23, q_61_24, q_61_27, q_61_29, q_61_31, q_61_33, q_61_36, q_61_38, q_61_40, q_61_43, q_61_44, q_61_47, q_61_48, q_61_49, q_61_50, q_61_53, q_61_55, q_61_56, q_61_57, q_61_58, q_61_61, q_61_62, q_61_63, q_61_66, q_61_67, q_61_68, q_61_71, q_61_74, q_61_76, q_61_78, q_61_81, q_61_83, q_61_85, q_61_88, q_61_90, q_61_92, q_61_95, q_61_96, q_61_97, q_61_100, q_61_101, q_61_102, q_61_105, q_61_106, q_61_107, q_61_110, q_61_111, q_61_113, q_61_114, q_61_117, q_61_120, q_61_123, q_61_124, q_61_127, q_61_128, q_61_129, q_61_130, q_61_133, og_4_14, og_4_13, op_4_13, o_is, o_ob, ofs_len4, ↓reduceIte, k_cr, k_ci, k_oR, k_oN, k_aR, k_aN, and_true, true_and, and_self, eq_self, Nat.reduceLT, Nat.reduceLeDiff, Nat.reduceEqDiff, Nat.reduceAdd, Nat.reduceMul, Bool.true_eq_false, Bool.false_eq_true, Nat.add_sub_cancel, Nat.not_lt_zero, Nat.zero_le, k_sub, k_sb1, k_r, k_n, k_ret, k_t1, k_t0, k_nr, k_nn, k_z0, k_z1, k_zb, x_okI, lit_nI, k_in, k_cl, k_lt, k_le, k_eq, k_neg, nI_add, nI_mul, k_clt, k_cgt, k_cle, k_cge, k_ceq, bI_0, k_sh8, ne_eq, Nat.add_eq_zero_iff, Nat.one_ne_zero, Nat.succ_ne_zero, and_false, false_and, not_false_eq_true, not_true_eq_false, ite_true, ite_false, if_true, if_false, wI, h14, h7, h8, h0, e]
def fcR (D Q P κ A : Nat) (S0 : gS) (e : kE) (N k i z : Nat) (C : List cT) (S T : gS) (h : xH) : eR → Prop
  | .inl q => q ≤ N ∧ ∃ S' T', xm D 62 [.ref Q, .int (nI k)] (oh 4 h Q S) = some (none, oh 4 (oh 3 h A T') Q S') ∧ cX P κ A S0 S' q ∧ fr p6 T T'
  | .inr (j, B) => i < j ∧ j ≤ N ∧ B.length + i ≤ j ∧ ∃ S' T', xm D 62 [.ref Q, .int (nI k)] (oh 4 h Q S) = some (none, oh 4 (oh 3 h A T') Q S') ∧ cV P κ A S0 S' j (mnF (B.flatMap (actB e)) z) (C ++ B.map (cod e)) ∧ keV e B T T'
def fcOK (dd Q P κ A : Nat) (SP SK S0 : gS) (nO N : Nat) (k : Nat) (g : Nat → eR) : Prop :=
  ∀ (d i z : Nat) (C : List cT) (S T : gS) (h : xH), cH P κ A SP SK T h → cV P κ A S0 S i z C → C.length ≤ i → i ≤ N → fcR (d + (dd + 4)) Q P κ A S0 (eC SK nO) N k i z C S T h (g i)
def tcR (D Q P κ A : Nat) (S0 : gS) (e : kE) (N k j z c : Nat) (w : Option Int32) (u : Nat × Value) (C : List cT) (S T : gS) (h : xH) : eR → Prop
  | .inl q => q ≤ N ∧ ∃ S' T', xrun D 61 9 [(1, .ref Q), (1, .int (nI k)), (1, .int (wI w)), (1, .int (nI c)), u] [] (oh 4 h Q S) = some (none, oh 4 (oh 3 h A T') Q S') ∧ cX P κ A S0 S' q ∧ fr p6 T T'
  | .inr (j', B) => j ≤ j' ∧ j' ≤ N ∧ B.length + j ≤ j' + (opL w).length ∧ ∃ S' T', xrun D 61 9 [(1, .ref Q), (1, .int (nI k)), (1, .int (wI w)), (1, .int (nI c)), u] [] (oh 4 h Q S) = some (none, oh 4 (oh 3 h A T') Q S') ∧ cV P κ A S0 S' j' (mnF (B.flatMap (actB e)) z) (C ++ B.map (cod e)) ∧ keV e B T T'
theorem flat_app (e : kE) (X Y : List aT) (z : Nat) : mnF ((X ++ Y).flatMap (actB e)) z = mnF (Y.flatMap (actB e)) (mnF (X.flatMap (actB e)) z) := by
  rw [List.flatMap_append, mnF_app]
theorem opL_flat (e : kE) (w : Option Int32) (z : Nat) : mnF ((opL w).flatMap (actB e)) z = z := by
  cases w with
  | none => rfl
  | some c =>
    show mnF (actB e (opA c) ++ []) z = z
    rw [actB_no e (opA_no c)]
    rfl
theorem keV.op {e : kE} {T : gS} (w : Option Int32) : keV e (opL w) T T := by
  cases w with
  | none => exact keV.nil e T
  | some c => exact (keV.nil e T).no (opA_no c)
theorem tlc_ok {dd Q P κ A : Nat} {SP SK S0 : gS} {nO N k : Nat} {p : pP} {g : Nat → eR} (hg : fcOK dd Q P κ A SP SK S0 nO N k g) (hs : cS Q P κ A SP SK nO N p) (d : Nat) : ∀ (f j z c : Nat) (w : Option Int32) (u : Nat × Value) (C : List cT) (S T : gS) (h : xH), (∀ c, w = some c → isPl c = true) → cH P κ A SP SK T h → cV P κ A S0 S j z C → C.length + (opL w).length ≤ j → j ≤ N → 2 * c ≤ j → N < j + f → tcR (d + (dd + 4)) Q P κ A S0 (eC SK nO) N k j z c w u C S T h (tlF p g f j w)
  | 0, j, z, c, w, u, C, S, T, h, hw, hh, hv, hl, hj, hc, hf => absurd hf (by omega)
  | f + 1, j, z, c, w, u, C, S, T, h, hw, hh, hv, hl, hj, hc, hf => by
    have hN := hs.2.2.2.2.2.2.2.1
    have hN7 := hN.1
    obtain ⟨r0, r9, r11⟩ := hv.r
    have h13 := hv.2.2.2.1
    have h14 := hv.2.2.2.2.1
    have eK : xm (d + (dd + 4)) 47 [.ref Q] (oh 4 h Q S) = some (some (.int (cK p j)), oh 4 h Q S) := k_kind (d + dd + 3) hs hh r0 h13 hj
    have c7 : ¬ 700 ≤ c := by omega
    have hwn : ∀ c, w = some c → ¬ c = nI 0 := fun c e => (isPl_op (hw c e)).2.2.1
    have k43 : (cK p j = nI 43) = (p.1 j = nI 43) := propext (cK_c (by decide))
    have k45 : (cK p j = nI 45) = (p.1 j = nI 45) := propext (cK_c (by decide))
    have k42 : (cK p j = nI 42) = (p.1 j = nI 42) := propext (cK_c (by decide))
    have k47 : (cK p j = nI 47) = (p.1 j = nI 47) := propext (cK_c (by decide))
    have k37 : (cK p j = nI 37) = (p.1 j = nI 37) := propext (cK_c (by decide))
    unfold tlF
    by_cases c1 : isPl (p.1 j) = true
    · rw [if_pos c1]
      obtain ⟨o1, o2, o3, o4, o5, o6, o7⟩ := isPl_op c1
      have hj1 : j < N := hN.lt hj o3
      have pl : p.1 j = nI 43 ∨ p.1 j = nI 45 := by
        unfold isPl at c1
        rw [Bool.or_eq_true, decide_eq_true_eq, decide_eq_true_eq] at c1
        exact c1
      have cke : cK p j = p.1 j := by
        rcases pl with q | q
        · rw [q]
          exact (cK_c (by decide)).mpr q
        · rw [q]
          exact (cK_c (by decide)).mpr q
      -- what is waiting goes first
      have st : ∃ S1, cV P κ A S0 S1 (j + 1) z (C ++ (opL w).map (cod (eC SK nO))) ∧ ∀ (R1 : xH) (R2 : Option xR), xrun (d + (dd + 4)) 61 9 [(1, .ref Q), (1, .int (nI k)), (1, .int (p.1 j)), (1, .int (nI (c + 1))), (1, .int (p.1 j))] [] R1 = R2 → xm (d + (dd + 4)) 62 [.ref Q, .int (nI k)] (oh 4 h Q S1) = some (none, R1) → xrun (d + (dd + 4)) 61 9 [(1, .ref Q), (1, .int (nI k)), (1, .int (wI w)), (1, .int (nI c)), u] [] (oh 4 h Q S) = R2 := by
        cases w with
        | none =>
          refine ⟨uI S 13 (nI (j + 1)), ?_, fun R1 R2 hR eF => ?_⟩
          · have v1 := hv.at (j + 1)
            show cV P κ A S0 (uI S 13 (nI (j + 1))) (j + 1) z (C ++ [])
            rw [List.append_nil]
            exact v1
          · rw [← hR, q_61_9]
            rcases pl with q | q <;> simp (disch := omega) only [q_61_0, q_61_1, q_61_2, q_61_3, q_61_4, q_61_7, q_61_8, q_61_10, q_61_13, q_61_16, q_61_17, q_61_20, q_61_23, q_61_24, q_61_27, q_61_29, q_61_31, q_61_33, q_61_36, q_61_38, q_61_40, q_61_43, q_61_44, q_61_47, q_61_48, q_61_49, q_61_50, q_61_53, q_61_55, q_61_56, q_61_57, q_61_58, q_61_61, q_61_62, q_61_63, q_61_66, q_61_67, q_61_68, q_61_71, q_61_74, q_61_76, q_61_78, q_61_81, q_61_83, q_61_85, q_61_88, q_61_90, q_61_92, q_61_95, q_61_96, q_61_97, q_61_100, q_61_101, q_61_102, q_61_105, q_61_106, q_61_107, q_61_110, q_61_111, q_61_113, q_61_114, q_61_117, q_61_120, q_61_123, q_61_124, q_61_127, q_61_128, q_61_129, q_61_130, q_61_133, og_4_14, og_4_13, op_4_13, o_is, o_ob, ofs_len4, ↓reduceIte, k_cr, k_ci, k_oR, k_oN, k_aR, k_aN, and_true, true_and, and_self, eq_self, Nat.reduceLT, Nat.reduceLeDiff, Nat.reduceEqDiff, Nat.reduceAdd, Nat.reduceMul, Bool.true_eq_false, Bool.false_eq_true, Nat.add_sub_cancel, Nat.not_lt_zero, Nat.zero_le, k_sub, k_sb1, k_r, k_n, k_ret, k_t1, k_t0, k_nr, k_nn, k_z0, k_z1, k_zb, x_okI, lit_nI, k_in, k_cl, k_lt, k_le, k_eq, k_neg, nI_add, nI_mul, k_clt, k_cgt, k_cle, k_cge, k_ceq, bI_0, k_sh8, ne_eq, Nat.add_eq_zero_iff, Nat.one_ne_zero, Nat.succ_ne_zero, and_false, false_and, not_false_eq_true, not_true_eq_false, ite_true, ite_false, if_true, if_false, wI, h13, h14, c7, eK, cke, q, eF]
        | some w0 =>
          have eE : xm (d + (dd + 4)) 63 [.ref Q, .int w0, .int (nI 0)] (oh 4 h Q S) = _ := k_emit (Q := Q) (h := h) (d + dd + 3) (c := w0) (o := nI 0) hv.2.2.2.2.2.2.2.1.1 (by
            have hl2 : C.length + 1 ≤ j := hl
            omega)
          have h0 := hwn w0 rfl
          have v1 := (hv.em w0 (nI 0)).at (j + 1)
          refine ⟨uI (emS S C.length w0 (nI 0)) 13 (nI (j + 1)), ?_, fun R1 R2 hR eF => ?_⟩
          · show cV P κ A S0 _ (j + 1) z (C ++ [cod (eC SK nO) (opA w0)])
            rw [cod_op _ (isPl_op (hw w0 rfl)).1]
            exact v1
          · unfold emS at eE eF
            rw [← hR, q_61_9]
            rcases pl with q | q <;> simp (disch := omega) only [q_61_0, q_61_1, q_61_2, q_61_3, q_61_4, q_61_7, q_61_8, q_61_10, q_61_13, q_61_16, q_61_17, q_61_20, q_61_23, q_61_24, q_61_27, q_61_29, q_61_31, q_61_33, q_61_36, q_61_38, q_61_40, q_61_43, q_61_44, q_61_47, q_61_48, q_61_49, q_61_50, q_61_53, q_61_55, q_61_56, q_61_57, q_61_58, q_61_61, q_61_62, q_61_63, q_61_66, q_61_67, q_61_68, q_61_71, q_61_74, q_61_76, q_61_78, q_61_81, q_61_83, q_61_85, q_61_88, q_61_90, q_61_92, q_61_95, q_61_96, q_61_97, q_61_100, q_61_101, q_61_102, q_61_105, q_61_106, q_61_107, q_61_110, q_61_111, q_61_113, q_61_114, q_61_117, q_61_120, q_61_123, q_61_124, q_61_127, q_61_128, q_61_129, q_61_130, q_61_133, og_4_14, og_4_13, op_4_13, o_is, o_ob, ofs_len4, ↓reduceIte, k_cr, k_ci, k_oR, k_oN, k_aR, k_aN, and_true, true_and, and_self, eq_self, Nat.reduceLT, Nat.reduceLeDiff, Nat.reduceEqDiff, Nat.reduceAdd, Nat.reduceMul, Bool.true_eq_false, Bool.false_eq_true, Nat.add_sub_cancel, Nat.not_lt_zero, Nat.zero_le, k_sub, k_sb1, k_r, k_n, k_ret, k_t1, k_t0, k_nr, k_nn, k_z0, k_z1, k_zb, x_okI, lit_nI, k_in, k_cl, k_lt, k_le, k_eq, k_neg, nI_add, nI_mul, k_clt, k_cgt, k_cle, k_cge, k_ceq, bI_0, k_sh8, ne_eq, Nat.add_eq_zero_iff, Nat.one_ne_zero, Nat.succ_ne_zero, and_false, false_and, not_false_eq_true, not_true_eq_false, ite_true, ite_false, if_true, if_false, sI_uI, sJ_uI, sA_uI, sL_uI, sR_uI, sQ_uI, sI_uJ, sJ_uJ, sA_uJ, sL_uJ, sR_uJ, sQ_uJ, sI_uA, sJ_uA, sA_uA, sL_uA, sR_uA, sQ_uA, sI_uL, sJ_uL, sA_uL, sL_uL, sR_uL, sQ_uL, sI_uR, sJ_uR, sA_uR, sL_uR, sR_uR, sQ_uR, sI_uQ, sJ_uQ, sA_uQ, sL_uQ, sR_uQ, sQ_uQ, wI, h13, h14, c7, eK, eE, cke, q, h0, eF]
      obtain ⟨S1, v1, go⟩ := st
      have hlen1 : (C ++ (opL w).map (cod (eC SK nO))).length = C.length + (opL w).length := by rw [List.length_append, List.length_map]
      have hr := hg d (j + 1) z (C ++ (opL w).map (cod (eC SK nO))) S1 T h hh v1 (by omega) hj1
      cases hgq : g (j + 1) with
      | inl q =>
        rw [hgq] at hr
        obtain ⟨r0, S2, T2, e2, x2, f2⟩ := hr
        obtain ⟨S3, e3, x3⟩ := sum_X (d + (dd + 3)) (Q := Q) (k := nI k) (c := c + 1) (w := some (p.1 j)) (u := (1, .int (p.1 j))) (h := oh 3 h A T2) x2 (fun x e => by cases e; exact o3) (by omega)
        exact ⟨r0, S3, T2, go _ _ e3 e2, x3, f2⟩
      | inr y =>
        obtain ⟨q, B⟩ := y
        rw [hgq] at hr
        obtain ⟨r1, r2, r3, S2, T2, e2, v2, t2⟩ := hr
        have ih := tlc_ok hg hs d f q (mnF (B.flatMap (actB (eC SK nO))) z) (c + 1) (some (p.1 j)) (1, .int (p.1 j)) (C ++ (opL w).map (cod (eC SK nO)) ++ B.map (cod (eC SK nO))) S2 T2 (oh 3 h A T2) (fun x e => by cases e; exact c1) (hh.mv hs T2) v2 (by rw [List.length_append, hlen1, List.length_map]; show _ + 1 ≤ q; omega) r2 (by omega) (by omega)
        show tcR (d + (dd + 4)) Q P κ A S0 (eC SK nO) N k j z c w u C S T h (ePre (opL w ++ B) (tlF p g f q (some (p.1 j))))
        cases hq2 : tlF p g f q (some (p.1 j)) with
        | inl y =>
          rw [hq2] at ih
          obtain ⟨s0, S3, T3, e3, x3, f3⟩ := ih
          rw [oh_oh] at e3
          exact ⟨s0, S3, T3, go _ _ e3 e2, x3, t2.1.trans f3⟩
        | inr y =>
          obtain ⟨j', B'⟩ := y
          rw [hq2] at ih
          obtain ⟨s1, s2, s3, S3, T3, e3, v3, t3⟩ := ih
          rw [oh_oh] at e3
          have s4 : B'.length + q ≤ j' + 1 := s3
          refine ⟨by omega, s2, ?_, S3, T3, go _ _ e3 e2, ?_, ?_⟩
          · rw [List.length_append, List.length_append]
            omega
          · rw [flat_app, flat_app, opL_flat, List.map_append, List.map_append, ← List.append_assoc, ← List.append_assoc]
            exact v3
          · exact ((keV.op w).app t2).app t3
    · rw [if_neg c1]
      have n43 : ¬ p.1 j = nI 43 := fun q => c1 (by rw [q]; decide)
      have n45 : ¬ p.1 j = nI 45 := fun q => c1 (by rw [q]; decide)
      by_cases c2 : isTm (p.1 j) = true
      · rw [if_pos c2]
        obtain ⟨o1, o3, o4, o5, o6⟩ := isTm_op c2
        have hj1 : j < N := hN.lt hj o3
        have pl : p.1 j = nI 42 ∨ p.1 j = nI 47 ∨ p.1 j = nI 37 := by
          unfold isTm at c2
          rw [Bool.or_eq_true, Bool.or_eq_true, decide_eq_true_eq, decide_eq_true_eq, decide_eq_true_eq] at c2
          rcases c2 with (q | q) | q
          · exact Or.inl q
          · exact Or.inr (Or.inl q)
          · exact Or.inr (Or.inr q)
        have cke : cK p j = p.1 j := by
          rcases pl with q | q | q
          · rw [q]
            exact (cK_c (by decide)).mpr q
          · rw [q]
            exact (cK_c (by decide)).mpr q
          · rw [q]
            exact (cK_c (by decide)).mpr q
        have v1 := hv.at (j + 1)
        have go : ∀ S2 T2 S3 R, xm (d + (dd + 4)) 62 [.ref Q, .int (nI k)] (oh 4 h Q (uI S 13 (nI (j + 1)))) = some (none, oh 4 (oh 3 h A T2) Q S2) → xm (d + (dd + 4)) 63 [.ref Q, .int (p.1 j), .int (nI 0)] (oh 4 (oh 3 h A T2) Q S2) = some (none, oh 4 (oh 3 h A T2) Q S3) → xrun (d + (dd + 4)) 61 9 [(1, .ref Q), (1, .int (nI k)), (1, .int (wI w)), (1, .int (nI (c + 1))), (1, .int (p.1 j))] [] (oh 4 (oh 3 h A T2) Q S3) = R → xrun (d + (dd + 4)) 61 9 [(1, .ref Q), (1, .int (nI k)), (1, .int (wI w)), (1, .int (nI c)), u] [] (oh 4 h Q S) = R := by
          intro S2 T2 S3 R eF eE hR
          rw [← hR, q_61_9]
          generalize wI w = x
          rcases pl with q | q | q
          · rw [q] at cke eE ⊢
            simp (disch := omega) only [q_61_0, q_61_1, q_61_2, q_61_3, q_61_4, q_61_7, q_61_8, q_61_10, q_61_13, q_61_16, q_61_17, q_61_20, q_61_23, q_61_24, q_61_27, q_61_29, q_61_31, q_61_33, q_61_36, q_61_38, q_61_40, q_61_43, q_61_44, q_61_47, q_61_48, q_61_49, q_61_50, q_61_53, q_61_55, q_61_56, q_61_57, q_61_58, q_61_61, q_61_62, q_61_63, q_61_66, q_61_67, q_61_68, q_61_71, q_61_74, q_61_76, q_61_78, q_61_81, q_61_83, q_61_85, q_61_88, q_61_90, q_61_92, q_61_95, q_61_96, q_61_97, q_61_100, q_61_101, q_61_102, q_61_105, q_61_106, q_61_107, q_61_110, q_61_111, q_61_113, q_61_114, q_61_117, q_61_120, q_61_123, q_61_124, q_61_127, q_61_128, q_61_129, q_61_130, q_61_133, og_4_14, og_4_13, op_4_13, o_is, o_ob, ofs_len4, ↓reduceIte, k_cr, k_ci, k_oR, k_oN, k_aR, k_aN, and_true, true_and, and_self, eq_self, Nat.reduceLT, Nat.reduceLeDiff, Nat.reduceEqDiff, Nat.reduceAdd, Nat.reduceMul, Bool.true_eq_false, Bool.false_eq_true, Nat.add_sub_cancel, Nat.not_lt_zero, Nat.zero_le, k_sub, k_sb1, k_r, k_n, k_ret, k_t1, k_t0, k_nr, k_nn, k_z0, k_z1, k_zb, x_okI, lit_nI, k_in, k_cl, k_lt, k_le, k_eq, k_neg, nI_add, nI_mul, k_clt, k_cgt, k_cle, k_cge, k_ceq, bI_0, k_sh8, ne_eq, Nat.add_eq_zero_iff, Nat.one_ne_zero, Nat.succ_ne_zero, and_false, false_and, not_false_eq_true, not_true_eq_false, ite_true, ite_false, if_true, if_false, h13, h14, c7, eK, cke, eF, eE]
          · rw [q] at cke eE ⊢
            simp (disch := omega) only [q_61_0, q_61_1, q_61_2, q_61_3, q_61_4, q_61_7, q_61_8, q_61_10, q_61_13, q_61_16, q_61_17, q_61_20, q_61_23, q_61_24, q_61_27, q_61_29, q_61_31, q_61_33, q_61_36, q_61_38, q_61_40, q_61_43, q_61_44, q_61_47, q_61_48, q_61_49, q_61_50, q_61_53, q_61_55, q_61_56, q_61_57, q_61_58, q_61_61, q_61_62, q_61_63, q_61_66, q_61_67, q_61_68, q_61_71, q_61_74, q_61_76, q_61_78, q_61_81, q_61_83, q_61_85, q_61_88, q_61_90, q_61_92, q_61_95, q_61_96, q_61_97, q_61_100, q_61_101, q_61_102, q_61_105, q_61_106, q_61_107, q_61_110, q_61_111, q_61_113, q_61_114, q_61_117, q_61_120, q_61_123, q_61_124, q_61_127, q_61_128, q_61_129, q_61_130, q_61_133, og_4_14, og_4_13, op_4_13, o_is, o_ob, ofs_len4, ↓reduceIte, k_cr, k_ci, k_oR, k_oN, k_aR, k_aN, and_true, true_and, and_self, eq_self, Nat.reduceLT, Nat.reduceLeDiff, Nat.reduceEqDiff, Nat.reduceAdd, Nat.reduceMul, Bool.true_eq_false, Bool.false_eq_true, Nat.add_sub_cancel, Nat.not_lt_zero, Nat.zero_le, k_sub, k_sb1, k_r, k_n, k_ret, k_t1, k_t0, k_nr, k_nn, k_z0, k_z1, k_zb, x_okI, lit_nI, k_in, k_cl, k_lt, k_le, k_eq, k_neg, nI_add, nI_mul, k_clt, k_cgt, k_cle, k_cge, k_ceq, bI_0, k_sh8, ne_eq, Nat.add_eq_zero_iff, Nat.one_ne_zero, Nat.succ_ne_zero, and_false, false_and, not_false_eq_true, not_true_eq_false, ite_true, ite_false, if_true, if_false, h13, h14, c7, eK, cke, eF, eE]
          · rw [q] at cke eE ⊢
            simp (disch := omega) only [q_61_0, q_61_1, q_61_2, q_61_3, q_61_4, q_61_7, q_61_8, q_61_10, q_61_13, q_61_16, q_61_17, q_61_20, q_61_23, q_61_24, q_61_27, q_61_29, q_61_31, q_61_33, q_61_36, q_61_38, q_61_40, q_61_43, q_61_44, q_61_47, q_61_48, q_61_49, q_61_50, q_61_53, q_61_55, q_61_56, q_61_57, q_61_58, q_61_61, q_61_62, q_61_63, q_61_66, q_61_67, q_61_68, q_61_71, q_61_74, q_61_76, q_61_78, q_61_81, q_61_83, q_61_85, q_61_88, q_61_90, q_61_92, q_61_95, q_61_96, q_61_97, q_61_100, q_61_101, q_61_102, q_61_105, q_61_106, q_61_107, q_61_110, q_61_111, q_61_113, q_61_114, q_61_117, q_61_120, q_61_123, q_61_124, q_61_127, q_61_128, q_61_129, q_61_130, q_61_133, og_4_14, og_4_13, op_4_13, o_is, o_ob, ofs_len4, ↓reduceIte, k_cr, k_ci, k_oR, k_oN, k_aR, k_aN, and_true, true_and, and_self, eq_self, Nat.reduceLT, Nat.reduceLeDiff, Nat.reduceEqDiff, Nat.reduceAdd, Nat.reduceMul, Bool.true_eq_false, Bool.false_eq_true, Nat.add_sub_cancel, Nat.not_lt_zero, Nat.zero_le, k_sub, k_sb1, k_r, k_n, k_ret, k_t1, k_t0, k_nr, k_nn, k_z0, k_z1, k_zb, x_okI, lit_nI, k_in, k_cl, k_lt, k_le, k_eq, k_neg, nI_add, nI_mul, k_clt, k_cgt, k_cle, k_cge, k_ceq, bI_0, k_sh8, ne_eq, Nat.add_eq_zero_iff, Nat.one_ne_zero, Nat.succ_ne_zero, and_false, false_and, not_false_eq_true, not_true_eq_false, ite_true, ite_false, if_true, if_false, h13, h14, c7, eK, cke, eF, eE]
        have hr := hg d (j + 1) z C (uI S 13 (nI (j + 1))) T h hh v1 (by omega) hj1
        cases hgq : g (j + 1) with
        | inl q =>
          rw [hgq] at hr
          obtain ⟨r0, S2, T2, e2, x2, f2⟩ := hr
          obtain ⟨S3, e3, x3⟩ := x2.em (d + (dd + 3)) Q (oh 3 h A T2) (p.1 j) (nI 0)
          obtain ⟨S4, e4, x4⟩ := sum_X (d + (dd + 3)) (Q := Q) (k := nI k) (c := c + 1) (w := w) (u := (1, .int (p.1 j))) (h := oh 3 h A T2) x3 hwn (by omega)
          exact ⟨r0, S4, T2, go S2 T2 S3 _ e2 e3 e4, x4, f2⟩
        | inr y =>
          obtain ⟨q, B⟩ := y
          rw [hgq] at hr
          obtain ⟨r1, r2, r3, S2, T2, e2, v2, t2⟩ := hr
          have hlen2 : (C ++ B.map (cod (eC SK nO))).length = C.length + B.length := by rw [List.length_append, List.length_map]
          have e3 : xm (d + (dd + 4)) 63 [.ref Q, .int (p.1 j), .int (nI 0)] (oh 4 (oh 3 h A T2) Q S2) = _ := k_emit (Q := Q) (h := oh 3 h A T2) (d + dd + 3) (c := p.1 j) (o := nI 0) v2.2.2.2.2.2.2.2.1.1 (by omega)
          have v3 := v2.em (p.1 j) (nI 0)
          have ih := tlc_ok hg hs d f q (mnF (B.flatMap (actB (eC SK nO))) z) (c + 1) w (1, .int (p.1 j)) (C ++ B.map (cod (eC SK nO)) ++ [(p.1 j, nI 0)]) _ T2 (oh 3 h A T2) hw (hh.mv hs T2) v3 (by rw [List.length_append, hlen2, List.length_singleton]; omega) r2 (by omega) (by omega)
          show tcR (d + (dd + 4)) Q P κ A S0 (eC SK nO) N k j z c w u C S T h (ePre (B ++ [opA (p.1 j)]) (tlF p g f q w))
          cases hq2 : tlF p g f q w with
          | inl y =>
            rw [hq2] at ih
            obtain ⟨s0, S4, T4, e4, x4, f4⟩ := ih
            rw [oh_oh] at e4
            exact ⟨s0, S4, T4, go _ _ _ _ e2 e3 e4, x4, t2.1.trans f4⟩
          | inr y =>
            obtain ⟨j', B'⟩ := y
            rw [hq2] at ih
            obtain ⟨s1, s2, s3, S4, T4, e4, v4, t4⟩ := ih
            rw [oh_oh] at e4
            refine ⟨by omega, s2, ?_, S4, T4, go _ _ _ _ e2 e3 e4, ?_, ?_⟩
            · rw [List.length_append, List.length_append, List.length_singleton]
              omega
            · have ef : mnF ((B ++ [opA (p.1 j)] ++ B').flatMap (actB (eC SK nO))) z = mnF (B'.flatMap (actB (eC SK nO))) (mnF (B.flatMap (actB (eC SK nO))) z) := by
                rw [flat_app, flat_app]
                show mnF _ (mnF (actB (eC SK nO) (opA (p.1 j)) ++ []) _) = _
                rw [actB_no _ (opA_no _)]
                rfl
              have ec : C ++ (B ++ [opA (p.1 j)] ++ B').map (cod (eC SK nO)) = C ++ B.map (cod (eC SK nO)) ++ [(p.1 j, nI 0)] ++ B'.map (cod (eC SK nO)) := by
                rw [List.map_append, List.map_append, ← List.append_assoc, ← List.append_assoc]
                show _ ++ [cod (eC SK nO) (opA (p.1 j))] ++ _ = _
                rw [cod_op _ o1]
              rw [ef, ec]
              exact v4
            · exact (t2.no (opA_no _)).app t4
      · rw [if_neg c2]
        have n42 : ¬ p.1 j = nI 42 := fun q => c2 (by rw [q]; decide)
        have n47 : ¬ p.1 j = nI 47 := fun q => c2 (by rw [q]; decide)
        have n37 : ¬ p.1 j = nI 37 := fun q => c2 (by rw [q]; decide)
        cases w with
        | none =>
          refine ⟨Nat.le_refl _, hj, by show 0 + j ≤ j + 0; omega, S, T, ?_, ?_, keV.nil _ T⟩
          · rw [hh.same, q_61_9]
            simp (disch := omega) only [q_61_0, q_61_1, q_61_2, q_61_3, q_61_4, q_61_7, q_61_8, q_61_10, q_61_13, q_61_16, q_61_17, q_61_20, q_61_23, q_61_24, q_61_27, q_61_29, q_61_31, q_61_33, q_61_36, q_61_38, q_61_40, q_61_43, q_61_44, q_61_47, q_61_48, q_61_49, q_61_50, q_61_53, q_61_55, q_61_56, q_61_57, q_61_58, q_61_61, q_61_62, q_61_63, q_61_66, q_61_67, q_61_68, q_61_71, q_61_74, q_61_76, q_61_78, q_61_81, q_61_83, q_61_85, q_61_88, q_61_90, q_61_92, q_61_95, q_61_96, q_61_97, q_61_100, q_61_101, q_61_102, q_61_105, q_61_106, q_61_107, q_61_110, q_61_111, q_61_113, q_61_114, q_61_117, q_61_120, q_61_123, q_61_124, q_61_127, q_61_128, q_61_129, q_61_130, q_61_133, og_4_14, og_4_13, op_4_13, o_is, o_ob, ofs_len4, ↓reduceIte, k_cr, k_ci, k_oR, k_oN, k_aR, k_aN, and_true, true_and, and_self, eq_self, Nat.reduceLT, Nat.reduceLeDiff, Nat.reduceEqDiff, Nat.reduceAdd, Nat.reduceMul, Bool.true_eq_false, Bool.false_eq_true, Nat.add_sub_cancel, Nat.not_lt_zero, Nat.zero_le, k_sub, k_sb1, k_r, k_n, k_ret, k_t1, k_t0, k_nr, k_nn, k_z0, k_z1, k_zb, x_okI, lit_nI, k_in, k_cl, k_lt, k_le, k_eq, k_neg, nI_add, nI_mul, k_clt, k_cgt, k_cle, k_cge, k_ceq, bI_0, k_sh8, ne_eq, Nat.add_eq_zero_iff, Nat.one_ne_zero, Nat.succ_ne_zero, and_false, false_and, not_false_eq_true, not_true_eq_false, ite_true, ite_false, if_true, if_false, wI, h14, c7, eK, k43, k45, k42, k47, k37, n43, n45, n42, n47, n37]
          · show cV P κ A S0 S j z (C ++ [])
            rw [List.append_nil]
            exact hv
        | some w0 =>
          have eE : xm (d + (dd + 4)) 63 [.ref Q, .int w0, .int (nI 0)] (oh 4 h Q S) = _ := k_emit (Q := Q) (h := h) (d + dd + 3) (c := w0) (o := nI 0) hv.2.2.2.2.2.2.2.1.1 (by
            have hl2 : C.length + 1 ≤ j := hl
            omega)
          have h0 := hwn w0 rfl
          refine ⟨Nat.le_refl _, hj, by show 1 + j ≤ j + 1; omega, emS S C.length w0 (nI 0), T, ?_, ?_, keV.op (some w0)⟩
          · rw [hh.same, q_61_9]
            simp (disch := omega) only [q_61_0, q_61_1, q_61_2, q_61_3, q_61_4, q_61_7, q_61_8, q_61_10, q_61_13, q_61_16, q_61_17, q_61_20, q_61_23, q_61_24, q_61_27, q_61_29, q_61_31, q_61_33, q_61_36, q_61_38, q_61_40, q_61_43, q_61_44, q_61_47, q_61_48, q_61_49, q_61_50, q_61_53, q_61_55, q_61_56, q_61_57, q_61_58, q_61_61, q_61_62, q_61_63, q_61_66, q_61_67, q_61_68, q_61_71, q_61_74, q_61_76, q_61_78, q_61_81, q_61_83, q_61_85, q_61_88, q_61_90, q_61_92, q_61_95, q_61_96, q_61_97, q_61_100, q_61_101, q_61_102, q_61_105, q_61_106, q_61_107, q_61_110, q_61_111, q_61_113, q_61_114, q_61_117, q_61_120, q_61_123, q_61_124, q_61_127, q_61_128, q_61_129, q_61_130, q_61_133, og_4_14, og_4_13, op_4_13, o_is, o_ob, ofs_len4, ↓reduceIte, k_cr, k_ci, k_oR, k_oN, k_aR, k_aN, and_true, true_and, and_self, eq_self, Nat.reduceLT, Nat.reduceLeDiff, Nat.reduceEqDiff, Nat.reduceAdd, Nat.reduceMul, Bool.true_eq_false, Bool.false_eq_true, Nat.add_sub_cancel, Nat.not_lt_zero, Nat.zero_le, k_sub, k_sb1, k_r, k_n, k_ret, k_t1, k_t0, k_nr, k_nn, k_z0, k_z1, k_zb, x_okI, lit_nI, k_in, k_cl, k_lt, k_le, k_eq, k_neg, nI_add, nI_mul, k_clt, k_cgt, k_cle, k_cge, k_ceq, bI_0, k_sh8, ne_eq, Nat.add_eq_zero_iff, Nat.one_ne_zero, Nat.succ_ne_zero, and_false, false_and, not_false_eq_true, not_true_eq_false, ite_true, ite_false, if_true, if_false, wI, h14, c7, eK, k43, k45, k42, k47, k37, n43, n45, n42, n47, n37, h0, eE]
          · rw [opL_flat]
            show cV P κ A S0 _ j z (C ++ [cod (eC SK nO) (opA w0)])
            rw [cod_op _ (isPl_op (hw w0 rfl)).1]
            exact hv.em w0 (nI 0)
