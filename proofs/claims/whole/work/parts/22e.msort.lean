/-! The reference: areAllOther, putSorted. -/
def kyL (f : Nat → Int64) : Nat → Nat → List (Int64 × Nat)
  | 0, _ => []
  | k + 1, i => (f i, i) :: kyL f k (i + 1)
def bOf (e : Nat) : Option (Int64 × Nat) → Nat
  | none => e
  | some y => y.2
theorem kyL_find (f : Nat → Int64) (w : Int64) : ∀ (k i : Nat) (y : Int64 × Nat), (kyL f k i).find? (fun y => decide (y.1 = w)) = some y → i ≤ y.2 ∧ y.2 < i + k ∧ y.1 = f y.2
  | 0, i, y, h => by cases h
  | k + 1, i, y, h => by
    rw [show kyL f (k + 1) i = (f i, i) :: kyL f k (i + 1) from rfl, List.find?_cons] at h
    split at h
    · cases h
      exact ⟨Nat.le_refl _, by show i < i + (k + 1); omega, rfl⟩
    · have := kyL_find f w k (i + 1) y h
      exact ⟨by omega, by omega, this.2.2⟩
theorem ao_in (d : Nat) (h : xH) (M : Nat) (S : gS) (n a : Nat) {number l2 l3 : Int32} (h7 : sA S 7 2 = nI n) (hn : n ≤ 60) (ha : 120 ≤ a ∧ a < 120 + n) : ∀ (k b : Nat), b + k = 120 + n → 120 ≤ b → xrun d 191 28 [(1, .ref M), (1, .int number), (1, .int l2), (1, .int l3), (1, .int (nI a)), (1, .int (nI b))] [] (oh 11 h M S) = xrun d 191 66 [(1, .ref M), (1, .int number), (1, .int l2), (1, .int l3), (1, .int (nI a)), (1, .int (nI (bOf (120 + n) ((kyL (sL S 8) k b).find? (fun y => decide (y.1 = sL S 8 a))))))] [] (oh 11 h M S)
  | 0, b, hb, hb2 => by
    have hle : 120 + n ≤ b := by omega
    have hb3 : b = 120 + n := by omega
    show _ = xrun d 191 66 [(1, Value.ref M), (1, Value.int number), (1, .int l2), (1, .int l3), (1, .int (nI a)), (1, .int (nI (120 + n)))] [] (oh 11 h M S)
    rw [q_191_28]
    subst hb3
    simp (disch := omega) only [q_191_0, q_191_1, q_191_2, q_191_3, q_191_4, q_191_6, q_191_10, q_191_12, q_191_13, q_191_16, q_191_17, q_191_18, q_191_19, q_191_22, q_191_24, q_191_25, q_191_26, q_191_30, q_191_32, q_191_33, q_191_36, q_191_37, q_191_38, q_191_39, q_191_42, q_191_43, q_191_46, q_191_48, q_191_49, q_191_50, q_191_53, q_191_55, q_191_56, q_191_57, q_191_60, q_191_63, og_11_7, or_11_7, ow_11_7, og_11_8, or_11_8, ow_11_8, og_11_64, or_11_64, ow_11_64, og_11_23, op_11_23, o_is, o_ob, ofs_len11, ↓reduceIte, k_cr, k_ci, k_oR, k_oN, k_aR, k_aN, and_true, true_and, and_self, eq_self, Nat.reduceLT, Nat.reduceLeDiff, Nat.reduceEqDiff, Nat.reduceAdd, Nat.reduceMul, Bool.true_eq_false, Bool.false_eq_true, Nat.add_sub_cancel, Nat.not_lt_zero, Nat.zero_le, k_sub, k_sb1, k_r, k_n, k_ret, k_t1, k_t0, k_nr, k_nn, k_z0, k_z1, k_zb, x_okI, lit_nI, k_in, k_cl, k_lt, k_le, k_eq, k_neg, nI_add, nI_mul, k_clt, k_cgt, k_cle, k_cge, k_ceq, bI_0, k_sh8, ne_eq, Nat.add_eq_zero_iff, Nat.one_ne_zero, Nat.succ_ne_zero, and_false, false_and, not_false_eq_true, not_true_eq_false, ite_true, ite_false, if_true, if_false, h7, Nat.le_refl]
  | k + 1, b, hb, hb2 => by
    have hle : ¬ 120 + n ≤ b := by omega
    have ih := ao_in d h M S n a (number := number) (l2 := l2) (l3 := l3) h7 hn ha k (b + 1) (by omega) (by omega)
    rw [show kyL (sL S 8) (k + 1) b = (sL S 8 b, b) :: kyL (sL S 8) k (b + 1) from rfl, List.find?_cons, q_191_28]
    by_cases c : sL S 8 b = sL S 8 a
    · rw [show decide (((sL S 8 b, b) : Int64 × Nat).1 = sL S 8 a) = true from decide_eq_true c]
      simp (disch := omega) only [q_191_0, q_191_1, q_191_2, q_191_3, q_191_4, q_191_6, q_191_10, q_191_12, q_191_13, q_191_16, q_191_17, q_191_18, q_191_19, q_191_22, q_191_24, q_191_25, q_191_26, q_191_30, q_191_32, q_191_33, q_191_36, q_191_37, q_191_38, q_191_39, q_191_42, q_191_43, q_191_46, q_191_48, q_191_49, q_191_50, q_191_53, q_191_55, q_191_56, q_191_57, q_191_60, q_191_63, og_11_7, or_11_7, ow_11_7, og_11_8, or_11_8, ow_11_8, og_11_64, or_11_64, ow_11_64, og_11_23, op_11_23, o_is, o_ob, ofs_len11, ↓reduceIte, k_cr, k_ci, k_oR, k_oN, k_aR, k_aN, and_true, true_and, and_self, eq_self, Nat.reduceLT, Nat.reduceLeDiff, Nat.reduceEqDiff, Nat.reduceAdd, Nat.reduceMul, Bool.true_eq_false, Bool.false_eq_true, Nat.add_sub_cancel, Nat.not_lt_zero, Nat.zero_le, k_sub, k_sb1, k_r, k_n, k_ret, k_t1, k_t0, k_nr, k_nn, k_z0, k_z1, k_zb, x_okI, lit_nI, k_in, k_cl, k_lt, k_le, k_eq, k_neg, nI_add, nI_mul, k_clt, k_cgt, k_cle, k_cge, k_ceq, bI_0, k_sh8, ne_eq, Nat.add_eq_zero_iff, Nat.one_ne_zero, Nat.succ_ne_zero, and_false, false_and, not_false_eq_true, not_true_eq_false, ite_true, ite_false, if_true, if_false, h7, hle, c]
      rfl
    · rw [show decide (((sL S 8 b, b) : Int64 × Nat).1 = sL S 8 a) = false from decide_eq_false c]
      simp (disch := omega) only [q_191_0, q_191_1, q_191_2, q_191_3, q_191_4, q_191_6, q_191_10, q_191_12, q_191_13, q_191_16, q_191_17, q_191_18, q_191_19, q_191_22, q_191_24, q_191_25, q_191_26, q_191_30, q_191_32, q_191_33, q_191_36, q_191_37, q_191_38, q_191_39, q_191_42, q_191_43, q_191_46, q_191_48, q_191_49, q_191_50, q_191_53, q_191_55, q_191_56, q_191_57, q_191_60, q_191_63, og_11_7, or_11_7, ow_11_7, og_11_8, or_11_8, ow_11_8, og_11_64, or_11_64, ow_11_64, og_11_23, op_11_23, o_is, o_ob, ofs_len11, ↓reduceIte, k_cr, k_ci, k_oR, k_oN, k_aR, k_aN, and_true, true_and, and_self, eq_self, Nat.reduceLT, Nat.reduceLeDiff, Nat.reduceEqDiff, Nat.reduceAdd, Nat.reduceMul, Bool.true_eq_false, Bool.false_eq_true, Nat.add_sub_cancel, Nat.not_lt_zero, Nat.zero_le, k_sub, k_sb1, k_r, k_n, k_ret, k_t1, k_t0, k_nr, k_nn, k_z0, k_z1, k_zb, x_okI, lit_nI, k_in, k_cl, k_lt, k_le, k_eq, k_neg, nI_add, nI_mul, k_clt, k_cgt, k_cle, k_cge, k_ceq, bI_0, k_sh8, ne_eq, Nat.add_eq_zero_iff, Nat.one_ne_zero, Nat.succ_ne_zero, and_false, false_and, not_false_eq_true, not_true_eq_false, ite_true, ite_false, if_true, if_false, h7, hle, c]
      exact ih
abbrev dP : Type := Option ((Int64 × Nat) × (Int64 × Nat))
def d1 : dP → Int32
  | none => -nI 1
  | some f => nI f.1.2
def d2 : dP → Int32
  | none => -nI 1
  | some f => nI f.2.2
def dOK (S : gS) (n : Nat) : dP → Prop
  | none => True
  | some f => f.1.1 = sL S 8 f.1.2 ∧ 120 ≤ f.1.2 ∧ f.1.2 < 120 + n ∧ 120 ≤ f.2.2 ∧ f.2.2 < 120 + n
theorem ao_loop (d : Nat) (h : xH) (M : Nat) (S : gS) (n : Nat) {number : Int32} (h7 : sA S 7 2 = nI n) (hn : n ≤ 60) : ∀ (k a : Nat) (st : dP) (l5 : Nat × Value), a + k = 120 + n → 120 ≤ a → dOK S n st → dOK S n (rdp (kyL (sL S 8) k a) st) ∧ ∃ m4 m5, xrun d 191 8 [(1, .ref M), (1, .int number), (1, .int (d1 st)), (1, .int (d2 st)), (1, .int (nI a)), l5] [] (oh 11 h M S) = xrun d 191 117 [(1, .ref M), (1, .int number), (1, .int (d1 (rdp (kyL (sL S 8) k a) st))), (1, .int (d2 (rdp (kyL (sL S 8) k a) st))), (1, .int m4), m5] [] (oh 11 h M S)
  | 0, a, st, l5, ha, ha2, hst => by
    have hle : 120 + n ≤ a := by omega
    refine ⟨hst, nI a, l5, ?_⟩
    show xrun d 191 8 _ _ _ = xrun d 191 117 [(1, Value.ref M), (1, Value.int number), (1, .int (d1 st)), (1, .int (d2 st)), (1, .int (nI a)), l5] [] (oh 11 h M S)
    generalize d1 st = x1
    generalize d2 st = x2
    rw [q_191_8]
    simp (disch := omega) only [q_191_0, q_191_1, q_191_2, q_191_3, q_191_4, q_191_6, q_191_10, q_191_12, q_191_13, q_191_16, q_191_17, q_191_18, q_191_19, q_191_22, q_191_24, q_191_25, q_191_26, og_11_7, or_11_7, ow_11_7, og_11_8, or_11_8, ow_11_8, og_11_64, or_11_64, ow_11_64, og_11_23, op_11_23, o_is, o_ob, ofs_len11, ↓reduceIte, k_cr, k_ci, k_oR, k_oN, k_aR, k_aN, and_true, true_and, and_self, eq_self, Nat.reduceLT, Nat.reduceLeDiff, Nat.reduceEqDiff, Nat.reduceAdd, Nat.reduceMul, Bool.true_eq_false, Bool.false_eq_true, Nat.add_sub_cancel, Nat.not_lt_zero, Nat.zero_le, k_sub, k_sb1, k_r, k_n, k_ret, k_t1, k_t0, k_nr, k_nn, k_z0, k_z1, k_zb, x_okI, lit_nI, k_in, k_cl, k_lt, k_le, k_eq, k_neg, nI_add, nI_mul, k_clt, k_cgt, k_cle, k_cge, k_ceq, bI_0, k_sh8, ne_eq, Nat.add_eq_zero_iff, Nat.one_ne_zero, Nat.succ_ne_zero, and_false, false_and, not_false_eq_true, not_true_eq_false, ite_true, ite_false, if_true, if_false, h7, hle]
  | k + 1, a, st, l5, ha, ha2, hst => by
    have hle : ¬ 120 + n ≤ a := by omega
    have hin := ao_in d h M S n a (number := number) (l2 := d1 st) (l3 := d2 st) h7 hn ⟨ha2, by omega⟩ k (a + 1) (by omega) (by omega)
    rw [show kyL (sL S 8) (k + 1) a = (sL S 8 a, a) :: kyL (sL S 8) k (a + 1) from rfl, show rdp ((sL S 8 a, a) :: kyL (sL S 8) k (a + 1)) st = rdp (kyL (sL S 8) k (a + 1)) (rdQ (sL S 8 a, a) ((kyL (sL S 8) k (a + 1)).find? (fun y => decide (y.1 = sL S 8 a))) st) from rfl]
    have st1 : xrun d 191 8 [(1, .ref M), (1, .int number), (1, .int (d1 st)), (1, .int (d2 st)), (1, .int (nI a)), l5] [] (oh 11 h M S) = xrun d 191 66 [(1, .ref M), (1, .int number), (1, .int (d1 st)), (1, .int (d2 st)), (1, .int (nI a)), (1, .int (nI (bOf (120 + n) ((kyL (sL S 8) k (a + 1)).find? (fun y => decide (y.1 = sL S 8 a))))))] [] (oh 11 h M S) := by
      rw [← hin]
      generalize d1 st = x1
      generalize d2 st = x2
      rw [q_191_8]
      simp (disch := omega) only [q_191_10, q_191_12, q_191_13, q_191_16, q_191_17, q_191_18, q_191_19, q_191_22, q_191_24, q_191_25, q_191_26, og_11_7, or_11_7, o_is, ↓reduceIte, k_cr, k_ci, k_oR, k_oN, k_aR, k_aN, and_true, true_and, and_self, eq_self, Nat.reduceLT, Nat.reduceLeDiff, Nat.reduceEqDiff, Nat.reduceAdd, Nat.reduceMul, Bool.true_eq_false, Bool.false_eq_true, Nat.add_sub_cancel, Nat.not_lt_zero, Nat.zero_le, k_sub, k_sb1, k_r, k_n, k_ret, k_t1, k_t0, k_nr, k_nn, k_z0, k_z1, k_zb, x_okI, lit_nI, k_in, k_cl, k_lt, k_le, k_eq, k_neg, nI_add, nI_mul, k_clt, k_cgt, k_cle, k_cge, k_ceq, bI_0, k_sh8, ne_eq, Nat.add_eq_zero_iff, Nat.one_ne_zero, Nat.succ_ne_zero, and_false, false_and, not_false_eq_true, not_true_eq_false, ite_true, ite_false, if_true, if_false, h7, hle]
    cases hf : (kyL (sL S 8) k (a + 1)).find? (fun y => decide (y.1 = sL S 8 a)) with
    | none =>
      rw [hf] at st1
      have st1 : _ = xrun d 191 66 [(1, Value.ref M), (1, Value.int number), (1, .int (d1 st)), (1, .int (d2 st)), (1, .int (nI a)), (1, .int (nI (120 + n)))] [] (oh 11 h M S) := st1
      obtain ⟨i1, m4, m5, i2⟩ := ao_loop d h M S n (number := number) h7 hn k (a + 1) st (1, .int (nI (120 + n))) (by omega) (by omega) hst
      refine ⟨i1, m4, m5, ?_⟩
      show _ = xrun d 191 117 [(1, Value.ref M), (1, Value.int number), (1, .int (d1 (rdp (kyL (sL S 8) k (a + 1)) st))), (1, .int (d2 (rdp (kyL (sL S 8) k (a + 1)) st))), (1, .int m4), m5] [] (oh 11 h M S)
      rw [st1, ← i2]
      generalize d1 st = x1
      generalize d2 st = x2
      simp (disch := omega) only [q_191_66, q_191_68, q_191_70, q_191_71, q_191_74, q_191_75, q_191_76, q_191_77, q_191_111, q_191_114, og_11_7, or_11_7, o_is, ↓reduceIte, k_cr, k_ci, k_oR, k_oN, k_aR, k_aN, and_true, true_and, and_self, eq_self, Nat.reduceLT, Nat.reduceLeDiff, Nat.reduceEqDiff, Nat.reduceAdd, Nat.reduceMul, Bool.true_eq_false, Bool.false_eq_true, Nat.add_sub_cancel, Nat.not_lt_zero, Nat.zero_le, k_sub, k_sb1, k_r, k_n, k_ret, k_t1, k_t0, k_nr, k_nn, k_z0, k_z1, k_zb, x_okI, lit_nI, k_in, k_cl, k_lt, k_le, k_eq, k_neg, nI_add, nI_mul, k_clt, k_cgt, k_cle, k_cge, k_ceq, bI_0, k_sh8, ne_eq, Nat.add_eq_zero_iff, Nat.one_ne_zero, Nat.succ_ne_zero, and_false, false_and, not_false_eq_true, not_true_eq_false, ite_true, ite_false, if_true, if_false, h7]
    | some y =>
      obtain ⟨y1, y2, y3⟩ := kyL_find (sL S 8) (sL S 8 a) k (a + 1) y hf
      rw [hf] at st1
      have st1 : _ = xrun d 191 66 [(1, Value.ref M), (1, Value.int number), (1, .int (d1 st)), (1, .int (d2 st)), (1, .int (nI a)), (1, .int (nI y.2))] [] (oh 11 h M S) := st1
      have ny : ¬ y.2 = 120 + n := by omega
      cases st with
      | none =>
        obtain ⟨i1, m4, m5, i2⟩ := ao_loop d h M S n (number := number) h7 hn k (a + 1) (some ((sL S 8 a, a), y)) (1, .int (nI y.2)) (by omega) (by omega) ⟨rfl, ha2, by show a < 120 + n; omega, by show 120 ≤ y.2; omega, by show y.2 < 120 + n; omega⟩
        refine ⟨i1, m4, m5, ?_⟩
        show _ = xrun d 191 117 [(1, Value.ref M), (1, Value.int number), (1, .int (d1 (rdp (kyL (sL S 8) k (a + 1)) (some ((sL S 8 a, a), y))))), (1, .int (d2 (rdp (kyL (sL S 8) k (a + 1)) (some ((sL S 8 a, a), y))))), (1, .int m4), m5] [] (oh 11 h M S)
        rw [st1, ← i2]
        show xrun d 191 66 [(1, .ref M), (1, .int number), (1, .int (-nI 1)), (1, .int (-nI 1)), (1, .int (nI a)), (1, .int (nI y.2))] [] (oh 11 h M S) = xrun d 191 8 [(1, .ref M), (1, .int number), (1, .int (nI a)), (1, .int (nI y.2)), (1, .int (nI (a + 1))), (1, .int (nI y.2))] [] (oh 11 h M S)
        generalize y.2 = yb at *
        simp (disch := omega) only [q_191_66, q_191_68, q_191_70, q_191_71, q_191_74, q_191_75, q_191_76, q_191_77, q_191_80, q_191_81, q_191_82, q_191_105, q_191_107, q_191_108, q_191_110, q_191_111, q_191_114, og_11_7, or_11_7, o_is, ↓reduceIte, k_cr, k_ci, k_oR, k_oN, k_aR, k_aN, and_true, true_and, and_self, eq_self, Nat.reduceLT, Nat.reduceLeDiff, Nat.reduceEqDiff, Nat.reduceAdd, Nat.reduceMul, Bool.true_eq_false, Bool.false_eq_true, Nat.add_sub_cancel, Nat.not_lt_zero, Nat.zero_le, k_sub, k_sb1, k_r, k_n, k_ret, k_t1, k_t0, k_nr, k_nn, k_z0, k_z1, k_zb, x_okI, lit_nI, k_in, k_cl, k_lt, k_le, k_eq, k_neg, nI_add, nI_mul, k_clt, k_cgt, k_cle, k_cge, k_ceq, bI_0, k_sh8, ne_eq, Nat.add_eq_zero_iff, Nat.one_ne_zero, Nat.succ_ne_zero, and_false, false_and, not_false_eq_true, not_true_eq_false, ite_true, ite_false, if_true, if_false, h7, ny]
      | some fs =>
        obtain ⟨p1, p2, p3, p4, p5⟩ := hst
        have nf : ¬ nI fs.1.2 = -nI 1 := by
          rw [k_neg (by omega)]
          exact fun q => q
        by_cases c : fs.1.1 ≤ sL S 8 a
        · have e1 : rdQ (sL S 8 a, a) (some y) (some fs) = some fs := if_pos c
          rw [e1]
          obtain ⟨i1, m4, m5, i2⟩ := ao_loop d h M S n (number := number) h7 hn k (a + 1) (some fs) (1, .int (nI y.2)) (by omega) (by omega) ⟨p1, p2, p3, p4, p5⟩
          refine ⟨i1, m4, m5, ?_⟩
          rw [st1, ← i2]
          rw [p1] at c
          have c2 : ¬ sL S 8 a < sL S 8 fs.1.2 := Int64.not_lt.mpr c
          show xrun d 191 66 [(1, .ref M), (1, .int number), (1, .int (nI fs.1.2)), (1, .int (nI fs.2.2)), (1, .int (nI a)), (1, .int (nI y.2))] [] (oh 11 h M S) = xrun d 191 8 [(1, .ref M), (1, .int number), (1, .int (nI fs.1.2)), (1, .int (nI fs.2.2)), (1, .int (nI (a + 1))), (1, .int (nI y.2))] [] (oh 11 h M S)
          generalize y.2 = yb at *
          generalize fs.1.2 = fa at *
          generalize fs.2.2 = fb at *
          simp (disch := omega) only [q_191_66, q_191_68, q_191_70, q_191_71, q_191_74, q_191_75, q_191_76, q_191_77, q_191_80, q_191_81, q_191_82, q_191_85, q_191_86, q_191_89, q_191_91, q_191_92, q_191_93, q_191_96, q_191_97, q_191_98, q_191_99, q_191_102, q_191_105, q_191_107, q_191_108, q_191_110, q_191_111, q_191_114, og_11_7, or_11_7, og_11_8, or_11_8, o_is, ↓reduceIte, k_cr, k_ci, k_oR, k_oN, k_aR, k_aN, and_true, true_and, and_self, eq_self, Nat.reduceLT, Nat.reduceLeDiff, Nat.reduceEqDiff, Nat.reduceAdd, Nat.reduceMul, Bool.true_eq_false, Bool.false_eq_true, Nat.add_sub_cancel, Nat.not_lt_zero, Nat.zero_le, k_sub, k_sb1, k_r, k_n, k_ret, k_t1, k_t0, k_nr, k_nn, k_z0, k_z1, k_zb, x_okI, lit_nI, k_in, k_cl, k_lt, k_le, k_eq, k_neg, nI_add, nI_mul, k_clt, k_cgt, k_cle, k_cge, k_ceq, bI_0, k_sh8, ne_eq, Nat.add_eq_zero_iff, Nat.one_ne_zero, Nat.succ_ne_zero, and_false, false_and, not_false_eq_true, not_true_eq_false, ite_true, ite_false, if_true, if_false, h7, ny, nf, c2]
        · have e1 : rdQ (sL S 8 a, a) (some y) (some fs) = some ((sL S 8 a, a), y) := if_neg c
          rw [e1]
          obtain ⟨i1, m4, m5, i2⟩ := ao_loop d h M S n (number := number) h7 hn k (a + 1) (some ((sL S 8 a, a), y)) (1, .int (nI y.2)) (by omega) (by omega) ⟨rfl, ha2, by show a < 120 + n; omega, by show 120 ≤ y.2; omega, by show y.2 < 120 + n; omega⟩
          refine ⟨i1, m4, m5, ?_⟩
          rw [st1, ← i2]
          rw [p1] at c
          have c2 : sL S 8 a < sL S 8 fs.1.2 := Int64.not_le.mp c
          show xrun d 191 66 [(1, .ref M), (1, .int number), (1, .int (nI fs.1.2)), (1, .int (nI fs.2.2)), (1, .int (nI a)), (1, .int (nI y.2))] [] (oh 11 h M S) = xrun d 191 8 [(1, .ref M), (1, .int number), (1, .int (nI a)), (1, .int (nI y.2)), (1, .int (nI (a + 1))), (1, .int (nI y.2))] [] (oh 11 h M S)
          generalize y.2 = yb at *
          generalize fs.1.2 = fa at *
          generalize fs.2.2 = fb at *
          simp (disch := omega) only [q_191_66, q_191_68, q_191_70, q_191_71, q_191_74, q_191_75, q_191_76, q_191_77, q_191_80, q_191_81, q_191_82, q_191_85, q_191_86, q_191_89, q_191_91, q_191_92, q_191_93, q_191_96, q_191_97, q_191_98, q_191_99, q_191_102, q_191_105, q_191_107, q_191_108, q_191_110, q_191_111, q_191_114, og_11_7, or_11_7, og_11_8, or_11_8, o_is, ↓reduceIte, k_cr, k_ci, k_oR, k_oN, k_aR, k_aN, and_true, true_and, and_self, eq_self, Nat.reduceLT, Nat.reduceLeDiff, Nat.reduceEqDiff, Nat.reduceAdd, Nat.reduceMul, Bool.true_eq_false, Bool.false_eq_true, Nat.add_sub_cancel, Nat.not_lt_zero, Nat.zero_le, k_sub, k_sb1, k_r, k_n, k_ret, k_t1, k_t0, k_nr, k_nn, k_z0, k_z1, k_zb, x_okI, lit_nI, k_in, k_cl, k_lt, k_le, k_eq, k_neg, nI_add, nI_mul, k_clt, k_cgt, k_cle, k_cge, k_ceq, bI_0, k_sh8, ne_eq, Nat.add_eq_zero_iff, Nat.one_ne_zero, Nat.succ_ne_zero, and_false, false_and, not_false_eq_true, not_true_eq_false, ite_true, ite_false, if_true, if_false, h7, ny, nf, c2]
/-- the state behind areAllOther -/
def aoS (S : gS) (number : Int32) (fm : Nat → Nat) : dP → gS
  | none => S
  | some f => uJ (rfS S 3 (-nI 1) (-nI 1) number (sL S 8 (fm f.1.2))) 23 (sL S 8 (fm f.2.2))
def aoB : dP → Bool
  | none => true
  | some _ => false
theorem m_areAllOther (d : Nat) (h : xH) (M : Nat) (S : gS) (n : Nat) {number : Int32} {fm : Nat → Nat} (h7 : sA S 7 2 = nI n) (hn : n ≤ 60) (hfm : ∀ i, 120 ≤ i → i < 120 + n → sA S 64 i = nI (fm i) ∧ fm i < 180) : xm (d + 2) 191 [.ref M, .int number] (oh 11 h M S) = some (some (.int (bI (aoB (rdp (kyL (sL S 8) n 120) none)))), oh 11 h M (aoS S number fm (rdp (kyL (sL S 8) n 120) none))) := by
  obtain ⟨i1, m4, m5, i2⟩ := ao_loop (d + 1) h M S n (number := number) h7 hn n 120 none (0, .null) (by omega) (by omega) trivial
  rw [E_191 _ _ _ _ rfl]
  have i2 : xrun (d + 1) 191 8 [(1, .ref M), (1, .int number), (1, .int (-nI 1)), (1, .int (-nI 1)), (1, .int (nI 120)), (0, .null)] [] (oh 11 h M S) = _ := i2
  have st : xrun (d + 1) 191 0 [(1, .ref M), (1, .int number), (0, .null), (0, .null), (0, .null), (0, .null)] [] (oh 11 h M S) = xrun (d + 1) 191 8 [(1, .ref M), (1, .int number), (1, .int (-nI 1)), (1, .int (-nI 1)), (1, .int (nI 120)), (0, .null)] [] (oh 11 h M S) := by
    simp (disch := omega) only [q_191_0, q_191_1, q_191_2, q_191_3, q_191_4, q_191_6, o_is, ↓reduceIte, k_cr, k_ci, k_oR, k_oN, k_aR, k_aN, and_true, true_and, and_self, eq_self, Nat.reduceLT, Nat.reduceLeDiff, Nat.reduceEqDiff, Nat.reduceAdd, Nat.reduceMul, Bool.true_eq_false, Bool.false_eq_true, Nat.add_sub_cancel, Nat.not_lt_zero, Nat.zero_le, k_sub, k_sb1, k_r, k_n, k_ret, k_t1, k_t0, k_nr, k_nn, k_z0, k_z1, k_zb, x_okI, lit_nI, k_in, k_cl, k_lt, k_le, k_eq, k_neg, nI_add, nI_mul, k_clt, k_cgt, k_cle, k_cge, k_ceq, bI_0, k_sh8, ne_eq, Nat.add_eq_zero_iff, Nat.one_ne_zero, Nat.succ_ne_zero, and_false, false_and, not_false_eq_true, not_true_eq_false, ite_true, ite_false, if_true, if_false]
  rw [st, i2]
  cases hr : rdp (kyL (sL S 8) n 120) none with
  | none =>
    show xrun (d + 1) 191 117 [(1, .ref M), (1, .int number), (1, .int (-nI 1)), (1, .int (-nI 1)), (1, .int m4), m5] [] (oh 11 h M S) = some (some (.int (nI 1)), oh 11 h M S)
    simp (disch := omega) only [q_191_117, q_191_118, q_191_119, q_191_122, q_191_123, q_191_124, q_191_125, q_191_126, q_191_127, q_191_130, q_191_131, q_191_132, q_191_133, q_191_134, q_191_137, q_191_138, q_191_139, q_191_140, q_191_143, q_191_144, q_191_147, q_191_148, q_191_149, q_191_150, q_191_153, q_191_154, og_11_7, or_11_7, ow_11_7, og_11_8, or_11_8, ow_11_8, og_11_64, or_11_64, ow_11_64, og_11_23, op_11_23, o_is, o_ob, ofs_len11, ↓reduceIte, k_cr, k_ci, k_oR, k_oN, k_aR, k_aN, and_true, true_and, and_self, eq_self, Nat.reduceLT, Nat.reduceLeDiff, Nat.reduceEqDiff, Nat.reduceAdd, Nat.reduceMul, Bool.true_eq_false, Bool.false_eq_true, Nat.add_sub_cancel, Nat.not_lt_zero, Nat.zero_le, k_sub, k_sb1, k_r, k_n, k_ret, k_t1, k_t0, k_nr, k_nn, k_z0, k_z1, k_zb, x_okI, lit_nI, k_in, k_cl, k_lt, k_le, k_eq, k_neg, nI_add, nI_mul, k_clt, k_cgt, k_cle, k_cge, k_ceq, bI_0, k_sh8, ne_eq, Nat.add_eq_zero_iff, Nat.one_ne_zero, Nat.succ_ne_zero, and_false, false_and, not_false_eq_true, not_true_eq_false, ite_true, ite_false, if_true, if_false]
  | some f =>
    rw [hr] at i1
    obtain ⟨p1, p2, p3, p4, p5⟩ := i1
    obtain ⟨a1, a2⟩ := hfm f.1.2 p2 p3
    obtain ⟨b1, b2⟩ := hfm f.2.2 p4 p5
    have nf : ¬ nI f.1.2 = -nI 1 := by
      rw [k_neg (by omega)]
      exact fun q => q
    have eR := m_refuse d h M S (why := 3) (mb := -nI 1) (st := number) (by omega) a2
    rw [if_pos rfl] at eR
    show xrun (d + 1) 191 117 [(1, .ref M), (1, .int number), (1, .int (nI f.1.2)), (1, .int (nI f.2.2)), (1, .int m4), m5] [] (oh 11 h M S) = some (some (.int (nI 0)), oh 11 h M (uJ (rfS S 3 (-nI 1) (-nI 1) number (sL S 8 (fm f.1.2))) 23 (sL S 8 (fm f.2.2))))
    have g64 : sA (rfS S 3 (-nI 1) (-nI 1) number (sL S 8 (fm f.1.2))) 64 f.2.2 = nI (fm f.2.2) := b1
    have g8 : sL (rfS S 3 (-nI 1) (-nI 1) number (sL S 8 (fm f.1.2))) 8 (fm f.2.2) = sL S 8 (fm f.2.2) := rfl
    generalize f.1.2 = fa at *
    generalize f.2.2 = fb at *
    simp (disch := omega) only [q_191_117, q_191_118, q_191_119, q_191_122, q_191_123, q_191_124, q_191_125, q_191_126, q_191_127, q_191_130, q_191_131, q_191_132, q_191_133, q_191_134, q_191_137, q_191_138, q_191_139, q_191_140, q_191_143, q_191_144, q_191_147, q_191_148, q_191_149, q_191_150, q_191_153, q_191_154, og_11_7, or_11_7, ow_11_7, og_11_8, or_11_8, ow_11_8, og_11_64, or_11_64, ow_11_64, og_11_23, op_11_23, o_is, o_ob, ofs_len11, ↓reduceIte, k_cr, k_ci, k_oR, k_oN, k_aR, k_aN, and_true, true_and, and_self, eq_self, Nat.reduceLT, Nat.reduceLeDiff, Nat.reduceEqDiff, Nat.reduceAdd, Nat.reduceMul, Bool.true_eq_false, Bool.false_eq_true, Nat.add_sub_cancel, Nat.not_lt_zero, Nat.zero_le, k_sub, k_sb1, k_r, k_n, k_ret, k_t1, k_t0, k_nr, k_nn, k_z0, k_z1, k_zb, x_okI, lit_nI, k_in, k_cl, k_lt, k_le, k_eq, k_neg, nI_add, nI_mul, k_clt, k_cgt, k_cle, k_cge, k_ceq, bI_0, k_sh8, ne_eq, Nat.add_eq_zero_iff, Nat.one_ne_zero, Nat.succ_ne_zero, and_false, false_and, not_false_eq_true, not_true_eq_false, ite_true, ite_false, if_true, if_false, x_okJ, nf, a1, eR, g64, g8]
/-! VALUES as a row. -/
abbrev rvT : Type := Int64 × Int32 × (Nat → Int32) × (Nat → Int64)
def rvS (S : gS) (v : Nat) : rvT := (sL S 8 v, sA S 9 v, fun i => if i < 8 then sA S 10 (8 * v + i) else nI 0, fun i => if i < 64 then sL S 11 (64 * v + i) else 0)
def vlP (k : Nat) : Bool := decide (k = 8) || decide (k = 9) || decide (k = 10) || decide (k = 11)
theorem cpV_fr (S : gS) (v t : Nat) : fr vlP S (cpV S v t 64) := by
  intro k hk
  unfold vlP at hk
  simp only [Bool.or_eq_false_iff, decide_eq_false_iff_not] at hk
  refine ⟨rfl, rfl, ?_, ?_, rfl, rfl⟩
  · funext q
    unfold cpV cpA
    rw [sA_rL, sA_rA, if_neg hk.1.2, sA_uA, if_neg (fun z => hk.1.1.2 z.1)]
    rfl
  · funext q
    unfold cpV cpA
    rw [sL_rL, if_neg hk.2, sL_rA]
    show sL (uL S 8 t (sL S 8 v)) k q = _
    rw [sL_uL, if_neg (fun z => hk.1.1.1 z.1)]
theorem cpV_rv (S : gS) {v t : Nat} (hne : v ≠ t) (q : Nat) : rvS (cpV S v t 64) q = if q = t then rvS S v else rvS S q := by
  have e8 : sL (cpV S v t 64) 8 q = if q = t then sL S 8 v else sL S 8 q := by
    unfold cpV cpA
    rw [sL_rL, if_neg (by decide), sL_rA]
    show sL (uL S 8 t (sL S 8 v)) 8 q = _
    rw [sL_uL]
    by_cases c : q = t
    · rw [if_pos ⟨rfl, c⟩, if_pos c]
    · rw [if_neg (fun z => c z.2), if_neg c]
  have e9 : sA (cpV S v t 64) 9 q = if q = t then sA S 9 v else sA S 9 q := by
    unfold cpV cpA
    rw [sA_rL, sA_rA, if_neg (by decide), sA_uA]
    by_cases c : q = t
    · rw [if_pos ⟨rfl, c⟩, if_pos c]
    · rw [if_neg (fun z => c z.2), if_neg c]
      rfl
  have e10 : ∀ i, sA (cpV S v t 64) 10 i = fillF (sA S 10) (fun i => sA S 10 (8 * v + i)) (8 * t) 8 i := by
    intro i
    unfold cpV cpA
    rw [sA_rL, sA_rA, if_pos rfl]
  have e11 : ∀ i, sL (cpV S v t 64) 11 i = fillF (sL S 11) (fun i => sL S 11 (64 * v + i)) (64 * t) 64 i := by
    intro i
    unfold cpV
    rw [sL_rL, if_pos rfl]
  unfold rvS
  rw [e8, e9]
  by_cases c : q = t
  · subst c
    rw [if_pos rfl, if_pos rfl, if_pos rfl]
    congr 3
    · funext i
      by_cases hi : i < 8
      · rw [if_pos hi, if_pos hi, e10, fillF_in _ _ hi]
      · rw [if_neg hi, if_neg hi]
    · funext i
      by_cases hi : i < 64
      · rw [if_pos hi, if_pos hi, e11, fillF_in _ _ hi]
      · rw [if_neg hi, if_neg hi]
  · rw [if_neg c, if_neg c, if_neg c]
    congr 3
    · funext i
      by_cases hi : i < 8
      · rw [if_pos hi, if_pos hi, e10, fillF_out _ _ (by omega)]
      · rw [if_neg hi, if_neg hi]
    · funext i
      by_cases hi : i < 64
      · rw [if_pos hi, if_pos hi, e11, fillF_out _ _ (by omega)]
      · rw [if_neg hi, if_neg hi]
def rvL (S : gS) (o n : Nat) : List rvT := (List.range n).map (fun i => rvS S (o + i))
theorem rvL_len (S : gS) (o n : Nat) : (rvL S o n).length = n := by
  unfold rvL
  rw [List.length_map, List.length_range]
theorem rvL_get (S : gS) (o n i : Nat) : (rvL S o n)[i]? = if i < n then some (rvS S (o + i)) else none := by
  unfold rvL
  rw [List.getElem?_map]
  by_cases h : i < n
  · rw [if_pos h, List.getElem?_range h]
    rfl
  · rw [if_neg h, List.getElem?_eq_none (by rw [List.length_range]; omega)]
    rfl
theorem insF_ex {f g : Nat → Int64} {w : Int64} : ∀ (n : Nat), (∀ i, i < n → f i = g i) → insF f w n = insF g w n
  | 0, h => rfl
  | n + 1, h => by
    rw [insF_s, insF_s, h n (by omega), insF_ex n (fun i hi => h i (by omega))]
theorem ps_loop (d : Nat) (h : xH) (M : Nat) (S0 : gS) (v n : Nat) (hv : 120 ≤ v ∧ v < 180) (hn : n < 60) : ∀ (p : Nat) (S : gS), p ≤ n → fr vlP S0 S → (∀ q, rvS S q = if 60 + p < q ∧ q ≤ 60 + n then rvS S0 (q - 1) else rvS S0 q) → ∃ S', fr vlP S0 S' ∧ (∀ q, rvS S' q = if 60 + insF (fun i => sL S0 8 (60 + i)) (sL S0 8 v) p < q ∧ q ≤ 60 + n then rvS S0 (q - 1) else rvS S0 q) ∧ xrun (d + 1) 192 10 [(1, .ref M), (1, .int (nI v)), (1, .int (nI (60 + p)))] [] (oh 11 h M S) = xrun (d + 1) 192 48 [(1, .ref M), (1, .int (nI v)), (1, .int (nI (60 + insF (fun i => sL S0 8 (60 + i)) (sL S0 8 v) p)))] [] (oh 11 h M S')
  | 0, S, hp, hf, hr => by
    refine ⟨S, hf, hr, ?_⟩
    show _ = xrun (d + 1) 192 48 [(1, .ref M), (1, .int (nI v)), (1, .int (nI (60 + 0)))] [] (oh 11 h M S)
    rw [q_192_10]
    simp (disch := omega) only [q_192_11, q_192_13, o_is, ↓reduceIte, k_cr, k_ci, k_oR, k_oN, k_aR, k_aN, and_true, true_and, and_self, eq_self, Nat.reduceLT, Nat.reduceLeDiff, Nat.reduceEqDiff, Nat.reduceAdd, Nat.reduceMul, Bool.true_eq_false, Bool.false_eq_true, Nat.add_sub_cancel, Nat.not_lt_zero, Nat.zero_le, k_sub, k_sb1, k_r, k_n, k_ret, k_t1, k_t0, k_nr, k_nn, k_z0, k_z1, k_zb, x_okI, lit_nI, k_in, k_cl, k_lt, k_le, k_eq, k_neg, nI_add, nI_mul, k_clt, k_cgt, k_cle, k_cge, k_ceq, bI_0, k_sh8, ne_eq, Nat.add_eq_zero_iff, Nat.one_ne_zero, Nat.succ_ne_zero, and_false, false_and, not_false_eq_true, not_true_eq_false, ite_true, ite_false, if_true, if_false, Nat.add_zero, Nat.le_refl]
  | p + 1, S, hp, hf, hr => by
    have k1 : sL S 8 (60 + p) = sL S0 8 (60 + p) := by
      have := congrArg Prod.fst (hr (60 + p))
      rw [if_neg (by omega)] at this
      exact this
    have kv : sL S 8 v = sL S0 8 v := by
      have := congrArg Prod.fst (hr v)
      rw [if_neg (by omega)] at this
      exact this
    have nle : ¬ 60 + (p + 1) ≤ 60 := by omega
    have hsub : 60 + (p + 1) - 1 = 60 + p := by omega
    rw [insF_s]
    by_cases c : sL S0 8 v < sL S0 8 (60 + p)
    · have c2 : ¬ sL S0 8 (60 + p) ≤ sL S0 8 v := Int64.not_le.mpr c
      rw [if_pos c]
      have eC := m_copy d h M S (60 + p) (60 + (p + 1)) (by omega) (by omega) (by omega)
      obtain ⟨S', i1, i2, i3⟩ := ps_loop d h M S0 v n hv hn p (cpV S (60 + p) (60 + (p + 1)) 64) (by omega) (hf.trans (cpV_fr _ _ _)) (fun q => by
        rw [cpV_rv S (by omega) q]
        by_cases e1 : q = 60 + (p + 1)
        · rw [if_pos e1, if_pos (by omega), hr (60 + p), if_neg (by omega), e1]
          rfl
        · rw [if_neg e1, hr q]
          by_cases e2 : 60 + (p + 1) < q ∧ q ≤ 60 + n
          · rw [if_pos e2, if_pos (by omega)]
          · rw [if_neg e2, if_neg (by omega)])
      refine ⟨S', i1, i2, ?_⟩
      rw [← i3, q_192_10]
      simp (disch := omega) only [q_192_11, q_192_13, q_192_16, q_192_17, q_192_20, q_192_21, q_192_22, q_192_23, q_192_24, q_192_25, q_192_28, q_192_29, q_192_30, q_192_31, q_192_34, q_192_35, q_192_36, q_192_37, q_192_38, q_192_39, q_192_42, q_192_45, og_11_8, or_11_8, o_is, ↓reduceIte, k_cr, k_ci, k_oR, k_oN, k_aR, k_aN, and_true, true_and, and_self, eq_self, Nat.reduceLT, Nat.reduceLeDiff, Nat.reduceEqDiff, Nat.reduceAdd, Nat.reduceMul, Bool.true_eq_false, Bool.false_eq_true, Nat.add_sub_cancel, Nat.not_lt_zero, Nat.zero_le, k_sub, k_sb1, k_r, k_n, k_ret, k_t1, k_t0, k_nr, k_nn, k_z0, k_z1, k_zb, x_okI, lit_nI, k_in, k_cl, k_lt, k_le, k_eq, k_neg, nI_add, nI_mul, k_clt, k_cgt, k_cle, k_cge, k_ceq, bI_0, k_sh8, ne_eq, Nat.add_eq_zero_iff, Nat.one_ne_zero, Nat.succ_ne_zero, and_false, false_and, not_false_eq_true, not_true_eq_false, ite_true, ite_false, if_true, if_false, nle, hsub, k1, kv, c2, eC, k_an]
    · have c2 : sL S0 8 (60 + p) ≤ sL S0 8 v := Int64.not_lt.mp c
      rw [if_neg c]
      refine ⟨S, hf, hr, ?_⟩
      rw [q_192_10]
      simp (disch := omega) only [q_192_11, q_192_13, q_192_16, q_192_17, q_192_20, q_192_21, q_192_22, q_192_23, q_192_24, q_192_25, q_192_28, q_192_29, q_192_30, q_192_31, og_11_8, or_11_8, o_is, ↓reduceIte, k_cr, k_ci, k_oR, k_oN, k_aR, k_aN, and_true, true_and, and_self, eq_self, Nat.reduceLT, Nat.reduceLeDiff, Nat.reduceEqDiff, Nat.reduceAdd, Nat.reduceMul, Bool.true_eq_false, Bool.false_eq_true, Nat.add_sub_cancel, Nat.not_lt_zero, Nat.zero_le, k_sub, k_sb1, k_r, k_n, k_ret, k_t1, k_t0, k_nr, k_nn, k_z0, k_z1, k_zb, x_okI, lit_nI, k_in, k_cl, k_lt, k_le, k_eq, k_neg, nI_add, nI_mul, k_clt, k_cgt, k_cle, k_cge, k_ceq, bI_0, k_sh8, ne_eq, Nat.add_eq_zero_iff, Nat.one_ne_zero, Nat.succ_ne_zero, and_false, false_and, not_false_eq_true, not_true_eq_false, ite_true, ite_false, if_true, if_false, nle, hsub, k1, kv, c2]
theorem m_putSorted (d : Nat) (h : xH) (M : Nat) (S : gS) (v n : Nat) (hv : 120 ≤ v ∧ v < 180) (hn : n < 60) (h7 : sA S 7 1 = nI n) : ∃ S', xm (d + 2) 192 [.ref M, .int (nI v)] (oh 11 h M S) = some (none, oh 11 h M (uA S' 7 1 (nI (n + 1)))) ∧ fr vlP S S' ∧ rvL S' 60 (n + 1) = insL (rvS S v) (rvL S 60 n) ∧ ∀ q, (q < 60 ∨ 120 ≤ q) → rvS S' q = rvS S q := by
  obtain ⟨S1, f1, r1, e1⟩ := ps_loop d h M S v n hv hn n S (Nat.le_refl _) fr.rfl (fun q => by rw [if_neg (by omega)])
  have hip : insP (rvS S v) (rvL S 60 n) = insF (fun i => sL S 8 (60 + i)) (sL S 8 v) n := by
    unfold insP
    rw [rvL_len]
    refine insF_ex n (fun i hi => ?_)
    unfold kfL
    rw [rvL_get, if_pos hi]
    rfl
  have hle := insP_le (rvS S v) (rvL S 60 n)
  rw [rvL_len] at hle
  generalize hpp : insF (fun i => sL S 8 (60 + i)) (sL S 8 v) n = p at *
  have eC := m_copy d h M S1 v (60 + p) hv.2 (by omega) (by omega)
  refine ⟨cpV S1 v (60 + p) 64, ?_, f1.trans (cpV_fr _ _ _), ?_, fun q hq => ?_⟩
  · have eE : xm (d + 2) 192 [.ref M, .int (nI v)] (oh 11 h M S) = _ := E_192 (d + 1) (oh 11 h M S) (.ref M) (nI v) rfl
    have g7 : sA (cpV S1 v (60 + p) 64) 7 1 = nI n := by
      rw [((f1.trans (cpV_fr S1 v (60 + p))) 7 (by decide)).2.2.1]
      exact h7
    have st : xrun (d + 1) 192 0 [(1, .ref M), (1, .int (nI v)), (0, .null)] [] (oh 11 h M S) = xrun (d + 1) 192 10 [(1, .ref M), (1, .int (nI v)), (1, .int (nI (60 + n)))] [] (oh 11 h M S) := by
      simp (disch := omega) only [q_192_0, q_192_2, q_192_3, q_192_6, q_192_7, q_192_8, q_192_9, og_11_7, or_11_7, o_is, ↓reduceIte, k_cr, k_ci, k_oR, k_oN, k_aR, k_aN, and_true, true_and, and_self, eq_self, Nat.reduceLT, Nat.reduceLeDiff, Nat.reduceEqDiff, Nat.reduceAdd, Nat.reduceMul, Bool.true_eq_false, Bool.false_eq_true, Nat.add_sub_cancel, Nat.not_lt_zero, Nat.zero_le, k_sub, k_sb1, k_r, k_n, k_ret, k_t1, k_t0, k_nr, k_nn, k_z0, k_z1, k_zb, x_okI, lit_nI, k_in, k_cl, k_lt, k_le, k_eq, k_neg, nI_add, nI_mul, k_clt, k_cgt, k_cle, k_cge, k_ceq, bI_0, k_sh8, ne_eq, Nat.add_eq_zero_iff, Nat.one_ne_zero, Nat.succ_ne_zero, and_false, false_and, not_false_eq_true, not_true_eq_false, ite_true, ite_false, if_true, if_false, h7]
    rw [eE, st, e1]
    simp (disch := omega) only [q_192_48, q_192_49, q_192_50, q_192_51, q_192_54, q_192_55, q_192_58, q_192_59, q_192_60, q_192_61, q_192_62, q_192_63, q_192_64, og_11_7, or_11_7, ow_11_7, og_11_8, or_11_8, ow_11_8, o_is, o_ob, ofs_len11, ↓reduceIte, k_cr, k_ci, k_oR, k_oN, k_aR, k_aN, and_true, true_and, and_self, eq_self, Nat.reduceLT, Nat.reduceLeDiff, Nat.reduceEqDiff, Nat.reduceAdd, Nat.reduceMul, Bool.true_eq_false, Bool.false_eq_true, Nat.add_sub_cancel, Nat.not_lt_zero, Nat.zero_le, k_sub, k_sb1, k_r, k_n, k_ret, k_t1, k_t0, k_nr, k_nn, k_z0, k_z1, k_zb, x_okI, lit_nI, k_in, k_cl, k_lt, k_le, k_eq, k_neg, nI_add, nI_mul, k_clt, k_cgt, k_cle, k_cge, k_ceq, bI_0, k_sh8, ne_eq, Nat.add_eq_zero_iff, Nat.one_ne_zero, Nat.succ_ne_zero, and_false, false_and, not_false_eq_true, not_true_eq_false, ite_true, ite_false, if_true, if_false, eC, g7]
  · refine List.ext_getElem? fun i => ?_
    rw [rvL_get]
    unfold insL
    rw [hip]
    have hlen : ((rvL S 60 n).take p).length = p := by
      rw [List.length_take, rvL_len]
      omega
    by_cases c1 : i < p
    · rw [if_pos (by omega), List.getElem?_append_left (by omega), List.getElem?_take, if_pos c1, rvL_get, if_pos (by omega), cpV_rv S1 (by omega), if_neg (by omega), r1, if_neg (by omega)]
    · rw [List.getElem?_append_right (by omega), hlen]
      by_cases c2 : i = p
      · subst c2
        rw [if_pos (by omega), Nat.sub_self, List.getElem?_cons_zero, cpV_rv S1 (by omega), if_pos rfl, r1, if_neg (by omega)]
      · rw [show i - p = (i - p - 1) + 1 by omega, List.getElem?_cons_succ, List.getElem?_drop, rvL_get]
        by_cases c3 : i < n + 1
        · rw [if_pos c3, if_pos (by omega), cpV_rv S1 (by omega), if_neg (by omega), r1, if_pos (by omega), show 60 + i - 1 = 60 + (p + (i - p - 1)) by omega]
        · rw [if_neg c3, if_neg (by omega)]
  · rw [cpV_rv S1 (by omega), if_neg (by omega), r1, if_neg (by omega)]
