/-! The constructors of the class's parts. -/
def Z0 : gS := (fun _ => nI 0, fun _ => 0, fun _ _ => nI 0, fun _ _ => 0, fun _ => .null, fun _ _ => .null)
theorem c_Pieces (d : Nat) (h : xH) (a : Nat) (H : h.1 a = some (.inr (0, [.null, .null, .null, .int (nI 0), .int (nI 0)]))) (ha : h.2.2.1 = a + 1) : xm (d + 2) 2 [.ref a] h = some (none, oh 0 (grow h 3 2103) a Z0) := by
  have e : PB h a 0 [.ref (a + 1), .ref (a + 2), .ref (a + 3), .int (nI 0), .int (nI 0)] [(.inl (0, 701, fun _ => .int (nI 0)), 701), (.inl (0, 701, fun _ => .int (nI 0)), 701), (.inl (2, 701, fun _ => .long 0), 701)] = oh 0 (grow h 3 2103) a Z0 := PB_oh (by decide) ha rfl rfl rfl (by decide)
  have e0 := PB_0 H ha
  rw [← e, E_2 _ _ _ rfl]
  generalize hg : PB h a 0 [.null, .null, .null, .int (nI 0), .int (nI 0)] [] = g at e0
  have e1 : xrun (d + 1) 2 0 [(1, .ref a)] [] g = some (none, PB h a 0 [.ref (a + 1), .ref (a + 2), .ref (a + 3), .int (nI 0), .int (nI 0)] [(.inl (0, 701, fun _ => .int (nI 0)), 701), (.inl (0, 701, fun _ => .int (nI 0)), 701), (.inl (2, 701, fun _ => .long 0), 701)]) := by
    rw [← hg]
    simp (disch := omega) only [q_2_0, q_2_1, q_2_4, q_2_5, q_2_8, q_2_10, q_2_13, q_2_14, q_2_17, q_2_19, q_2_22, q_2_23, q_2_26, q_2_28, q_2_31, ↓reduceIte, k_cr, k_ci, k_oR, k_oN, k_aR, k_aN, and_true, true_and, and_self, eq_self, Nat.reduceLT, Nat.reduceLeDiff, Nat.reduceEqDiff, Nat.reduceAdd, Nat.reduceMul, Bool.true_eq_false, Bool.false_eq_true, Nat.add_sub_cancel, Nat.not_lt_zero, Nat.zero_le, k_sub, k_sb1, k_r, k_n, k_ret, k_t1, k_t0, k_nr, k_nn, k_z0, k_z1, k_zb, x_okI, lit_nI, k_in, k_cl, k_lt, k_le, k_eq, k_neg, nI_add, nI_mul, k_clt, k_cgt, k_cle, k_cge, k_ceq, bI_0, k_sh8, ne_eq, Nat.add_eq_zero_iff, Nat.one_ne_zero, Nat.succ_ne_zero, and_false, false_and, not_false_eq_true, not_true_eq_false, ite_true, ite_false, if_true, if_false, PB_mk, PB_nx, PB_ob, PB_put, List.length_cons, List.length_nil, List.set_cons_succ, List.set_cons_zero, List.nil_append, List.cons_append, Nat.add_assoc, Nat.zero_add, Nat.add_zero]
  rw [← e0] at e1
  exact e1
theorem c_Build0 (d : Nat) (h : xH) (a : Nat) (H : h.1 a = some (.inr (2, [.null, .int (nI 0)]))) (ha : h.2.2.1 = a + 1) : xm (d + 2) 4 [.ref a] h = some (none, oh 2 (grow h 1 6) a Z0) := by
  have e : PB h a 2 [.ref (a + 1), .int (nI 0)] [(.inl (7, 6, fun _ => .null), 6)] = oh 2 (grow h 1 6) a Z0 := PB_oh (by decide) ha rfl rfl rfl (by decide)
  have e0 := PB_0 H ha
  rw [← e, E_4 _ _ _ rfl]
  generalize hg : PB h a 2 [.null, .int (nI 0)] [] = g at e0
  have e1 : xrun (d + 1) 4 0 [(1, .ref a)] [] g = some (none, PB h a 2 [.ref (a + 1), .int (nI 0)] [(.inl (7, 6, fun _ => .null), 6)]) := by
    rw [← hg]
    simp (disch := omega) only [q_4_0, q_4_1, q_4_4, q_4_5, q_4_7, q_4_10, q_4_13, ↓reduceIte, k_cr, k_ci, k_oR, k_oN, k_aR, k_aN, and_true, true_and, and_self, eq_self, Nat.reduceLT, Nat.reduceLeDiff, Nat.reduceEqDiff, Nat.reduceAdd, Nat.reduceMul, Bool.true_eq_false, Bool.false_eq_true, Nat.add_sub_cancel, Nat.not_lt_zero, Nat.zero_le, k_sub, k_sb1, k_r, k_n, k_ret, k_t1, k_t0, k_nr, k_nn, k_z0, k_z1, k_zb, x_okI, lit_nI, k_in, k_cl, k_lt, k_le, k_eq, k_neg, nI_add, nI_mul, k_clt, k_cgt, k_cle, k_cge, k_ceq, bI_0, k_sh8, ne_eq, Nat.add_eq_zero_iff, Nat.one_ne_zero, Nat.succ_ne_zero, and_false, false_and, not_false_eq_true, not_true_eq_false, ite_true, ite_false, if_true, if_false, PB_mk, PB_nx, PB_ob, PB_put, List.length_cons, List.length_nil, List.set_cons_succ, List.set_cons_zero, List.nil_append, List.cons_append, Nat.add_assoc, Nat.zero_add, Nat.add_zero]
  rw [← e0] at e1
  exact e1
theorem c_Store0 (d : Nat) (h : xH) (a : Nat) (H : h.1 a = some (.inr (7, [.null, .int (nI 0), .int (nI 0)]))) (ha : h.2.2.1 = a + 1) : xm (d + 2) 8 [.ref a] h = some (none, oh 7 (grow h 1 60) a Z0) := by
  have e : PB h a 7 [.ref (a + 1), .int (nI 0), .int (nI 0)] [(.inl (9, 60, fun _ => .null), 60)] = oh 7 (grow h 1 60) a Z0 := PB_oh (by decide) ha rfl rfl rfl (by decide)
  have e0 := PB_0 H ha
  rw [← e, E_8 _ _ _ rfl]
  generalize hg : PB h a 7 [.null, .int (nI 0), .int (nI 0)] [] = g at e0
  have e1 : xrun (d + 1) 8 0 [(1, .ref a)] [] g = some (none, PB h a 7 [.ref (a + 1), .int (nI 0), .int (nI 0)] [(.inl (9, 60, fun _ => .null), 60)]) := by
    rw [← hg]
    simp (disch := omega) only [q_8_0, q_8_1, q_8_4, q_8_5, q_8_7, q_8_10, q_8_13, ↓reduceIte, k_cr, k_ci, k_oR, k_oN, k_aR, k_aN, and_true, true_and, and_self, eq_self, Nat.reduceLT, Nat.reduceLeDiff, Nat.reduceEqDiff, Nat.reduceAdd, Nat.reduceMul, Bool.true_eq_false, Bool.false_eq_true, Nat.add_sub_cancel, Nat.not_lt_zero, Nat.zero_le, k_sub, k_sb1, k_r, k_n, k_ret, k_t1, k_t0, k_nr, k_nn, k_z0, k_z1, k_zb, x_okI, lit_nI, k_in, k_cl, k_lt, k_le, k_eq, k_neg, nI_add, nI_mul, k_clt, k_cgt, k_cle, k_cge, k_ceq, bI_0, k_sh8, ne_eq, Nat.add_eq_zero_iff, Nat.one_ne_zero, Nat.succ_ne_zero, and_false, false_and, not_false_eq_true, not_true_eq_false, ite_true, ite_false, if_true, if_false, PB_mk, PB_nx, PB_ob, PB_put, List.length_cons, List.length_nil, List.set_cons_succ, List.set_cons_zero, List.nil_append, List.cons_append, Nat.add_assoc, Nat.zero_add, Nat.add_zero]
  rw [← e0] at e1
  exact e1
theorem c_Reckoner0 (d : Nat) (h : xH) (a : Nat) (H : h.1 a = some (.inr (5, [.null, .int (nI 0), .int (nI 0), .long 0]))) (ha : h.2.2.1 = a + 1) : xm (d + 2) 7 [.ref a] h = some (none, oh 5 (grow h 1 48) a Z0) := by
  have e : PB h a 5 [.ref (a + 1), .int (nI 0), .int (nI 0), .long 0] [(.inl (2, 48, fun _ => .long 0), 48)] = oh 5 (grow h 1 48) a Z0 := PB_oh (by decide) ha rfl rfl rfl (by decide)
  have e0 := PB_0 H ha
  rw [← e, E_7 _ _ _ rfl]
  generalize hg : PB h a 5 [.null, .int (nI 0), .int (nI 0), .long 0] [] = g at e0
  have e1 : xrun (d + 1) 7 0 [(1, .ref a)] [] g = some (none, PB h a 5 [.ref (a + 1), .int (nI 0), .int (nI 0), .long 0] [(.inl (2, 48, fun _ => .long 0), 48)]) := by
    rw [← hg]
    simp (disch := omega) only [q_7_0, q_7_1, q_7_4, q_7_5, q_7_7, q_7_9, q_7_12, ↓reduceIte, k_cr, k_ci, k_oR, k_oN, k_aR, k_aN, and_true, true_and, and_self, eq_self, Nat.reduceLT, Nat.reduceLeDiff, Nat.reduceEqDiff, Nat.reduceAdd, Nat.reduceMul, Bool.true_eq_false, Bool.false_eq_true, Nat.add_sub_cancel, Nat.not_lt_zero, Nat.zero_le, k_sub, k_sb1, k_r, k_n, k_ret, k_t1, k_t0, k_nr, k_nn, k_z0, k_z1, k_zb, x_okI, lit_nI, k_in, k_cl, k_lt, k_le, k_eq, k_neg, nI_add, nI_mul, k_clt, k_cgt, k_cle, k_cge, k_ceq, bI_0, k_sh8, ne_eq, Nat.add_eq_zero_iff, Nat.one_ne_zero, Nat.succ_ne_zero, and_false, false_and, not_false_eq_true, not_true_eq_false, ite_true, ite_false, if_true, if_false, PB_mk, PB_nx, PB_ob, PB_put, List.length_cons, List.length_nil, List.set_cons_succ, List.set_cons_zero, List.nil_append, List.cons_append, Nat.add_assoc, Nat.zero_add, Nat.add_zero]
  rw [← e0] at e1
  exact e1
/-- a cell that was made last -/
theorem PB_new (h : xH) (a c : Nat) (fs : List Value) (L : List (xE × Nat)) (e : xE) (n : Nat) : (PB h a c fs (L ++ [(e, n)])).1 (a + 1 + L.length) = some e ∧ (PB h a c fs (L ++ [(e, n)])).2.2.1 = a + 1 + L.length + 1 := by
  refine ⟨?_, ?_⟩
  · rw [PB_at (by rw [List.length_append, List.length_singleton]; omega), List.getElem?_append_right (Nat.le_refl _), Nat.sub_self]
    rfl
  · rw [PB_nx, List.length_append, List.length_singleton]
    omega
theorem n_Reckoner (d : Nat) (h : xH) (a c : Nat) (fs : List Value) (L : List (xE × Nat)) (n : Nat) : xm (d + 2) 7 [.ref (a + 1 + L.length)] (PB h a c fs (L ++ [(.inr (5, [.null, .int (nI 0), .int (nI 0), .long 0]), n)])) = some (none, PB h a c fs (L ++ bkL 5 (a + 1 + L.length) Z0 n 48)) := by
  obtain ⟨h1, h2⟩ := PB_new h a c fs L (.inr (5, [.null, .int (nI 0), .int (nI 0), .long 0])) n
  rw [c_Reckoner0 d _ _ h1 h2]
  exact congrArg (fun g => some (none, g)) (PB_in (ci := 5) (by decide) (by decide))
theorem n_Store (d : Nat) (h : xH) (a c : Nat) (fs : List Value) (L : List (xE × Nat)) (n : Nat) : xm (d + 2) 8 [.ref (a + 1 + L.length)] (PB h a c fs (L ++ [(.inr (7, [.null, .int (nI 0), .int (nI 0)]), n)])) = some (none, PB h a c fs (L ++ bkL 7 (a + 1 + L.length) Z0 n 60)) := by
  obtain ⟨h1, h2⟩ := PB_new h a c fs L (.inr (7, [.null, .int (nI 0), .int (nI 0)])) n
  rw [c_Store0 d _ _ h1 h2]
  exact congrArg (fun g => some (none, g)) (PB_in (ci := 7) (by decide) (by decide))
theorem n_Build (d : Nat) (h : xH) (a c : Nat) (fs : List Value) (L : List (xE × Nat)) (n : Nat) : xm (d + 2) 4 [.ref (a + 1 + L.length)] (PB h a c fs (L ++ [(.inr (2, [.null, .int (nI 0)]), n)])) = some (none, PB h a c fs (L ++ bkL 2 (a + 1 + L.length) Z0 n 6)) := by
  obtain ⟨h1, h2⟩ := PB_new h a c fs L (.inr (2, [.null, .int (nI 0)])) n
  rw [c_Build0 d _ _ h1 h2]
  exact congrArg (fun g => some (none, g)) (PB_in (ci := 2) (by decide) (by decide))
theorem n_Pieces (d : Nat) (h : xH) (a c : Nat) (fs : List Value) (L : List (xE × Nat)) (n : Nat) : xm (d + 2) 2 [.ref (a + 1 + L.length)] (PB h a c fs (L ++ [(.inr (0, [.null, .null, .null, .int (nI 0), .int (nI 0)]), n)])) = some (none, PB h a c fs (L ++ bkL 0 (a + 1 + L.length) Z0 n 2103)) := by
  obtain ⟨h1, h2⟩ := PB_new h a c fs L (.inr (0, [.null, .null, .null, .int (nI 0), .int (nI 0)])) n
  rw [c_Pieces d _ _ h1 h2]
  exact congrArg (fun g => some (none, g)) (PB_in (ci := 0) (by decide) (by decide))
theorem n_Kind (d : Nat) (h : xH) (a c : Nat) (fs : List Value) (L : List (xE × Nat)) (n : Nat) (w : Int64) : xm (d + 2) 3 [.ref (a + 1 + L.length), .long w] (PB h a c fs (L ++ [(.inr (1, [.long 0, .null, .null, .null, .int (nI 0)]), n)])) = some (none, PB h a c fs (L ++ bkL 1 (a + 1 + L.length) (K0 w) n 24)) := by
  obtain ⟨h1, h2⟩ := PB_new h a c fs L (.inr (1, [.long 0, .null, .null, .null, .int (nI 0)])) n
  rw [c_Kind d _ _ w h1 h2]
  exact congrArg (fun g => some (none, g)) (PB_in (ci := 1) (by decide) (by decide))
theorem n_MoveP (d : Nat) (h : xH) (a c : Nat) (fs : List Value) (L : List (xE × Nat)) (n : Nat) (t : Int32) : xm (d + 2) 5 [.ref (a + 1 + L.length), .int t] (PB h a c fs (L ++ [(.inr (3, [.int (nI 0), .null, .null, .null, .null, .null, .null]), n)])) = some (none, PB h a c fs (L ++ bkL 3 (a + 1 + L.length) (mvS t 8) n 51)) := by
  obtain ⟨h1, h2⟩ := PB_new h a c fs L (.inr (3, [.int (nI 0), .null, .null, .null, .null, .null, .null])) n
  rw [c_Move d _ _ t h1 h2]
  exact congrArg (fun g => some (none, g)) (PB_in (ci := 3) (by decide) (by decide))
/-- the carrier -/
def fsK (a : Nat) : List Value := [.ref (a + 1), .int (-nI 1), .int (-nI 1), .int (-nI 1), .int (-nI 1), .long 0, .long 0, .int (nI 0), .int (nI 0), .int (nI 0), .int (nI 0), .int (nI 0), .int (nI 0)]
def dfK : List Value := [.null, .int (nI 0), .int (nI 0), .int (nI 0), .int (nI 0), .long 0, .long 0, .int (nI 0), .int (nI 0), .int (nI 0), .int (nI 0), .int (nI 0), .int (nI 0)]
theorem c_Carrier0 (d : Nat) (h : xH) (a : Nat) (H : h.1 a = some (.inr (6, dfK))) (ha : h.2.2.1 = a + 1) : xm (d + 3) 6 [.ref a] h = some (none, PB h a 6 (fsK a) (bkL 5 (a + 1) Z0 4 48)) := by
  have e0 := PB_0 H ha
  have eR : xm (d + 2) 7 [.ref (a + 1)] (PB h a 6 dfK [(.inr (5, [.null, .int (nI 0), .int (nI 0), .long 0]), 4)]) = _ := n_Reckoner d h a 6 dfK [] 4
  rw [E_6 _ _ _ rfl]
  generalize hg : PB h a 6 dfK [] = g at e0
  have e1 : xrun (d + 2) 6 0 [(1, .ref a)] [] g = some (none, PB h a 6 (fsK a) (bkL 5 (a + 1) Z0 4 48)) := by
    rw [← hg]
    simp (disch := omega) only [q_6_0, q_6_1, q_6_4, q_6_5, q_6_8, q_6_9, q_6_12, q_6_15, q_6_16, q_6_17, q_6_20, q_6_21, q_6_22, q_6_25, q_6_26, q_6_27, q_6_30, q_6_31, q_6_32, q_6_35, ↓reduceIte, k_cr, k_ci, k_oR, k_oN, k_aR, k_aN, and_true, true_and, and_self, eq_self, Nat.reduceLT, Nat.reduceLeDiff, Nat.reduceEqDiff, Nat.reduceAdd, Nat.reduceMul, Bool.true_eq_false, Bool.false_eq_true, Nat.add_sub_cancel, Nat.not_lt_zero, Nat.zero_le, k_sub, k_sb1, k_r, k_n, k_ret, k_t1, k_t0, k_nr, k_nn, k_z0, k_z1, k_zb, x_okI, lit_nI, k_in, k_cl, k_lt, k_le, k_eq, k_neg, nI_add, nI_mul, k_clt, k_cgt, k_cle, k_cge, k_ceq, bI_0, k_sh8, ne_eq, Nat.add_eq_zero_iff, Nat.one_ne_zero, Nat.succ_ne_zero, and_false, false_and, not_false_eq_true, not_true_eq_false, ite_true, ite_false, if_true, if_false, PB_mk, PB_nx, PB_ob, PB_put, List.length_nil, List.nil_append, Nat.add_zero, eR]
    simp (disch := omega) only [dfK, fsK, q_6_0, q_6_1, q_6_4, q_6_5, q_6_8, q_6_9, q_6_12, q_6_15, q_6_16, q_6_17, q_6_20, q_6_21, q_6_22, q_6_25, q_6_26, q_6_27, q_6_30, q_6_31, q_6_32, q_6_35, ↓reduceIte, k_cr, k_ci, k_oR, k_oN, k_aR, k_aN, and_true, true_and, and_self, eq_self, Nat.reduceLT, Nat.reduceLeDiff, Nat.reduceEqDiff, Nat.reduceAdd, Nat.reduceMul, Bool.true_eq_false, Bool.false_eq_true, Nat.add_sub_cancel, Nat.not_lt_zero, Nat.zero_le, k_sub, k_sb1, k_r, k_n, k_ret, k_t1, k_t0, k_nr, k_nn, k_z0, k_z1, k_zb, x_okI, lit_nI, k_in, k_cl, k_lt, k_le, k_eq, k_neg, nI_add, nI_mul, k_clt, k_cgt, k_cle, k_cge, k_ceq, bI_0, k_sh8, ne_eq, Nat.add_eq_zero_iff, Nat.one_ne_zero, Nat.succ_ne_zero, and_false, false_and, not_false_eq_true, not_true_eq_false, ite_true, ite_false, if_true, if_false, PB_mk, PB_nx, PB_ob, PB_put, List.length_cons, List.length_nil, List.set_cons_succ, List.set_cons_zero, List.nil_append, List.cons_append, Nat.add_assoc, Nat.zero_add, Nat.add_zero]
  rw [← e0] at e1
  exact e1
