/-! A new Move. -/
def M0 (t : Int32) : gS := (fun _ => t, fun _ => 0, fun _ _ => nI 0, fun _ _ => 0, fun _ => .null, fun _ _ => .null)
theorem mk_Move (h : xH) (a : Nat) (t : Int32) (z0 z1 z2 z3 z4 z5 : xE) (ha : h.2.2.1 = a + 1) : xput (xput (xmkA (xput (xmkA (xput (xmkA (xput (xmkA (xput (xmkA (xput (xmkA h (a + 1) (.inl (0, 8, fun _ => .int (nI 0))) 8) a z0) (a + 2) (.inl (0, 9, fun _ => .int (nI 0))) 9) a z1) (a + 3) (.inl (0, 9, fun _ => .int (nI 0))) 9) a z2) (a + 4) (.inl (4, 9, fun _ => .int (nI 0))) 9) a z3) (a + 5) (.inl (4, 8, fun _ => .int (nI 0))) 8) a z4) (a + 6) (.inl (4, 8, fun _ => .int (nI 0))) 8) a z5) a (.inr (3, [.int t, .ref (a + 1), .ref (a + 2), .ref (a + 3), .ref (a + 4), .ref (a + 5), .ref (a + 6)])) = oh 3 (grow h 6 51) a (M0 t) := by
  refine oh_mk ?_ ?_ ?_ ?_
  · simp only [xput, xmkA, grow, ha]
  · rw [kp_1]
    rfl
  · intro o k ho hk
    have hlt := o_at_lt hk
    have h4 : o < 7 := hlt
    have h5 : o = 1 ∨ o = 2 ∨ o = 3 ∨ o = 4 ∨ o = 5 ∨ o = 6 := by omega
    rcases h5 with rfl | rfl | rfl | rfl | rfl | rfl
    all_goals cases hk
    all_goals simp (disch := omega) only [kp_2, km_2, km_1]
    all_goals rfl
  · intro q hq
    have hf : q < a ∨ a + 7 ≤ q := ofp_far (by decide) hq
    simp (disch := omega) only [kp_2, km_2]
    rfl
def mvS (t : Int32) (j : Nat) : gS := rA (M0 t) 1 (fillF (fun _ => nI 0) (fun _ => -nI 1) 0 j)
theorem c_Move_loop (d : Nat) (g : xH) (a : Nat) (t : Int32) : ∀ (k i : Nat), i + k = 8 → xrun d 5 59 [(1, .ref a), (1, .int t), (1, .int (nI i))] [] (oh 3 g a (mvS t i)) = some (none, oh 3 g a (mvS t 8))
  | 0, i, hi => by
    have h8 : i = 8 := by omega
    subst h8
    rw [q_5_59]
    simp (disch := omega) only [q_5_0, q_5_1, q_5_4, q_5_5, q_5_7, q_5_9, q_5_12, q_5_13, q_5_15, q_5_17, q_5_20, q_5_21, q_5_23, q_5_25, q_5_28, q_5_29, q_5_31, q_5_33, q_5_36, q_5_37, q_5_39, q_5_41, q_5_44, q_5_45, q_5_47, q_5_49, q_5_52, q_5_53, q_5_54, q_5_57, q_5_58, q_5_60, q_5_62, q_5_65, q_5_66, q_5_69, q_5_70, q_5_71, q_5_72, q_5_75, q_5_78, og_3_1, or_3_1, ow_3_1, og_3_2, or_3_2, ow_3_2, og_3_3, or_3_3, ow_3_3, og_3_4, or_3_4, ow_3_4, og_3_5, or_3_5, ow_3_5, og_3_6, or_3_6, ow_3_6, og_3_0, op_3_0, o_is, o_ob, ofs_len3, ↓reduceIte, k_cr, k_ci, k_oR, k_oN, k_aR, k_aN, and_true, true_and, and_self, eq_self, Nat.reduceLT, Nat.reduceLeDiff, Nat.reduceEqDiff, Nat.reduceAdd, Nat.reduceMul, Bool.true_eq_false, Bool.false_eq_true, Nat.add_sub_cancel, Nat.not_lt_zero, Nat.zero_le, k_sub, k_sb1, k_r, k_n, k_ret, k_t1, k_t0, k_nr, k_nn, k_z0, k_z1, k_zb, x_okI, lit_nI, k_in, k_cl, k_lt, k_le, k_eq, k_neg, nI_add, nI_mul, k_clt, k_cgt, k_cle, k_cge, k_ceq, bI_0, k_sh8, ne_eq, Nat.add_eq_zero_iff, Nat.one_ne_zero, Nat.succ_ne_zero, and_false, false_and, not_false_eq_true, not_true_eq_false, ite_true, ite_false, if_true, if_false, Nat.le_refl]
  | k + 1, i, hi => by
    rw [q_5_59]
    have h8 : ¬ 8 ≤ i := by omega
    have hu : uA (mvS t i) 1 i (-nI 1) = mvS t (i + 1) := by
      have := fillF_s (fun _ => nI 0) (fun _ => -nI 1) 0 i
      rw [Nat.zero_add] at this
      unfold mvS
      rw [uA_rA, this]
    simp (disch := omega) only [q_5_0, q_5_1, q_5_4, q_5_5, q_5_7, q_5_9, q_5_12, q_5_13, q_5_15, q_5_17, q_5_20, q_5_21, q_5_23, q_5_25, q_5_28, q_5_29, q_5_31, q_5_33, q_5_36, q_5_37, q_5_39, q_5_41, q_5_44, q_5_45, q_5_47, q_5_49, q_5_52, q_5_53, q_5_54, q_5_57, q_5_58, q_5_60, q_5_62, q_5_65, q_5_66, q_5_69, q_5_70, q_5_71, q_5_72, q_5_75, q_5_78, og_3_1, or_3_1, ow_3_1, og_3_2, or_3_2, ow_3_2, og_3_3, or_3_3, ow_3_3, og_3_4, or_3_4, ow_3_4, og_3_5, or_3_5, ow_3_5, og_3_6, or_3_6, ow_3_6, og_3_0, op_3_0, o_is, o_ob, ofs_len3, ↓reduceIte, k_cr, k_ci, k_oR, k_oN, k_aR, k_aN, and_true, true_and, and_self, eq_self, Nat.reduceLT, Nat.reduceLeDiff, Nat.reduceEqDiff, Nat.reduceAdd, Nat.reduceMul, Bool.true_eq_false, Bool.false_eq_true, Nat.add_sub_cancel, Nat.not_lt_zero, Nat.zero_le, k_sub, k_sb1, k_r, k_n, k_ret, k_t1, k_t0, k_nr, k_nn, k_z0, k_z1, k_zb, x_okI, lit_nI, k_in, k_cl, k_lt, k_le, k_eq, k_neg, nI_add, nI_mul, k_clt, k_cgt, k_cle, k_cge, k_ceq, bI_0, k_sh8, ne_eq, Nat.add_eq_zero_iff, Nat.one_ne_zero, Nat.succ_ne_zero, and_false, false_and, not_false_eq_true, not_true_eq_false, ite_true, ite_false, if_true, if_false, h8, hu]
    exact c_Move_loop d g a t k (i + 1) (by omega)
theorem c_Move (d : Nat) (h : xH) (a : Nat) (t : Int32) (H : h.1 a = some (.inr (3, [.int (nI 0), .null, .null, .null, .null, .null, .null]))) (ha : h.2.2.1 = a + 1) : xm (d + 2) 5 [.ref a, .int t] h = some (none, oh 3 (grow h 6 51) a (mvS t 8)) := by
  rw [E_5 _ _ _ _ rfl]
  have e0 : M0 t = mvS t 0 := by
    unfold mvS
    rw [fillF_0]
    exact (rA_id (M0 t) 1).symm
  have hl := c_Move_loop (d + 1) (grow h 6 51) a t 8 0 (by omega)
  rw [← e0] at hl
  simp (disch := omega) only [q_5_0, q_5_1, q_5_4, q_5_5, q_5_7, q_5_9, q_5_12, q_5_13, q_5_15, q_5_17, q_5_20, q_5_21, q_5_23, q_5_25, q_5_28, q_5_29, q_5_31, q_5_33, q_5_36, q_5_37, q_5_39, q_5_41, q_5_44, q_5_45, q_5_47, q_5_49, q_5_52, q_5_53, q_5_54, q_5_57, q_5_58, q_5_60, q_5_62, q_5_65, q_5_66, q_5_69, q_5_70, q_5_71, q_5_72, q_5_75, q_5_78, ↓reduceIte, k_cr, k_ci, k_oR, k_oN, k_aR, k_aN, and_true, true_and, and_self, eq_self, Nat.reduceLT, Nat.reduceLeDiff, Nat.reduceEqDiff, Nat.reduceAdd, Nat.reduceMul, Bool.true_eq_false, Bool.false_eq_true, Nat.add_sub_cancel, Nat.not_lt_zero, Nat.zero_le, k_sub, k_sb1, k_r, k_n, k_ret, k_t1, k_t0, k_nr, k_nn, k_z0, k_z1, k_zb, x_okI, lit_nI, k_in, k_cl, k_lt, k_le, k_eq, k_neg, nI_add, nI_mul, k_clt, k_cgt, k_cle, k_cge, k_ceq, bI_0, k_sh8, ne_eq, Nat.add_eq_zero_iff, Nat.one_ne_zero, Nat.succ_ne_zero, and_false, false_and, not_false_eq_true, not_true_eq_false, ite_true, ite_false, if_true, if_false, xmk_A, kx_ob1, kx_ob2, kx_nx1, kx_nx2, kx_ob3 H, ha, List.length_cons, List.length_nil, List.set_cons_succ, List.set_cons_zero, x_okI, Nat.add_assoc, mk_Move, hl]
