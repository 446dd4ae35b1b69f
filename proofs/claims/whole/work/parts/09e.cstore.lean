/-! Stores of the class. -/
def rQ (S : gS) (k : Nat) (z : Nat → Value) : gS := (S.1, S.2.1, S.2.2.1, S.2.2.2.1, S.2.2.2.2.1, va_up S.2.2.2.2.2 k z)
theorem uQ_rQ (S : gS) (k i : Nat) (z : Nat → Value) (v : Value) : uQ (rQ S k z) k i v = rQ S k (va_up z i v) := by
  unfold uQ rQ
  dsimp only
  rw [va_up_up, va_up_self]
theorem sQ_rQ (S : gS) (k : Nat) (z : Nat → Value) (q j : Nat) : sQ (rQ S k z) q j = if q = k then z j else sQ S q j := by
  show va_up _ k z q j = _
  unfold va_up
  by_cases h : q = k <;> simp [h, sQ]
theorem sI_rQ (S : gS) (k : Nat) (z : Nat → Value) : sI (rQ S k z) = sI S := rfl
theorem rQ_id (S : gS) (k : Nat) : rQ S k (sQ S k) = S := by
  unfold rQ sQ
  have : va_up S.2.2.2.2.2 k (S.2.2.2.2.2 k) = S.2.2.2.2.2 := by
    funext q
    unfold va_up
    by_cases h : q = k <;> simp [h]
  rw [this]
/-- a Store of n VALUES, at ν, which are SV -/
def stOK (h : xH) (S : gS) (n : Nat) (ν : Nat → Nat) (SV : Nat → gS) : Prop := sI S 2 = nI n ∧ n ≤ 60 ∧ ∀ i, i < n → sQ S 0 i = .ref (ν i) ∧ isB 9 h (ν i) (SV i)
def oV (ν : Nat → Nat) : Option Nat → Value
  | none => .null
  | some i => .ref (ν i)
theorem c_sfind_loop (d : Nat) (h : xH) (a n : Nat) (S : gS) (ν : Nat → Nat) (SV : Nat → gS) (w : Int64) (H : isB 7 h a S) (hk : stOK h S n ν SV) : ∀ (k i : Nat) (u : Nat × Value), i + k = n → xrun d 24 2 [(1, .ref a), (2, .long w), (0, .null), (1, .int (nI i)), u] [] h = some (some (oV ν (fndF (fun i => sJ (SV i) 2) w k i)), h)
  | 0, i, u, hi => by
    obtain ⟨k1, k2, k3⟩ := id hk
    rw [q_24_2]
    simp (disch := omega) only [q_24_0, q_24_1, q_24_3, q_24_4, q_24_7, q_24_10, q_24_11, q_24_14, q_24_15, q_24_16, q_24_18, q_24_20, q_24_23, q_24_25, q_24_28, q_24_29, q_24_30, q_24_33, q_24_35, q_24_36, q_24_39, q_24_42, q_24_43, hg_7_2 H, hg_7_0 H, hr_7_0 H, hw_7_0 H, hn_7_0 H, h_is H, h_ob H, ofs_len7, k_cr, k_ci, k_oR, k_oN, k_aR, k_aN, and_true, true_and, and_self, eq_self, Nat.reduceLT, Nat.reduceLeDiff, Nat.reduceEqDiff, Nat.reduceAdd, Nat.reduceMul, Bool.true_eq_false, Bool.false_eq_true, Nat.add_sub_cancel, Nat.not_lt_zero, Nat.zero_le, k_sub, k_sb1, k_r, k_n, k_ret, k_t1, k_t0, k_nr, k_nn, k_z0, k_z1, k_zb, x_okI, lit_nI, k_in, k_cl, k_lt, k_le, k_eq, k_neg, nI_add, nI_mul, k_clt, k_cgt, k_cle, k_cge, k_ceq, bI_0, k_sh8, ne_eq, Nat.add_eq_zero_iff, Nat.one_ne_zero, Nat.succ_ne_zero, and_false, false_and, not_false_eq_true, not_true_eq_false, ite_true, ite_false, if_true, if_false, k1]
    rw [if_pos (by omega)]
    rfl
  | k + 1, i, u, hi => by
    obtain ⟨k1, k2, k3⟩ := id hk
    obtain ⟨e1, e2⟩ := k3 i (by omega)
    rw [q_24_2]
    simp (disch := omega) only [q_24_0, q_24_1, q_24_3, q_24_4, q_24_7, q_24_10, q_24_11, q_24_14, q_24_15, q_24_16, q_24_18, q_24_20, q_24_23, q_24_25, q_24_28, q_24_29, q_24_30, q_24_33, q_24_35, q_24_36, q_24_39, q_24_42, q_24_43, hg_7_2 H, hg_7_0 H, hr_7_0 H, hw_7_0 H, hn_7_0 H, h_is H, h_ob H, ofs_len7, hg_9_2 e2, h_is e2, h_ob e2, ofs_len9, k_cr, k_ci, k_oR, k_oN, k_aR, k_aN, and_true, true_and, and_self, eq_self, Nat.reduceLT, Nat.reduceLeDiff, Nat.reduceEqDiff, Nat.reduceAdd, Nat.reduceMul, Bool.true_eq_false, Bool.false_eq_true, Nat.add_sub_cancel, Nat.not_lt_zero, Nat.zero_le, k_sub, k_sb1, k_r, k_n, k_ret, k_t1, k_t0, k_nr, k_nn, k_z0, k_z1, k_zb, x_okI, lit_nI, k_in, k_cl, k_lt, k_le, k_eq, k_neg, nI_add, nI_mul, k_clt, k_cgt, k_cle, k_cge, k_ceq, bI_0, k_sh8, ne_eq, Nat.add_eq_zero_iff, Nat.one_ne_zero, Nat.succ_ne_zero, and_false, false_and, not_false_eq_true, not_true_eq_false, ite_true, ite_false, if_true, if_false, k1, e1]
    rw [if_neg (by omega), c_sfind_loop d h a n S ν SV w H hk k (i + 1) _ (by omega), fndF_s]
    by_cases h1 : sJ (SV i) 2 = w
    · simp only [h1, if_true]
      rfl
    · simp only [h1, if_false]
theorem c_sfind (d : Nat) (h : xH) (a n : Nat) (S : gS) (ν : Nat → Nat) (SV : Nat → gS) (w : Int64) (H : isB 7 h a S) (hk : stOK h S n ν SV) : xm (d + 1) 24 [.ref a, .long w] h = some (some (oV ν (fnd (fun i => sJ (SV i) 2) w n)), h) := by
  rw [E_24 _ _ _ _ rfl]
  simp only [q_24_0, q_24_1, q_24_3, q_24_4, q_24_7, q_24_10, q_24_11, q_24_14, q_24_15, q_24_16, q_24_18, q_24_20, q_24_23, q_24_25, q_24_28, q_24_29, q_24_30, q_24_33, q_24_35, q_24_36, q_24_39, q_24_42, q_24_43, k_cr, k_ci, k_oR, k_oN, k_aR, k_aN, and_true, true_and, and_self, eq_self, Nat.reduceLT, Nat.reduceLeDiff, Nat.reduceEqDiff, Nat.reduceAdd, Nat.reduceMul, Bool.true_eq_false, Bool.false_eq_true, Nat.add_sub_cancel, Nat.not_lt_zero, Nat.zero_le, k_sub, k_sb1, k_r, k_n, k_ret, k_t1, k_t0, k_nr, k_nn, k_z0, k_z1, k_zb, x_okI, lit_nI, k_in, k_cl, k_lt, k_le, k_eq, k_neg, nI_add, nI_mul, k_clt, k_cgt, k_cle, k_cge, k_ceq, bI_0, k_sh8, ne_eq, Nat.add_eq_zero_iff, Nat.one_ne_zero, Nat.succ_ne_zero, and_false, false_and, not_false_eq_true, not_true_eq_false, ite_true, ite_false, if_true, if_false]
  exact c_sfind_loop d h a n S ν SV w H hk n 0 _ (by omega)
theorem c_sat (d : Nat) (h : xH) (a n i : Nat) (S : gS) (ν : Nat → Nat) (SV : Nat → gS) (H : isB 7 h a S) (hk : stOK h S n ν SV) (hi : i < 2147483648) : xm (d + 1) 79 [.ref a, .int (nI i)] h = some (some (if i < n then .ref (ν i) else .null), h) := by
  rw [E_79 _ _ _ _ rfl]
  obtain ⟨k1, k2, k3⟩ := id hk
  by_cases h1 : i < n
  · have h2 : ¬ n ≤ i := by omega
    simp (disch := omega) only [q_79_0, q_79_1, q_79_4, q_79_5, q_79_6, q_79_9, q_79_12, q_79_13, q_79_16, q_79_17, q_79_18, q_79_21, q_79_22, hg_7_2 H, hg_7_0 H, hr_7_0 H, hw_7_0 H, hn_7_0 H, h_is H, h_ob H, ofs_len7, k_cr, k_ci, k_oR, k_oN, k_aR, k_aN, and_true, true_and, and_self, eq_self, Nat.reduceLT, Nat.reduceLeDiff, Nat.reduceEqDiff, Nat.reduceAdd, Nat.reduceMul, Bool.true_eq_false, Bool.false_eq_true, Nat.add_sub_cancel, Nat.not_lt_zero, Nat.zero_le, k_sub, k_sb1, k_r, k_n, k_ret, k_t1, k_t0, k_nr, k_nn, k_z0, k_z1, k_zb, x_okI, lit_nI, k_in, k_cl, k_lt, k_le, k_eq, k_neg, nI_add, nI_mul, k_clt, k_cgt, k_cle, k_cge, k_ceq, bI_0, k_sh8, ne_eq, Nat.add_eq_zero_iff, Nat.one_ne_zero, Nat.succ_ne_zero, and_false, false_and, not_false_eq_true, not_true_eq_false, ite_true, ite_false, if_true, if_false, k1, (k3 i h1).1, h1, h2]
  · have h2 : n ≤ i := by omega
    simp (disch := omega) only [q_79_0, q_79_1, q_79_4, q_79_5, q_79_6, q_79_9, q_79_12, q_79_13, q_79_16, q_79_17, q_79_18, q_79_21, q_79_22, hg_7_2 H, hg_7_0 H, hr_7_0 H, hw_7_0 H, hn_7_0 H, h_is H, h_ob H, ofs_len7, k_cr, k_ci, k_oR, k_oN, k_aR, k_aN, and_true, true_and, and_self, eq_self, Nat.reduceLT, Nat.reduceLeDiff, Nat.reduceEqDiff, Nat.reduceAdd, Nat.reduceMul, Bool.true_eq_false, Bool.false_eq_true, Nat.add_sub_cancel, Nat.not_lt_zero, Nat.zero_le, k_sub, k_sb1, k_r, k_n, k_ret, k_t1, k_t0, k_nr, k_nn, k_z0, k_z1, k_zb, x_okI, lit_nI, k_in, k_cl, k_lt, k_le, k_eq, k_neg, nI_add, nI_mul, k_clt, k_cgt, k_cle, k_cge, k_ceq, bI_0, k_sh8, ne_eq, Nat.add_eq_zero_iff, Nat.one_ne_zero, Nat.succ_ne_zero, and_false, false_and, not_false_eq_true, not_true_eq_false, ite_true, ite_false, if_true, if_false, k1, h1, h2]
theorem c_sat_n (d : Nat) (h : xH) (a : Nat) (x : Int32) (S : gS) (H : isB 7 h a S) (hx : x < nI 0) : xm (d + 1) 79 [.ref a, .int x] h = some (some .null, h) := by
  rw [E_79 _ _ _ _ rfl]
  simp (disch := omega) only [q_79_0, q_79_1, q_79_4, q_79_5, q_79_6, q_79_9, q_79_12, q_79_13, q_79_16, q_79_17, q_79_18, q_79_21, q_79_22, hg_7_2 H, hg_7_0 H, hr_7_0 H, hw_7_0 H, hn_7_0 H, h_is H, h_ob H, ofs_len7, k_cr, k_ci, k_oR, k_oN, k_aR, k_aN, and_true, true_and, and_self, eq_self, Nat.reduceLT, Nat.reduceLeDiff, Nat.reduceEqDiff, Nat.reduceAdd, Nat.reduceMul, Bool.true_eq_false, Bool.false_eq_true, Nat.add_sub_cancel, Nat.not_lt_zero, Nat.zero_le, k_sub, k_sb1, k_r, k_n, k_ret, k_t1, k_t0, k_nr, k_nn, k_z0, k_z1, k_zb, x_okI, lit_nI, k_in, k_cl, k_lt, k_le, k_eq, k_neg, nI_add, nI_mul, k_clt, k_cgt, k_cle, k_cge, k_ceq, bI_0, k_sh8, ne_eq, Nat.add_eq_zero_iff, Nat.one_ne_zero, Nat.succ_ne_zero, and_false, false_and, not_false_eq_true, not_true_eq_false, ite_true, ite_false, if_true, if_false, hx]
theorem c_empty (d : Nat) (h : xH) (a : Nat) (x : Int32) (S : gS) (H : isB 7 h a S) : xm (d + 1) 22 [.ref a, .int x] h = some (none, oh 7 h a (uI (uI S 1 x) 2 (nI 0))) := by
  rw [E_22 _ _ _ _ rfl]
  simp (disch := omega) only [q_22_0, q_22_1, q_22_2, q_22_5, q_22_6, q_22_7, q_22_10, hg_7_1 H, hp_7_1 H, hg_7_2 H, hp_7_2 H, h_is H, h_ob H, ofs_len7, k_cr, k_ci, k_oR, k_oN, k_aR, k_aN, and_true, true_and, and_self, eq_self, Nat.reduceLT, Nat.reduceLeDiff, Nat.reduceEqDiff, Nat.reduceAdd, Nat.reduceMul, Bool.true_eq_false, Bool.false_eq_true, Nat.add_sub_cancel, Nat.not_lt_zero, Nat.zero_le, k_sub, k_sb1, k_r, k_n, k_ret, k_t1, k_t0, k_nr, k_nn, k_z0, k_z1, k_zb, x_okI, lit_nI, k_in, k_cl, k_lt, k_le, k_eq, k_neg, nI_add, nI_mul, k_clt, k_cgt, k_cle, k_cge, k_ceq, bI_0, k_sh8, ne_eq, Nat.add_eq_zero_iff, Nat.one_ne_zero, Nat.succ_ne_zero, and_false, false_and, not_false_eq_true, not_true_eq_false, ite_true, ite_false, if_true, if_false, q_22_0, q_22_1, q_22_2, q_22_5, q_22_6, q_22_7, q_22_10, og_7_1, op_7_1, og_7_2, op_7_2, o_is, o_ob, ofs_len7]
def V0 (κ : Nat) : gS := (fun _ => nI 0, fun _ => 0, fun _ _ => nI 0, fun _ _ => 0, fun _ => .ref κ, fun _ _ => .null)
theorem mk_Value (h : xH) (a κ : Nat) (z0 z1 : xE) (ha : h.2.2.1 = a + 1) : xput (xput (xmkA (xput (xmkA h (a + 1) (.inl (0, 8, fun _ => .int (nI 0))) 8) a z0) (a + 2) (.inl (2, 64, fun _ => .long 0)) 64) a z1) a (.inr (9, [.ref (a + 1), .ref (a + 2), .long 0, .long 0, .int (nI 0), .ref κ])) = oh 9 (grow h 2 72) a (V0 κ) := by
  refine oh_mk ?_ ?_ ?_ ?_
  · simp only [xput, xmkA, grow, ha]
  · rw [kp_1]
    rfl
  · intro o k ho hk
    have hlt := o_at_lt hk
    have h4 : o < 3 := hlt
    have h5 : o = 1 ∨ o = 2 := by omega
    rcases h5 with rfl | rfl
    · cases hk
      simp (disch := omega) only [kp_2, km_2, km_1]
      rfl
    · cases hk
      simp (disch := omega) only [kp_2, km_2, km_1]
      rfl
  · intro q hq
    have hf : q < a ∨ a + 3 ≤ q := ofp_far (by decide) hq
    simp (disch := omega) only [kp_2, km_2]
    rfl
theorem c_Value (d : Nat) (h : xH) (a κ : Nat) (H : h.1 a = some (.inr (9, [.null, .null, .long 0, .long 0, .int (nI 0), .null]))) (ha : h.2.2.1 = a + 1) : xm (d + 2) 26 [.ref a, .ref κ] h = some (none, oh 9 (grow h 2 72) a (V0 κ)) := by
  rw [E_26 _ _ _ _ rfl rfl]
  simp (disch := omega) only [q_26_0, q_26_1, q_26_4, q_26_5, q_26_7, q_26_9, q_26_12, q_26_13, q_26_15, q_26_17, q_26_20, q_26_21, q_26_22, q_26_25, k_cr, k_ci, k_oR, k_oN, k_aR, k_aN, and_true, true_and, and_self, eq_self, Nat.reduceLT, Nat.reduceLeDiff, Nat.reduceEqDiff, Nat.reduceAdd, Nat.reduceMul, Bool.true_eq_false, Bool.false_eq_true, Nat.add_sub_cancel, Nat.not_lt_zero, Nat.zero_le, k_sub, k_sb1, k_r, k_n, k_ret, k_t1, k_t0, k_nr, k_nn, k_z0, k_z1, k_zb, x_okI, lit_nI, k_in, k_cl, k_lt, k_le, k_eq, k_neg, nI_add, nI_mul, k_clt, k_cgt, k_cle, k_cge, k_ceq, bI_0, k_sh8, ne_eq, Nat.add_eq_zero_iff, Nat.one_ne_zero, Nat.succ_ne_zero, and_false, false_and, not_false_eq_true, not_true_eq_false, ite_true, ite_false, if_true, if_false, xmk_A, kx_ob1, kx_ob2, kx_nx1, kx_nx2, kx_ob3 H, ha, List.length_cons, List.length_nil, List.set_cons_succ, List.set_cons_zero, x_okJ, Nat.add_assoc, mk_Value]
/-- the place of a KEY behind those that are not greater -/
def insF (f : Nat → Int64) (w : Int64) : Nat → Nat
  | 0 => 0
  | i + 1 => if w < f i then insF f w i else i + 1
theorem insF_s (f : Nat → Int64) (w : Int64) (i : Nat) : insF f w (i + 1) = if w < f i then insF f w i else i + 1 := rfl
theorem insF_le (f : Nat → Int64) (w : Int64) : ∀ i, insF f w i ≤ i
  | 0 => Nat.le_refl _
  | i + 1 => by
    rw [insF_s]
    split
    · have := insF_le f w i
      omega
    · exact Nat.le_refl _
/-- places from p on below n go one on -/
def shQ (z : Nat → Value) (p n : Nat) : Nat → Value := fun j => if p < j ∧ j ≤ n then z (j - 1) else z j
theorem shQ_n (z : Nat → Value) (n : Nat) : shQ z n n = z := by
  funext j
  unfold shQ
  rw [if_neg (by omega)]
theorem shQ_s (z : Nat → Value) {p n : Nat} (hp : p < n) : va_up (shQ z (p + 1) n) (p + 1) (z p) = shQ z p n := by
  funext j
  unfold shQ va_up
  by_cases h : j = p + 1
  · subst h
    rw [if_pos rfl, if_pos (by omega)]
    rfl
  · rw [if_neg h]
    dsimp only
    by_cases h2 : p + 1 < j ∧ j ≤ n
    · rw [if_pos h2, if_pos (by omega)]
    · rw [if_neg h2, if_neg (by omega)]
