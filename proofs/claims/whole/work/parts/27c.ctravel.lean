/-! The class: strideTo, keep, travel. -/
theorem k_sam {α : Type} (a b : Nat) (x y : Option α) : xsam (.ref a) (.ref b) x y = if a = b then x else y := rfl
theorem sr_u (d : Nat) {h : xH} {X t : Nat} {SX S : gS} {ρ : Nat → Option Nat} (H8 : isB 8 h X SX) (hr : ∀ i, i < 64 → sQ SX 1 i = va_rf (ρ i)) (hρ : ∀ i, i < 64 → (ρ i).isSome = hz S i) (ht : t < 8) : ∀ (k a i : Nat), a + k = t → i + k < 8 → xrun (d + 1) 76 35 [(1, .ref X), (1, .int (nI t)), (1, .int (nI a)), (1, .int (nI 1)), (1, .int (nI i))] [] h = some (some (.int (if alH (hz S) a (pU k a) = true then nI 1 else nI 0)), h)
  | 0, a, i, ha, hi => by
    have ha : a = t := ha
    subst ha
    have h8 : ¬ 8 ≤ i := by omega
    show _ = some (some (Value.int (nI 1)), h)
    rw [q_76_35]
    simp (disch := omega) only [q_76_37, q_76_39, q_76_42, q_76_43, q_76_44, q_76_47, q_76_48, q_76_49, q_76_50, q_76_51, q_76_52, q_76_55, q_76_58, q_76_59, q_76_60, q_76_61, q_76_62, q_76_63, q_76_64, q_76_67, q_76_70, q_76_71, og_8_5, og_7_1, o_is, o_ob, ofs_len7, ofs_len8, ↓reduceIte, k_cr, k_ci, k_oR, k_oN, k_aR, k_aN, and_true, true_and, and_self, eq_self, Nat.reduceLT, Nat.reduceLeDiff, Nat.reduceEqDiff, Nat.reduceAdd, Nat.reduceMul, Bool.true_eq_false, Bool.false_eq_true, Nat.add_sub_cancel, Nat.not_lt_zero, Nat.zero_le, k_sub, k_sb1, k_r, k_n, k_ret, k_t1, k_t0, k_nr, k_nn, k_z0, k_z1, k_zb, x_okI, lit_nI, k_in, k_cl, k_lt, k_le, k_eq, k_neg, nI_add, nI_mul, k_clt, k_cgt, k_cle, k_cge, k_ceq, bI_0, k_sh8, ne_eq, Nat.add_eq_zero_iff, Nat.one_ne_zero, Nat.succ_ne_zero, and_false, false_and, not_false_eq_true, not_true_eq_false, ite_true, ite_false, if_true, if_false, h8]
  | k + 1, a, i, ha, hi => by
    have h8 : ¬ 8 ≤ i := by omega
    have hne : ¬ a = t := by omega
    have i8 : ∀ {α : Type} (f : Option α), xis h X 8 f = f := fun f => h_is H8 f
    have eR : xm (d + 1) 15 [.ref X, .int (nI a), .int (nI (a + 1))] h = _ := c_rulesFrom d h X a (a + 1) SX ρ H8 (by omega) (by omega) (hr _ (by omega))
    have e := hρ (8 * a + (a + 1)) (by omega)
    show _ = some (some (Value.int (if (hz S (8 * a + (a + 1)) && alH (hz S) (a + 1) (pU k (a + 1))) = true then nI 1 else nI 0)), h)
    rw [← e]
    cases hq : ρ (8 * a + (a + 1)) with
    | none =>
      rw [hq] at eR
      have eR : xm (d + 1) 15 [.ref X, .int (nI a), .int (nI (a + 1))] h = some (some .null, h) := eR
      show _ = some (some (Value.int (nI 0)), h)
      rw [q_76_35]
      simp (disch := omega) only [q_76_37, q_76_39, q_76_42, q_76_43, q_76_44, q_76_47, q_76_48, q_76_49, q_76_50, q_76_51, q_76_52, q_76_55, q_76_58, q_76_59, q_76_60, q_76_61, q_76_62, q_76_63, q_76_64, q_76_67, q_76_70, q_76_71, og_8_5, og_7_1, o_is, o_ob, ofs_len7, ofs_len8, ↓reduceIte, k_cr, k_ci, k_oR, k_oN, k_aR, k_aN, and_true, true_and, and_self, eq_self, Nat.reduceLT, Nat.reduceLeDiff, Nat.reduceEqDiff, Nat.reduceAdd, Nat.reduceMul, Bool.true_eq_false, Bool.false_eq_true, Nat.add_sub_cancel, Nat.not_lt_zero, Nat.zero_le, k_sub, k_sb1, k_r, k_n, k_ret, k_t1, k_t0, k_nr, k_nn, k_z0, k_z1, k_zb, x_okI, lit_nI, k_in, k_cl, k_lt, k_le, k_eq, k_neg, nI_add, nI_mul, k_clt, k_cgt, k_cle, k_cge, k_ceq, bI_0, k_sh8, ne_eq, Nat.add_eq_zero_iff, Nat.one_ne_zero, Nat.succ_ne_zero, and_false, false_and, not_false_eq_true, not_true_eq_false, ite_true, ite_false, if_true, if_false, h8, hne, i8, eR]
    | some r =>
      rw [hq] at eR
      have eR : xm (d + 1) 15 [.ref X, .int (nI a), .int (nI (a + 1))] h = some (some (.ref r), h) := eR
      show _ = some (some (Value.int (if (true && alH (hz S) (a + 1) (pU k (a + 1))) = true then nI 1 else nI 0)), h)
      rw [Bool.true_and, ← sr_u d H8 hr hρ ht k (a + 1) (i + 1) (by omega) (by omega), q_76_35]
      simp (disch := omega) only [q_76_37, q_76_39, q_76_42, q_76_43, q_76_44, q_76_47, q_76_48, q_76_49, q_76_50, q_76_51, q_76_52, q_76_55, q_76_58, q_76_59, q_76_60, q_76_61, q_76_62, q_76_63, q_76_64, q_76_67, q_76_70, q_76_71, og_8_5, og_7_1, o_is, o_ob, ofs_len7, ofs_len8, ↓reduceIte, k_cr, k_ci, k_oR, k_oN, k_aR, k_aN, and_true, true_and, and_self, eq_self, Nat.reduceLT, Nat.reduceLeDiff, Nat.reduceEqDiff, Nat.reduceAdd, Nat.reduceMul, Bool.true_eq_false, Bool.false_eq_true, Nat.add_sub_cancel, Nat.not_lt_zero, Nat.zero_le, k_sub, k_sb1, k_r, k_n, k_ret, k_t1, k_t0, k_nr, k_nn, k_z0, k_z1, k_zb, x_okI, lit_nI, k_in, k_cl, k_lt, k_le, k_eq, k_neg, nI_add, nI_mul, k_clt, k_cgt, k_cle, k_cge, k_ceq, bI_0, k_sh8, ne_eq, Nat.add_eq_zero_iff, Nat.one_ne_zero, Nat.succ_ne_zero, and_false, false_and, not_false_eq_true, not_true_eq_false, ite_true, ite_false, if_true, if_false, h8, hne, i8, eR]
theorem sr_d (d : Nat) {h : xH} {X t : Nat} {SX S : gS} {ρ : Nat → Option Nat} (H8 : isB 8 h X SX) (hr : ∀ i, i < 64 → sQ SX 1 i = va_rf (ρ i)) (hρ : ∀ i, i < 64 → (ρ i).isSome = hz S i) : ∀ (k a i : Nat), a = t + k → a < 8 → i + k < 8 → xrun (d + 1) 76 35 [(1, .ref X), (1, .int (nI t)), (1, .int (nI a)), (1, .int (-nI 1)), (1, .int (nI i))] [] h = some (some (.int (if alH (hz S) a (pD k a) = true then -nI 1 else nI 0)), h)
  | 0, a, i, ha, ha8, hi => by
    have ha : a = t := ha
    subst ha
    have h8 : ¬ 8 ≤ i := by omega
    show _ = some (some (Value.int (-nI 1)), h)
    rw [q_76_35]
    simp (disch := omega) only [q_76_37, q_76_39, q_76_42, q_76_43, q_76_44, q_76_47, q_76_48, q_76_49, q_76_50, q_76_51, q_76_52, q_76_55, q_76_58, q_76_59, q_76_60, q_76_61, q_76_62, q_76_63, q_76_64, q_76_67, q_76_70, q_76_71, og_8_5, og_7_1, o_is, o_ob, ofs_len7, ofs_len8, ↓reduceIte, k_cr, k_ci, k_oR, k_oN, k_aR, k_aN, and_true, true_and, and_self, eq_self, Nat.reduceLT, Nat.reduceLeDiff, Nat.reduceEqDiff, Nat.reduceAdd, Nat.reduceMul, Bool.true_eq_false, Bool.false_eq_true, Nat.add_sub_cancel, Nat.not_lt_zero, Nat.zero_le, k_sub, k_sb1, k_r, k_n, k_ret, k_t1, k_t0, k_nr, k_nn, k_z0, k_z1, k_zb, x_okI, lit_nI, k_in, k_cl, k_lt, k_le, k_eq, k_neg, nI_add, nI_mul, k_clt, k_cgt, k_cle, k_cge, k_ceq, bI_0, k_sh8, ne_eq, Nat.add_eq_zero_iff, Nat.one_ne_zero, Nat.succ_ne_zero, and_false, false_and, not_false_eq_true, not_true_eq_false, ite_true, ite_false, if_true, if_false, h8]
  | k + 1, a, i, ha, ha8, hi => by
    have h8 : ¬ 8 ≤ i := by omega
    have hne : ¬ a = t := by omega
    have i8 : ∀ {α : Type} (f : Option α), xis h X 8 f = f := fun f => h_is H8 f
    have eR : xm (d + 1) 15 [.ref X, .int (nI a), .int (nI (a - 1))] h = _ := c_rulesFrom d h X a (a - 1) SX ρ H8 (by omega) (by omega) (hr _ (by omega))
    have e := hρ (8 * a + (a - 1)) (by omega)
    show _ = some (some (Value.int (if (hz S (8 * a + (a - 1)) && alH (hz S) (a - 1) (pD k (a - 1))) = true then -nI 1 else nI 0)), h)
    rw [← e]
    cases hq : ρ (8 * a + (a - 1)) with
    | none =>
      rw [hq] at eR
      have eR : xm (d + 1) 15 [.ref X, .int (nI a), .int (nI (a - 1))] h = some (some .null, h) := eR
      show _ = some (some (Value.int (nI 0)), h)
      rw [q_76_35]
      simp (disch := omega) only [q_76_37, q_76_39, q_76_42, q_76_43, q_76_44, q_76_47, q_76_48, q_76_49, q_76_50, q_76_51, q_76_52, q_76_55, q_76_58, q_76_59, q_76_60, q_76_61, q_76_62, q_76_63, q_76_64, q_76_67, q_76_70, q_76_71, og_8_5, og_7_1, o_is, o_ob, ofs_len7, ofs_len8, ↓reduceIte, k_cr, k_ci, k_oR, k_oN, k_aR, k_aN, and_true, true_and, and_self, eq_self, Nat.reduceLT, Nat.reduceLeDiff, Nat.reduceEqDiff, Nat.reduceAdd, Nat.reduceMul, Bool.true_eq_false, Bool.false_eq_true, Nat.add_sub_cancel, Nat.not_lt_zero, Nat.zero_le, k_sub, k_sb1, k_r, k_n, k_ret, k_t1, k_t0, k_nr, k_nn, k_z0, k_z1, k_zb, x_okI, lit_nI, k_in, k_cl, k_lt, k_le, k_eq, k_neg, nI_add, nI_mul, k_clt, k_cgt, k_cle, k_cge, k_ceq, bI_0, k_sh8, ne_eq, Nat.add_eq_zero_iff, Nat.one_ne_zero, Nat.succ_ne_zero, and_false, false_and, not_false_eq_true, not_true_eq_false, ite_true, ite_false, if_true, if_false, h8, hne, k_am1, i8, eR]
    | some r =>
      rw [hq] at eR
      have eR : xm (d + 1) 15 [.ref X, .int (nI a), .int (nI (a - 1))] h = some (some (.ref r), h) := eR
      show _ = some (some (Value.int (if (true && alH (hz S) (a - 1) (pD k (a - 1))) = true then -nI 1 else nI 0)), h)
      rw [Bool.true_and, ← sr_d (t := t) d H8 hr hρ k (a - 1) (i + 1) (by omega) (by omega) (by omega), q_76_35]
      simp (disch := omega) only [q_76_37, q_76_39, q_76_42, q_76_43, q_76_44, q_76_47, q_76_48, q_76_49, q_76_50, q_76_51, q_76_52, q_76_55, q_76_58, q_76_59, q_76_60, q_76_61, q_76_62, q_76_63, q_76_64, q_76_67, q_76_70, q_76_71, og_8_5, og_7_1, o_is, o_ob, ofs_len7, ofs_len8, ↓reduceIte, k_cr, k_ci, k_oR, k_oN, k_aR, k_aN, and_true, true_and, and_self, eq_self, Nat.reduceLT, Nat.reduceLeDiff, Nat.reduceEqDiff, Nat.reduceAdd, Nat.reduceMul, Bool.true_eq_false, Bool.false_eq_true, Nat.add_sub_cancel, Nat.not_lt_zero, Nat.zero_le, k_sub, k_sb1, k_r, k_n, k_ret, k_t1, k_t0, k_nr, k_nn, k_z0, k_z1, k_zb, x_okI, lit_nI, k_in, k_cl, k_lt, k_le, k_eq, k_neg, nI_add, nI_mul, k_clt, k_cgt, k_cle, k_cge, k_ceq, bI_0, k_sh8, ne_eq, Nat.add_eq_zero_iff, Nat.one_ne_zero, Nat.succ_ne_zero, and_false, false_and, not_false_eq_true, not_true_eq_false, ite_true, ite_false, if_true, if_false, h8, hne, k_am1, i8, eR]
theorem c_stride (d : Nat) {h : xH} {X σ bd t : Nat} {SX SS S : gS} {ρ : Nat → Option Nat} (H8 : isB 8 h X SX) (r5 : sR SX 5 = .ref σ) (H7 : isB 7 h σ SS) (h1 : sI SS 1 = nI bd) (hr : ∀ i, i < 64 → sQ SX 1 i = va_rf (ρ i)) (hρ : ∀ i, i < 64 → (ρ i).isSome = hz S i) (hb : bd < 8) (ht : t < 8) (hne : bd ≠ t) : xm (d + 2) 76 [.ref X, .int (nI t)] h = some (some (.int (if alH (hz S) bd (pth (hz S) bd t) = true then sdF (hz S) bd t else nI 0)), h) := by
  have i8 : ∀ {α : Type} (f : Option α), xis h X 8 f = f := fun f => h_is H8 f
  have eR : xm (d + 1) 15 [.ref X, .int (nI bd), .int (nI t)] h = _ := c_rulesFrom d h X bd t SX ρ H8 hb ht (hr _ (by omega))
  have e := hρ (8 * bd + t) (by omega)
  rw [E_76 _ _ _ _ rfl]
  unfold pth sdF
  cases hq : ρ (8 * bd + t) with
  | some r =>
    rw [hq] at eR e
    have e : true = hz S (8 * bd + t) := e
    have eR : xm (d + 1) 15 [.ref X, .int (nI bd), .int (nI t)] h = some (some (.ref r), h) := eR
    rw [← e, if_pos rfl, if_pos rfl]
    have : alH (hz S) bd [t] = true := by
      show (hz S (8 * bd + t) && true) = true
      rw [← e]
      rfl
    rw [this, if_pos rfl]
    simp (disch := omega) only [q_76_0, q_76_1, q_76_4, q_76_7, q_76_8, q_76_9, q_76_10, q_76_11, q_76_14, q_76_17, q_76_18, q_76_19, q_76_20, hg_8_5 H8, hg_7_1 H7, ↓reduceIte, k_r, k_n, k_ret, k_t1, k_nr, k_nn, k_ci, k_cr, x_okI, r5, h1, i8, eR]
  | none =>
    rw [hq] at eR e
    have e : false = hz S (8 * bd + t) := e
    have eR : xm (d + 1) 15 [.ref X, .int (nI bd), .int (nI t)] h = some (some .null, h) := eR
    rw [← e, if_neg (show ¬ (false = true) from by decide), if_neg (show ¬ (false = true) from by decide)]
    by_cases c : bd < t
    · have hle : ¬ t ≤ bd := by omega
      rw [if_pos c, if_pos c, ← sr_u d H8 hr hρ ht (t - bd) bd 0 (by omega) (by omega)]
      simp (disch := omega) only [q_76_0, q_76_1, q_76_4, q_76_7, q_76_8, q_76_9, q_76_10, q_76_11, q_76_14, q_76_17, q_76_18, q_76_19, q_76_20, q_76_21, q_76_22, q_76_23, q_76_26, q_76_27, q_76_30, q_76_31, q_76_32, q_76_33, og_8_5, og_7_1, o_is, o_ob, ofs_len7, ofs_len8, q_76_0, q_76_1, q_76_4, q_76_7, q_76_8, q_76_9, q_76_10, q_76_11, q_76_14, q_76_17, q_76_18, q_76_19, q_76_20, q_76_21, q_76_22, q_76_23, q_76_26, q_76_27, q_76_30, q_76_31, q_76_32, q_76_33, q_76_37, q_76_39, q_76_42, q_76_43, q_76_44, q_76_47, q_76_48, q_76_49, q_76_50, q_76_51, q_76_52, q_76_55, q_76_58, q_76_59, q_76_60, q_76_61, q_76_62, q_76_63, q_76_64, q_76_67, q_76_70, q_76_71, hg_8_5 H8, h_is H8, h_ob H8, ofs_len8, hg_7_1 H7, h_is H7, h_ob H7, ofs_len7, ↓reduceIte, k_cr, k_ci, k_oR, k_oN, k_aR, k_aN, and_true, true_and, and_self, eq_self, Nat.reduceLT, Nat.reduceLeDiff, Nat.reduceEqDiff, Nat.reduceAdd, Nat.reduceMul, Bool.true_eq_false, Bool.false_eq_true, Nat.add_sub_cancel, Nat.not_lt_zero, Nat.zero_le, k_sub, k_sb1, k_r, k_n, k_ret, k_t1, k_t0, k_nr, k_nn, k_z0, k_z1, k_zb, x_okI, lit_nI, k_in, k_cl, k_lt, k_le, k_eq, k_neg, nI_add, nI_mul, k_clt, k_cgt, k_cle, k_cge, k_ceq, bI_0, k_sh8, ne_eq, Nat.add_eq_zero_iff, Nat.one_ne_zero, Nat.succ_ne_zero, and_false, false_and, not_false_eq_true, not_true_eq_false, ite_true, ite_false, if_true, if_false, r5, h1, i8, eR, hle]
    · have hle : t ≤ bd := by omega
      rw [if_neg c, if_neg c, ← sr_d (t := t) d H8 hr hρ (bd - t) bd 0 (by omega) (by omega) (by omega)]
      simp (disch := omega) only [q_76_0, q_76_1, q_76_4, q_76_7, q_76_8, q_76_9, q_76_10, q_76_11, q_76_14, q_76_17, q_76_18, q_76_19, q_76_20, q_76_21, q_76_22, q_76_23, q_76_26, q_76_27, q_76_30, q_76_31, q_76_32, q_76_33, og_8_5, og_7_1, o_is, o_ob, ofs_len7, ofs_len8, q_76_0, q_76_1, q_76_4, q_76_7, q_76_8, q_76_9, q_76_10, q_76_11, q_76_14, q_76_17, q_76_18, q_76_19, q_76_20, q_76_21, q_76_22, q_76_23, q_76_26, q_76_27, q_76_30, q_76_31, q_76_32, q_76_33, q_76_37, q_76_39, q_76_42, q_76_43, q_76_44, q_76_47, q_76_48, q_76_49, q_76_50, q_76_51, q_76_52, q_76_55, q_76_58, q_76_59, q_76_60, q_76_61, q_76_62, q_76_63, q_76_64, q_76_67, q_76_70, q_76_71, hg_8_5 H8, h_is H8, h_ob H8, ofs_len8, hg_7_1 H7, h_is H7, h_ob H7, ofs_len7, ↓reduceIte, k_cr, k_ci, k_oR, k_oN, k_aR, k_aN, and_true, true_and, and_self, eq_self, Nat.reduceLT, Nat.reduceLeDiff, Nat.reduceEqDiff, Nat.reduceAdd, Nat.reduceMul, Bool.true_eq_false, Bool.false_eq_true, Nat.add_sub_cancel, Nat.not_lt_zero, Nat.zero_le, k_sub, k_sb1, k_r, k_n, k_ret, k_t1, k_t0, k_nr, k_nn, k_z0, k_z1, k_zb, x_okI, lit_nI, k_in, k_cl, k_lt, k_le, k_eq, k_neg, nI_add, nI_mul, k_clt, k_cgt, k_cle, k_cge, k_ceq, bI_0, k_sh8, ne_eq, Nat.add_eq_zero_iff, Nat.one_ne_zero, Nat.succ_ne_zero, and_false, false_and, not_false_eq_true, not_true_eq_false, ite_true, ite_false, if_true, if_false, r5, h1, i8, eR, hle]
theorem sdF_0 {H : Nat → Bool} {bd t : Nat} (hb : bd < 8) (ht : t < 8) (hne : bd ≠ t) : ¬ sdF H bd t = nI 0 := by
  unfold sdF
  split
  · rw [sb_eq (by omega) (by omega) (by omega)]
    omega
  · split
    · decide
    · decide
/-- the Store that is kept comes to the front -/
theorem c_keepC (d : Nat) (h : xH) (X : Nat) (SX : gS) {σ0 σ1 σ : Nat} (r5 : sR SX 5 = .ref σ0) (r6 : sR SX 6 = .ref σ1) : xm (d + 1) 115 [.ref X, .ref σ] (oh 8 h X SX) = some (none, oh 8 h X (if σ = σ1 then uR (uR SX 6 (.ref σ0)) 5 (.ref σ) else uR (uR SX 7 (.ref σ0)) 5 (.ref σ))) := by
  rw [E_115 _ _ _ _ rfl rfl]
  by_cases c : σ = σ1
  · rw [if_pos c]
    simp (disch := omega) only [q_115_0, q_115_1, q_115_2, q_115_5, q_115_8, q_115_9, q_115_10, q_115_13, q_115_16, q_115_19, q_115_20, q_115_21, q_115_24, q_115_27, q_115_28, q_115_29, q_115_32, og_8_6, op_8_6, og_8_5, op_8_5, og_8_7, op_8_7, o_is, o_ob, ofs_len8, ↓reduceIte, k_cr, k_ci, k_oR, k_oN, k_aR, k_aN, and_true, true_and, and_self, eq_self, Nat.reduceLT, Nat.reduceLeDiff, Nat.reduceEqDiff, Nat.reduceAdd, Nat.reduceMul, Bool.true_eq_false, Bool.false_eq_true, Nat.add_sub_cancel, Nat.not_lt_zero, Nat.zero_le, k_sub, k_sb1, k_r, k_n, k_ret, k_t1, k_t0, k_nr, k_nn, k_z0, k_z1, k_zb, x_okI, lit_nI, k_in, k_cl, k_lt, k_le, k_eq, k_neg, nI_add, nI_mul, k_clt, k_cgt, k_cle, k_cge, k_ceq, bI_0, k_sh8, ne_eq, Nat.add_eq_zero_iff, Nat.one_ne_zero, Nat.succ_ne_zero, and_false, false_and, not_false_eq_true, not_true_eq_false, ite_true, ite_false, if_true, if_false, r5, r6, k_sam, c]
  · rw [if_neg c]
    simp (disch := omega) only [q_115_0, q_115_1, q_115_2, q_115_5, q_115_8, q_115_9, q_115_10, q_115_13, q_115_16, q_115_19, q_115_20, q_115_21, q_115_24, q_115_27, q_115_28, q_115_29, q_115_32, og_8_6, op_8_6, og_8_5, op_8_5, og_8_7, op_8_7, o_is, o_ob, ofs_len8, ↓reduceIte, k_cr, k_ci, k_oR, k_oN, k_aR, k_aN, and_true, true_and, and_self, eq_self, Nat.reduceLT, Nat.reduceLeDiff, Nat.reduceEqDiff, Nat.reduceAdd, Nat.reduceMul, Bool.true_eq_false, Bool.false_eq_true, Nat.add_sub_cancel, Nat.not_lt_zero, Nat.zero_le, k_sub, k_sb1, k_r, k_n, k_ret, k_t1, k_t0, k_nr, k_nn, k_z0, k_z1, k_zb, x_okI, lit_nI, k_in, k_cl, k_lt, k_le, k_eq, k_neg, nI_add, nI_mul, k_clt, k_cgt, k_cle, k_cge, k_ceq, bI_0, k_sh8, ne_eq, Nat.add_eq_zero_iff, Nat.one_ne_zero, Nat.succ_ne_zero, and_false, false_and, not_false_eq_true, not_true_eq_false, ite_true, ite_false, if_true, if_false, r5, r6, k_sam, c]
/-- three Stores: THE STATE and two to spare -/
def st3 (G : gG) (h : xH) (SX : gS) (κ : Nat → Nat → Nat) (cN mN : Nat → Nat) (bd : Nat) (V : vL) (mt : Nat) : Prop := ∃ σ0 σ1 σ2 g0 g1 g2 SS0 SS1 SS2 n1 n2 m0 m1 m2 ν0 ν1 ν2 SV0 SV1 SV2, (sR SX 5 = .ref σ0 ∧ sR SX 6 = .ref σ1 ∧ sR SX 7 = .ref σ2) ∧ ((1 < g0 ∧ g0 < 5) ∧ (1 < g1 ∧ g1 < 5) ∧ (1 < g2 ∧ g2 < 5) ∧ g0 ≠ g1 ∧ g0 ≠ g2 ∧ g1 ≠ g2) ∧ cSt g0 G h σ0 SS0 V.length m0 ν0 SV0 ∧ cSt g1 G h σ1 SS1 n1 m1 ν1 SV1 ∧ cSt g2 G h σ2 SS2 n2 m2 ν2 SV2 ∧ sI SS0 1 = nI bd ∧ (∀ j v, V[j]? = some v → svC κ cN mN bd (SV0 j) v) ∧ mt = m0 + m1 + m2
/-- what a way leaves alone -/
def tkG (G G' : gG) (h h' : xH) (X Kc R m m' : Nat) : Prop := (∀ q, q < h.2.2.1 → G' q = G q) ∧ (∀ q, q < h.2.2.1 → ¬ (1 < (G q).1 ∧ (G q).1 < 5) → G q ≠ (0, X) → G q ≠ (0, Kc) → G q ≠ (0, R) → h'.1 q = h.1 q) ∧ h'.2.1 = h.2.1 ∧ m ≤ m' ∧ h'.2.2.1 + 3 * m = h.2.2.1 + 3 * m' ∧ h'.2.2.2 + 78 * m = h.2.2.2 + 78 * m'
theorem tkG.trans {G G' G'' : gG} {h h' h'' : xH} {X Kc R m m' m'' : Nat} (a : tkG G G' h h' X Kc R m m') (b : tkG G' G'' h' h'' X Kc R m' m'') : tkG G G'' h h'' X Kc R m m'' := by
  obtain ⟨a1, a2, a3, a4, a5, a6⟩ := a
  obtain ⟨b1, b2, b3, b4, b5, b6⟩ := b
  refine ⟨fun q hq => (b1 q (by omega)).trans (a1 q hq), fun q hq c1 c2 c3 c4 => ?_, b3.trans a3, by omega, by omega, by omega⟩
  have e := a1 q hq
  exact (b2 q (by omega) (by rw [e]; exact c1) (by rw [e]; exact c2) (by rw [e]; exact c3) (by rw [e]; exact c4)).trans (a2 q hq c1 c2 c3 c4)
theorem tkG.n {G G' : gG} {h h' : xH} {X Kc R m m' : Nat} (a : tkG G G' h h' X Kc R m m') : h.2.2.1 ≤ h'.2.2.1 := by
  have a4 := a.2.2.2.1
  have a5 := a.2.2.2.2.1
  omega
theorem tkW.G {G G' : gG} {h h' : xH} {ga gb X Kc R m m' : Nat} (a : tkW G G' h h' ga gb Kc R m m') (hga : 1 < ga ∧ ga < 5) (hgb : 1 < gb ∧ gb < 5) (k : Nat) : tkG G G' h h' X Kc R (k + m) (k + m') := by
  obtain ⟨a1, a2, a3, a4, a5, a6⟩ := a
  exact ⟨a1, fun q hq c1 _ c3 c4 => a2 q hq (fun e => c1 (by rw [e]; exact hga)) (fun e => c1 (by rw [e]; exact hgb)) c3 c4, a3, by omega, by omega, by omega⟩
theorem tkG.oh6 {G : gG} {h : xH} {X Kc R m : Nat} (ho : own G 0 6 Kc) (S : gS) : tkG G G h (oh 6 h Kc S) X Kc R m m := ⟨fun _ _ => rfl, fun q _ _ _ c _ => oh_same (own_out ho c), rfl, Nat.le_refl _, rfl, rfl⟩
theorem tkG.oh8 {G : gG} {h : xH} {X Kc R m : Nat} (ho : own G 0 8 X) (S : gS) : tkG G G h (oh 8 h X S) X Kc R m m := ⟨fun _ _ => rfl, fun q _ _ c _ _ => oh_same (own_out ho c), rfl, Nat.le_refl _, rfl, rfl⟩
def cF9 (k : Nat) : Bool := decide (k = 9) || decide (k = 10) || decide (k = 11) || decide (k = 12)
/-- what travel answers, and what it leaves -/
def tvA (κ : Nat → Nat → Nat) (cN mN : Nat → Nat) (bd t : Nat) (V : vL) (fg : Bool) (G' : gG) (h' : xH) (SX SX' SC SC' : gS) (mt' : Nat) (run : Option xR) : (rfT × Nat) ⊕ (vL × Nat × Nat) → Prop
  | .inl q => (∃ SC0, fr cF9 SC SC0 ∧ sI SC0 12 = nI q.2 ∧ SC' = rfC SC0 (nI q.1.1) (oI q.1.2.1) (oI q.1.2.2.1) q.1.2.2.2.1 q.1.2.2.2.2) ∧ SX' = SX ∧ st3 G' h' SX' κ cN mN bd V mt' ∧ run = some (some (.int (-nI 1)), h')
  | .inr r => (∃ SC0, fr cF9 SC SC0 ∧ SC' = uI (uI SC0 7 (nI r.2.1)) 8 (nI r.2.2)) ∧ (fg = false → SX' = SX ∧ st3 G' h' SX' κ cN mN bd V mt') ∧ (fg = true → st3 G' h' SX' κ cN mN t r.1 mt') ∧ run = some (some (.int (nI r.1.length)), h')
def r567 (k : Nat) : Bool := decide (k = 5) || decide (k = 6) || decide (k = 7)
theorem c_travel (d : Nat) {G : gG} {h : xH} {X Kc R bd t mt : Nat} {SX SC T : gS} {β : Nat → Nat} {SB : Nat → gS} {κ : Nat → Nat → Nat} {SK : Nat → Nat → gS} {S : gS} {cN mN ty : Nat → Nat} {Lf : Nat → List mT} {dr fg : Bool} {V : vL} {ρ : Nat → Option Nat} (W : wyB G h X Kc SX β SB κ SK S cN mN Lf) (hK : refT S cN mN ty) (hds : dsA S cN mN ty Lf) (hRu : ∀ a b, a < 8 → b < 8 → hz S (8 * a + b) = true → ruG S cN mN ty Lf a b) (HC : hB G 0 6 h Kc SC) (HR : hB G 0 5 h R T) (rC : sR SC 0 = .ref R) (h3 : st3 G h SX κ cN mN bd V mt) (hr : ∀ i, i < 64 → sQ SX 1 i = va_rf (ρ i)) (hρ : ∀ i, i < 64 → (ρ i).isSome = hz S i) (hb : bd < 8) (ht : t < 8) (hne : bd ≠ t) (hvb : vlB S cN mN ty bd V) (h10 : sI SX 10 = bI dr) (hal : alH (hz S) bd (pth (hz S) bd t) = true) : ∃ G' h' SX' SC' T' mt', tkG G G' h h' X Kc R mt mt' ∧ hB G' 0 8 h' X SX' ∧ fr r567 SX SX' ∧ hB G' 0 6 h' Kc SC' ∧ hB G' 0 5 h' R T' ∧ tvA κ cN mN bd t V fg G' h' SX SX' SC SC' mt' (xm (d + 8) 75 [.ref X, .int (nI t), .int (bI fg)] h) (wlk (fun a b => zK S cN mN ty a b (Lf (8 * a + b))) dr (pth (hz S) bd t) bd 0 V 0 0) := by
  obtain ⟨σ0, σ1, σ2, g0, g1, g2, SS0, SS1, SS2, n1, n2, m0, m1, m2, ν0, ν1, ν2, SV0, SV1, SV2, ⟨r5, r6, r7⟩, ⟨q0, q1, q2, q01, q02, q12⟩, c0, c1, c2, h1, hV, hmt⟩ := h3
  obtain ⟨p1, p2⟩ := pth_ok (hz S) hb ht hne
  have W1 := W.1
  have W2 := W.2.1
  have XK : X ≠ Kc := W1.ne HC (by decide)
  have XR : X ≠ R := W1.ne HR (by decide)
  have KR : Kc ≠ R := HC.ne HR (by decide)
  -- start
  have HCs : hB G 0 6 (oh 6 h Kc (uI (uI (uI SC 9 (bI dr)) 10 (nI 0)) 11 (nI 0))) Kc (uI (uI (uI SC 9 (bI dr)) 10 (nI 0)) 11 (nI 0)) := hB.set HC
  have kp0 : ∀ q, G q ≠ (0, Kc) → (oh 6 h Kc (uI (uI (uI SC 9 (bI dr)) 10 (nI 0)) 11 (nI 0))).1 q = h.1 q := fun q hq => oh_same (own_out HC.2.1 hq)
  have HRs : hB G 0 5 (oh 6 h Kc (uI (uI (uI SC 9 (bI dr)) 10 (nI 0)) 11 (nI 0))) R T := HR.frame HC.2.1 (fun z => KR z.2.symm)
  have Ws : wyB G (oh 6 h Kc (uI (uI (uI SC 9 (bI dr)) 10 (nI 0)) 11 (nI 0))) X Kc SX β SB κ SK S cN mN Lf := W.keep (fun _ _ => rfl) (fun q _ hc => kp0 q (by
    rcases hc with e | e | e
    · intro z
      rw [z] at e
      cases e
    · intro z
      rw [z] at e
      cases e
    · rw [e]
      exact fun z => XK (Prod.mk.inj z).2)) (Nat.le_refl _)
  have c0s := c0.fr0 HC.2.1 (by omega) (uI (uI (uI SC 9 (bI dr)) 10 (nI 0)) 11 (nI 0))
  have c1s := c1.fr0 HC.2.1 (by omega) (uI (uI (uI SC 9 (bI dr)) 10 (nI 0)) 11 (nI 0))
  have c2s := c2.fr0 HC.2.1 (by omega) (uI (uI (uI SC 9 (bI dr)) 10 (nI 0)) 11 (nI 0))
  have fS : fr cF9 SC (uI (uI (uI SC 9 (bI dr)) 10 (nI 0)) 11 (nI 0)) := ((fr.rfl.uI (by decide)).uI (by decide)).uI (by decide)
  -- as far as the loop
  have H8 := W1.1
  have H7 := c0.1.1
  have eB : xm (d + 7) 10 [.ref X, .int (nI t)] h = _ := c_buildAt (d + 6) h X t (β t) SX H8 ht (W.2.2.1.1 t ht).1
  have eT : xm (d + 7) 76 [.ref X, .int (nI t)] h = _ := c_stride (d + 5) H8 r5 H7 h1 hr hρ hb ht hne
  rw [hal, if_pos rfl] at eT
  have sd0 := sdF_0 (H := hz S) hb ht hne
  have hne2 : ¬ t = bd := fun e => hne e.symm
  have i8 : ∀ {α : Type} (f : Option α), xis h X 8 f = f := fun f => h_is H8 f
  have i6 : ∀ {α : Type} (f : Option α), xis h Kc 6 f = f := fun f => h_is HC.1 f
  have eS : ∀ b : Bool, xm (d + 7) 77 [.ref Kc, .int (bI b)] h = some (none, oh 6 h Kc (uI (uI (uI SC 9 (bI b)) 10 (nI 0)) 11 (nI 0))) := fun b => by
    have := c_startC (d + 6) h Kc SC b
    rw [show oh 6 h Kc SC = h from HC.1] at this
    exact this
  have H8s := Ws.1.1
  have st : xm (d + 8) 75 [.ref X, .int (nI t), .int (bI fg)] h = xrun (d + 7) 75 64 [(1, .ref X), (1, .int (nI t)), (1, .int (bI fg)), (1, .int (sdF (hz S) bd t)), (1, .ref σ0), (1, .int (nI 0)), (0, .null), (0, .null)] [] (oh 6 h Kc (uI (uI (uI SC 9 (bI dr)) 10 (nI 0)) 11 (nI 0))) := by
    have eS1 := eS dr
    rw [E_75 _ _ _ _ _ rfl]
    cases dr with
    | true =>
      rw [bI_t] at eS1 h10 H8s ⊢
      simp (disch := omega) only [q_75_0, q_75_1, q_75_2, q_75_5, q_75_8, q_75_9, q_75_10, q_75_13, q_75_16, q_75_19, q_75_21, q_75_22, q_75_23, q_75_24, q_75_27, q_75_28, q_75_29, q_75_32, q_75_34, q_75_35, q_75_36, q_75_39, q_75_40, q_75_43, q_75_44, q_75_47, q_75_48, q_75_51, q_75_52, q_75_55, q_75_56, q_75_59, q_75_61, q_75_62, og_8_5, og_7_1, og_8_4, og_8_10, og_8_6, og_8_7, og_7_2, o_is, o_ob, ofs_len7, ofs_len8, q_75_0, q_75_1, q_75_2, q_75_5, q_75_8, q_75_9, q_75_10, q_75_13, q_75_16, q_75_19, q_75_21, q_75_22, q_75_23, q_75_24, q_75_27, q_75_28, q_75_29, q_75_32, q_75_34, q_75_35, q_75_36, q_75_39, q_75_40, q_75_43, q_75_44, q_75_47, q_75_48, q_75_51, q_75_52, q_75_55, q_75_56, q_75_59, q_75_61, q_75_62, q_75_66, q_75_68, q_75_71, q_75_73, q_75_76, q_75_77, q_75_80, q_75_82, q_75_83, q_75_84, q_75_87, q_75_88, q_75_91, q_75_94, q_75_95, q_75_98, q_75_100, q_75_102, q_75_104, q_75_107, q_75_108, q_75_109, q_75_112, q_75_113, q_75_115, q_75_118, q_75_120, q_75_123, q_75_126, q_75_128, q_75_130, q_75_133, q_75_134, q_75_137, q_75_139, q_75_141, q_75_143, q_75_145, q_75_148, q_75_151, q_75_152, q_75_153, q_75_155, q_75_157, q_75_160, q_75_163, q_75_164, q_75_167, q_75_170, q_75_171, q_75_174, q_75_175, q_75_177, q_75_180, q_75_182, q_75_185, hg_8_5 H8, hg_8_4 H8, hg_8_10 H8, hg_8_6 H8, hg_8_7 H8, h_is H8, h_ob H8, ofs_len8, hg_7_1 H7, hg_7_2 H7, h_is H7, h_ob H7, ofs_len7, hg_8_5 H8s, hg_8_4 H8s, hg_8_10 H8s, hg_8_6 H8s, hg_8_7 H8s, h_is H8s, h_ob H8s, ofs_len8, ↓reduceIte, k_cr, k_ci, k_oR, k_oN, k_aR, k_aN, and_true, true_and, and_self, eq_self, Nat.reduceLT, Nat.reduceLeDiff, Nat.reduceEqDiff, Nat.reduceAdd, Nat.reduceMul, Bool.true_eq_false, Bool.false_eq_true, Nat.add_sub_cancel, Nat.not_lt_zero, Nat.zero_le, k_sub, k_sb1, k_r, k_n, k_ret, k_t1, k_t0, k_nr, k_nn, k_z0, k_z1, k_zb, x_okI, lit_nI, k_in, k_cl, k_lt, k_le, k_eq, k_neg, nI_add, nI_mul, k_clt, k_cgt, k_cle, k_cge, k_ceq, bI_0, k_sh8, ne_eq, Nat.add_eq_zero_iff, Nat.one_ne_zero, Nat.succ_ne_zero, and_false, false_and, not_false_eq_true, not_true_eq_false, ite_true, ite_false, if_true, if_false, i8, i6, eB, r5, h1, hne2, eT, sd0, h10, W2, eS1]
    | false =>
      rw [bI_f] at eS1 h10 H8s ⊢
      simp (disch := omega) only [q_75_0, q_75_1, q_75_2, q_75_5, q_75_8, q_75_9, q_75_10, q_75_13, q_75_16, q_75_19, q_75_21, q_75_22, q_75_23, q_75_24, q_75_27, q_75_28, q_75_29, q_75_32, q_75_34, q_75_35, q_75_36, q_75_39, q_75_40, q_75_43, q_75_44, q_75_47, q_75_48, q_75_51, q_75_52, q_75_55, q_75_56, q_75_59, q_75_61, q_75_62, og_8_5, og_7_1, og_8_4, og_8_10, og_8_6, og_8_7, og_7_2, o_is, o_ob, ofs_len7, ofs_len8, q_75_0, q_75_1, q_75_2, q_75_5, q_75_8, q_75_9, q_75_10, q_75_13, q_75_16, q_75_19, q_75_21, q_75_22, q_75_23, q_75_24, q_75_27, q_75_28, q_75_29, q_75_32, q_75_34, q_75_35, q_75_36, q_75_39, q_75_40, q_75_43, q_75_44, q_75_47, q_75_48, q_75_51, q_75_52, q_75_55, q_75_56, q_75_59, q_75_61, q_75_62, q_75_66, q_75_68, q_75_71, q_75_73, q_75_76, q_75_77, q_75_80, q_75_82, q_75_83, q_75_84, q_75_87, q_75_88, q_75_91, q_75_94, q_75_95, q_75_98, q_75_100, q_75_102, q_75_104, q_75_107, q_75_108, q_75_109, q_75_112, q_75_113, q_75_115, q_75_118, q_75_120, q_75_123, q_75_126, q_75_128, q_75_130, q_75_133, q_75_134, q_75_137, q_75_139, q_75_141, q_75_143, q_75_145, q_75_148, q_75_151, q_75_152, q_75_153, q_75_155, q_75_157, q_75_160, q_75_163, q_75_164, q_75_167, q_75_170, q_75_171, q_75_174, q_75_175, q_75_177, q_75_180, q_75_182, q_75_185, hg_8_5 H8, hg_8_4 H8, hg_8_10 H8, hg_8_6 H8, hg_8_7 H8, h_is H8, h_ob H8, ofs_len8, hg_7_1 H7, hg_7_2 H7, h_is H7, h_ob H7, ofs_len7, hg_8_5 H8s, hg_8_4 H8s, hg_8_10 H8s, hg_8_6 H8s, hg_8_7 H8s, h_is H8s, h_ob H8s, ofs_len8, ↓reduceIte, k_cr, k_ci, k_oR, k_oN, k_aR, k_aN, and_true, true_and, and_self, eq_self, Nat.reduceLT, Nat.reduceLeDiff, Nat.reduceEqDiff, Nat.reduceAdd, Nat.reduceMul, Bool.true_eq_false, Bool.false_eq_true, Nat.add_sub_cancel, Nat.not_lt_zero, Nat.zero_le, k_sub, k_sb1, k_r, k_n, k_ret, k_t1, k_t0, k_nr, k_nn, k_z0, k_z1, k_zb, x_okI, lit_nI, k_in, k_cl, k_lt, k_le, k_eq, k_neg, nI_add, nI_mul, k_clt, k_cgt, k_cle, k_cge, k_ceq, bI_0, k_sh8, ne_eq, Nat.add_eq_zero_iff, Nat.one_ne_zero, Nat.succ_ne_zero, and_false, false_and, not_false_eq_true, not_true_eq_false, ite_true, ite_false, if_true, if_false, i8, i6, eB, r5, h1, hne2, eT, sd0, h10, W2, eS1]
  -- the first turn
  cases hP : pth (hz S) bd t with
  | nil =>
    rw [hP] at p1
    exact absurd p1 hne
  | cons b P =>
    rw [hP] at p1 p2 hal
    have hsd := sd_ok p1
    obtain ⟨-, hb8, -, -, p1'⟩ := p1
    have hal : (hz S (8 * bd + b) && alH (hz S) b P) = true := hal
    rw [Bool.and_eq_true] at hal
    rw [List.length_cons] at p2
    obtain ⟨G1, h2, SSb1, nb1, mb1, νb1, SVb1, SC1, T1, bb, ρ0, t1, t2, t3, t4, t5, t6, t7, t8⟩ := tr_it d (fg := bI fg) (l6 := (0, .null)) (l7 := (0, .null)) (sd := sdF (hz S) bd t) (t := t) (k := 0) (dr := dr) (x := 0) (y := 0) Ws hK hds HCs HRs rC hb hb8 hne ht (by decide) hsd hal.1 (Or.inl ⟨rfl, r6⟩) c0s c1s q0 q1 (fun z => q01 z.symm) h1 hV hvb rfl rfl rfl
    have c01 : cSt g0 G1 h2 σ0 SS0 V.length m0 ν0 SV0 := c0s.keep t3.1 (fun q hq e => t3.k hq (by omega) (by omega)) t3.n
    have c21 : cSt g2 G1 h2 σ2 SS2 n2 m2 ν2 SV2 := c2s.keep t3.1 (fun q hq e => t3.k hq (by omega) (by omega)) t3.n
    have kG1 : tkG G G1 h h2 X Kc R (m0 + m2 + m1) (m0 + m2 + mb1) := (tkG.oh6 HC.2.1 _).trans ((t3.W g0 0).G q0 q1 (m0 + m2) |> fun z => by
      rw [Nat.zero_add, Nat.zero_add] at z
      exact z)
    have W1' : wyB G1 h2 X Kc SX β SB κ SK S cN mN Lf := Ws.keep t3.1 (fun q hq hc => t3.2.1 q hq (by
      rcases hc with e | e | e
      · omega
      · omega
      · rw [e]
        show 0 ≠ g1
        omega) (by
      rcases hc with e | e | e
      · intro z
        rw [z] at e
        cases e
      · intro z
        rw [z] at e
        cases e
      · rw [e]
        exact fun z => XK (Prod.mk.inj z).2) (by
      rcases hc with e | e | e
      · intro z
        rw [z] at e
        cases e
      · intro z
        rw [z] at e
        cases e
      · rw [e]
        exact fun z => XR (Prod.mk.inj z).2)) t3.n
    show ∃ G' h' SX' SC' T' mt', tkG G G' h h' X Kc R mt mt' ∧ hB G' 0 8 h' X SX' ∧ fr r567 SX SX' ∧ hB G' 0 6 h' Kc SC' ∧ hB G' 0 5 h' R T' ∧ tvA κ cN mN bd t V fg G' h' SX SX' SC SC' mt' _ (match stZ (zK S cN mN ty bd b (Lf (8 * bd + b))) dr V with
      | .inl q => .inl (q, 0)
      | .inr r => wlk (fun a b => zK S cN mN ty a b (Lf (8 * a + b))) dr P b 1 (toV r.1) (0 + r.2.1) (0 + r.2.2))
    cases hq : stZ (zK S cN mN ty bd b (Lf (8 * bd + b))) dr V with
    | inl q =>
      rw [hq] at t8
      obtain ⟨u1, SC0, u2, u3, u4⟩ := t8
      refine ⟨G1, h2, SX, SC1, T1, m0 + m2 + mb1, ?_, W1'.1, fr.rfl, t4, t5, ⟨SC0, fS.trans (u2.mono (fun k hk => ?_)), u3, u4⟩, rfl, ⟨σ0, σ1, σ2, g0, g1, g2, SS0, SSb1, SS2, nb1, n2, m0, mb1, m2, ν0, νb1, ν2, SV0, SVb1, SV2, ⟨r5, r6, r7⟩, ⟨q0, q1, q2, q01, q02, q12⟩, c01, t6, c21, h1, hV, by omega⟩, st.trans (t1 u1)⟩
      · rw [show mt = m0 + m2 + m1 by omega]
        exact kG1
      · unfold cF9 at hk
        unfold cF
        simp only [Bool.or_eq_false_iff, decide_eq_false_iff_not] at hk ⊢
        omega
    | inr r =>
      rw [hq] at t8
      obtain ⟨u1, u2, u3, u4, u5, u6⟩ := t8
      obtain ⟨w1, w2, w3⟩ := st_next hK hb (hRu bd b hb hb8 hal.1) hvb hq
      have el : (toV r.1).length = nb1 := (List.length_map _).trans u5.1
      rw [← el] at t6
      obtain ⟨G', h', SC', T', SSa', na', ma', νa', SVa', SSb', nb', mb', νb', SVb', i1, i2, i3, i4, i5, i6'⟩ := tr_loop d (fg := bI fg) (dr := dr) (bd := bd) (β := β) (SB := SB) (SK := SK) (SX := SX) hK hds hRu ht P b 1 (0 + r.2.1) (0 + r.2.2) σ1 σ2 g1 g2 mb1 n2 m2 (toV r.1) G1 h2 SC1 T1 SSb1 SS2 νb1 ν2 SVb1 SV2 (1, .ref σ1) (1, .ref ρ0) p1' hal.2 (by omega) (Or.inl ⟨rfl, r7, r6⟩) W1' t4 t5 (((u2 0 (by decide)).2.2.2.2.1).trans rC) t6 c21 q1 q2 (fun z => q12 z.symm) t7 (fun j v hj => by
        obtain ⟨y1, y2, y3⟩ := toV_get hj
        subst y3
        obtain ⟨z1, z2, z3, z4, z5, z6⟩ := u5.2 j y1 y2
        exact ⟨z2, z3, z4, z5⟩) w1 (((u2 9 (by decide)).1).trans rfl) u3 u4
      have c02 : cSt g0 G' h' σ0 SS0 V.length m0 ν0 SV0 := c01.keep i3.1 (fun q hq e => i3.2.1 q hq (by omega) (by omega) (fun z => by rw [z] at e; change 0 = g0 at e; omega) (fun z => by rw [z] at e; change 0 = g0 at e; omega)) i3.n
      have H8' : hB G' 0 8 h' X SX := W1'.1.keep (by decide) i3.1 (fun q hq e => i3.2.1 q hq (by rw [e]; show 0 ≠ g1; omega) (by rw [e]; show 0 ≠ g2; omega) (by rw [e]; exact fun z => XK (Prod.mk.inj z).2) (by rw [e]; exact fun z => XR (Prod.mk.inj z).2)) i3.n
      have kG2 : tkG G G' h h' X Kc R mt (m0 + ma' + mb') := by
        have a := kG1.trans (m'' := m0 + (ma' + mb')) ((show m0 + m2 + mb1 = m0 + (mb1 + m2) by omega) ▸ (i3.G (X := X) q1 q2 m0))
        rw [show mt = m0 + m2 + m1 by omega, show m0 + ma' + mb' = m0 + (ma' + mb') by omega]
        exact a
      have fC : ∀ {Sx : gS}, fr cF SC1 Sx → fr cF9 SC Sx := fun hx => fS.trans ((u2.trans hx).mono (fun k hk => by
        unfold cF9 at hk
        unfold cF
        simp only [Bool.or_eq_false_iff, decide_eq_false_iff_not] at hk ⊢
        omega))
      have s12 : σ1 ≠ σ2 := fun e => by
        have e1 := i1.1.2.1 σ1 (by unfold ofp; simp)
        have e2 := i2.1.2.1 σ2 (by unfold ofp; simp)
        rw [e, e2] at e1
        exact q12 (Prod.mk.inj e1).1.symm
      show ∃ G' h' SX' SC' T' mt', tkG G G' h h' X Kc R mt mt' ∧ hB G' 0 8 h' X SX' ∧ fr r567 SX SX' ∧ hB G' 0 6 h' Kc SC' ∧ hB G' 0 5 h' R T' ∧ tvA κ cN mN bd t V fg G' h' SX SX' SC SC' mt' _ (wlk (fun a b => zK S cN mN ty a b (Lf (8 * a + b))) dr P b 1 (toV r.1) (0 + r.2.1) (0 + r.2.2))
      rw [st, t2 u1]
      cases hw : wlk (fun a b => zK S cN mN ty a b (Lf (8 * a + b))) dr P b 1 (toV r.1) (0 + r.2.1) (0 + r.2.2) with
      | inl q =>
        rw [hw] at i6'
        obtain ⟨⟨SC0, y1, y2, y3⟩, y4⟩ := i6'
        exact ⟨G', h', SX, SC', T', m0 + ma' + mb', kG2, H8', fr.rfl, i4, i5, ⟨SC0, fC y1, y2, y3⟩, rfl, ⟨σ0, σ1, σ2, g0, g1, g2, SS0, SSa', SSb', na', nb', m0, ma', mb', ν0, νa', νb', SV0, SVa', SVb', ⟨r5, r6, r7⟩, ⟨q0, q1, q2, q01, q02, q12⟩, c02, i1, i2, h1, hV, rfl⟩, y4⟩
      | inr r2 =>
        rw [hw] at i6'
        obtain ⟨y1, y2, y3, y4⟩ := i6'
        have H8n := H8'.1
        have HCn := i4.1
        -- finish
        have eF : xm (d + 7) 114 [.ref Kc] h' = some (none, oh 6 h' Kc (uI (uI SC' 7 (nI r2.2.1)) 8 (nI r2.2.2))) := by
          have := c_finishC (d + 6) h' Kc SC'
          rw [show oh 6 h' Kc SC' = h' from HCn, y2, y3] at this
          exact this
        have c0f := c02.fr0 i4.2.1 (by omega) (uI (uI SC' 7 (nI r2.2.1)) 8 (nI r2.2.2))
        have c1f := i1.fr0 i4.2.1 (by omega) (uI (uI SC' 7 (nI r2.2.1)) 8 (nI r2.2.2))
        have c2f := i2.fr0 i4.2.1 (by omega) (uI (uI SC' 7 (nI r2.2.1)) 8 (nI r2.2.2))
        have H8f : hB G' 0 8 (oh 6 h' Kc (uI (uI SC' 7 (nI r2.2.1)) 8 (nI r2.2.2))) X SX := H8'.frame i4.2.1 (fun z => XK z.2)
        have HRf : hB G' 0 5 (oh 6 h' Kc (uI (uI SC' 7 (nI r2.2.1)) 8 (nI r2.2.2))) R T' := i5.frame i4.2.1 (fun z => KR z.2.symm)
        have HCf : hB G' 0 6 (oh 6 h' Kc (uI (uI SC' 7 (nI r2.2.1)) 8 (nI r2.2.2))) Kc (uI (uI SC' 7 (nI r2.2.1)) 8 (nI r2.2.2)) := hB.set i4
        have i6n : ∀ {α : Type} (f : Option α), xis h' Kc 6 f = f := fun f => h_is HCn f
        have i8f : ∀ {α : Type} (f : Option α), xis (oh 6 h' Kc (uI (uI SC' 7 (nI r2.2.1)) 8 (nI r2.2.2))) X 8 f = f := fun f => h_is H8f.1 f
        cases fg with
        | false =>
          rw [bI_f] at y4
          refine ⟨G', _, SX, _, T', m0 + ma' + mb', kG2.trans (tkG.oh6 i4.2.1 (uI (uI SC' 7 (nI r2.2.1)) 8 (nI r2.2.2))), H8f, fr.rfl, HCf, HRf, ⟨SC', fC y1, rfl⟩, fun _ => ⟨rfl, σ0, σ1, σ2, g0, g1, g2, SS0, SSa', SSb', na', nb', m0, ma', mb', ν0, νa', νb', SV0, SVa', SVb', ⟨r5, r6, r7⟩, ⟨q0, q1, q2, q01, q02, q12⟩, c0f, c1f, c2f, h1, hV, rfl⟩, fun e => (by cases e), ?_⟩
          rw [bI_f]
          rcases y4 with ⟨⟨v1, v2, v3⟩, k2, l6, l7, v4⟩ | ⟨⟨v1, v2, v3⟩, k2, l6, l7, v4⟩
          · have H7f := c1f.1.1
            have k2' := c1f.2.1
            rw [v1] at k2'
            rw [v4]
            simp (disch := omega) only [q_75_163, q_75_164, q_75_167, q_75_170, q_75_171, q_75_174, q_75_175, q_75_177, q_75_180, q_75_182, q_75_185, og_8_5, og_7_1, og_8_4, og_8_10, og_8_6, og_8_7, og_7_2, o_is, o_ob, ofs_len7, ofs_len8, q_75_0, q_75_1, q_75_2, q_75_5, q_75_8, q_75_9, q_75_10, q_75_13, q_75_16, q_75_19, q_75_21, q_75_22, q_75_23, q_75_24, q_75_27, q_75_28, q_75_29, q_75_32, q_75_34, q_75_35, q_75_36, q_75_39, q_75_40, q_75_43, q_75_44, q_75_47, q_75_48, q_75_51, q_75_52, q_75_55, q_75_56, q_75_59, q_75_61, q_75_62, q_75_66, q_75_68, q_75_71, q_75_73, q_75_76, q_75_77, q_75_80, q_75_82, q_75_83, q_75_84, q_75_87, q_75_88, q_75_91, q_75_94, q_75_95, q_75_98, q_75_100, q_75_102, q_75_104, q_75_107, q_75_108, q_75_109, q_75_112, q_75_113, q_75_115, q_75_118, q_75_120, q_75_123, q_75_126, q_75_128, q_75_130, q_75_133, q_75_134, q_75_137, q_75_139, q_75_141, q_75_143, q_75_145, q_75_148, q_75_151, q_75_152, q_75_153, q_75_155, q_75_157, q_75_160, q_75_163, q_75_164, q_75_167, q_75_170, q_75_171, q_75_174, q_75_175, q_75_177, q_75_180, q_75_182, q_75_185, hg_8_5 H8n, hg_8_4 H8n, hg_8_10 H8n, hg_8_6 H8n, hg_8_7 H8n, h_is H8n, h_ob H8n, ofs_len8, hg_7_1 H7f, hg_7_2 H7f, h_is H7f, h_ob H7f, ofs_len7, ↓reduceIte, k_cr, k_ci, k_oR, k_oN, k_aR, k_aN, and_true, true_and, and_self, eq_self, Nat.reduceLT, Nat.reduceLeDiff, Nat.reduceEqDiff, Nat.reduceAdd, Nat.reduceMul, Bool.true_eq_false, Bool.false_eq_true, Nat.add_sub_cancel, Nat.not_lt_zero, Nat.zero_le, k_sub, k_sb1, k_r, k_n, k_ret, k_t1, k_t0, k_nr, k_nn, k_z0, k_z1, k_zb, x_okI, lit_nI, k_in, k_cl, k_lt, k_le, k_eq, k_neg, nI_add, nI_mul, k_clt, k_cgt, k_cle, k_cge, k_ceq, bI_0, k_sh8, ne_eq, Nat.add_eq_zero_iff, Nat.one_ne_zero, Nat.succ_ne_zero, and_false, false_and, not_false_eq_true, not_true_eq_false, ite_true, ite_false, if_true, if_false, W2, i6n, eF, k2']
          · have H7f := c2f.1.1
            have k2' := c2f.2.1
            rw [v1] at k2'
            rw [v4]
            simp (disch := omega) only [q_75_163, q_75_164, q_75_167, q_75_170, q_75_171, q_75_174, q_75_175, q_75_177, q_75_180, q_75_182, q_75_185, og_8_5, og_7_1, og_8_4, og_8_10, og_8_6, og_8_7, og_7_2, o_is, o_ob, ofs_len7, ofs_len8, q_75_0, q_75_1, q_75_2, q_75_5, q_75_8, q_75_9, q_75_10, q_75_13, q_75_16, q_75_19, q_75_21, q_75_22, q_75_23, q_75_24, q_75_27, q_75_28, q_75_29, q_75_32, q_75_34, q_75_35, q_75_36, q_75_39, q_75_40, q_75_43, q_75_44, q_75_47, q_75_48, q_75_51, q_75_52, q_75_55, q_75_56, q_75_59, q_75_61, q_75_62, q_75_66, q_75_68, q_75_71, q_75_73, q_75_76, q_75_77, q_75_80, q_75_82, q_75_83, q_75_84, q_75_87, q_75_88, q_75_91, q_75_94, q_75_95, q_75_98, q_75_100, q_75_102, q_75_104, q_75_107, q_75_108, q_75_109, q_75_112, q_75_113, q_75_115, q_75_118, q_75_120, q_75_123, q_75_126, q_75_128, q_75_130, q_75_133, q_75_134, q_75_137, q_75_139, q_75_141, q_75_143, q_75_145, q_75_148, q_75_151, q_75_152, q_75_153, q_75_155, q_75_157, q_75_160, q_75_163, q_75_164, q_75_167, q_75_170, q_75_171, q_75_174, q_75_175, q_75_177, q_75_180, q_75_182, q_75_185, hg_8_5 H8n, hg_8_4 H8n, hg_8_10 H8n, hg_8_6 H8n, hg_8_7 H8n, h_is H8n, h_ob H8n, ofs_len8, hg_7_1 H7f, hg_7_2 H7f, h_is H7f, h_ob H7f, ofs_len7, ↓reduceIte, k_cr, k_ci, k_oR, k_oN, k_aR, k_aN, and_true, true_and, and_self, eq_self, Nat.reduceLT, Nat.reduceLeDiff, Nat.reduceEqDiff, Nat.reduceAdd, Nat.reduceMul, Bool.true_eq_false, Bool.false_eq_true, Nat.add_sub_cancel, Nat.not_lt_zero, Nat.zero_le, k_sub, k_sb1, k_r, k_n, k_ret, k_t1, k_t0, k_nr, k_nn, k_z0, k_z1, k_zb, x_okI, lit_nI, k_in, k_cl, k_lt, k_le, k_eq, k_neg, nI_add, nI_mul, k_clt, k_cgt, k_cle, k_cge, k_ceq, bI_0, k_sh8, ne_eq, Nat.add_eq_zero_iff, Nat.one_ne_zero, Nat.succ_ne_zero, and_false, false_and, not_false_eq_true, not_true_eq_false, ite_true, ite_false, if_true, if_false, W2, i6n, eF, k2']
        | true =>
          rw [bI_t] at y4
          have eK : ∀ σ, xm (d + 7) 115 [.ref X, .ref σ] (oh 6 h' Kc (uI (uI SC' 7 (nI r2.2.1)) 8 (nI r2.2.2))) = some (none, oh 8 (oh 6 h' Kc (uI (uI SC' 7 (nI r2.2.1)) 8 (nI r2.2.2))) X (if σ = σ1 then uR (uR SX 6 (.ref σ0)) 5 (.ref σ) else uR (uR SX 7 (.ref σ0)) 5 (.ref σ))) := fun σ => by
            have := c_keepC (d + 6) (oh 6 h' Kc (uI (uI SC' 7 (nI r2.2.1)) 8 (nI r2.2.2))) X SX (σ := σ) r5 r6
            rw [show oh 8 (oh 6 h' Kc (uI (uI SC' 7 (nI r2.2.1)) 8 (nI r2.2.2))) X SX = oh 6 h' Kc (uI (uI SC' 7 (nI r2.2.1)) 8 (nI r2.2.2)) from H8f.1] at this
            exact this
          have cX : ∀ {g σ n m : Nat} {SS : gS} {ν : Nat → Nat} {SV : Nat → gS} (SX2 : gS), 1 < g → cSt g G' (oh 6 h' Kc (uI (uI SC' 7 (nI r2.2.1)) 8 (nI r2.2.2))) σ SS n m ν SV → cSt g G' (oh 8 (oh 6 h' Kc (uI (uI SC' 7 (nI r2.2.1)) 8 (nI r2.2.2))) X SX2) σ SS n m ν SV := fun SX2 hg hc => hc.fr0 H8f.2.1 (by omega) SX2
          rcases y4 with ⟨⟨v1, v2, v3⟩, k2, l6, l7, v4⟩ | ⟨⟨v1, v2, v3⟩, k2, l6, l7, v4⟩
          · have eK1 := eK σ1
            rw [if_pos rfl] at eK1
            rw [v1] at c1f
            have c1x := cX (uR (uR SX 6 (.ref σ0)) 5 (.ref σ1)) q1.1 c1f
            have H7f := c1x.1.1
            have k2' := c1x.2.1
            have fX : fr r567 SX (uR (uR SX 6 (.ref σ0)) 5 (.ref σ1)) := (fr.rfl.uR (by decide)).uR (by decide)
            refine ⟨G', _, _, _, T', ma' + m0 + mb', ?_, hB.set H8f, fX, HCf.frame H8f.2.1 (fun z => XK z.2.symm), HRf.frame H8f.2.1 (fun z => XR z.2.symm), ⟨SC', fC y1, rfl⟩, fun e => (by cases e), fun _ => ⟨σ1, σ0, σ2, g1, g0, g2, SSa', SS0, SSb', V.length, nb', ma', m0, mb', νa', ν0, νb', SVa', SV0, SVb', ⟨rfl, rfl, r7⟩, ⟨q1, q0, q2, fun z => q01 z.symm, q12, q02⟩, c1x, cX _ q0.1 c0f, cX _ q2.1 c2f, v2, v3, rfl⟩, ?_⟩
            · rw [show ma' + m0 + mb' = m0 + ma' + mb' by omega]
              exact (kG2.trans (tkG.oh6 i4.2.1 (uI (uI SC' 7 (nI r2.2.1)) 8 (nI r2.2.2)))).trans (tkG.oh8 H8f.2.1 _)
            · rw [bI_t, v4]
              simp (disch := omega) only [q_75_163, q_75_164, q_75_167, q_75_170, q_75_171, q_75_174, q_75_175, q_75_177, q_75_180, q_75_182, q_75_185, og_8_5, og_7_1, og_8_4, og_8_10, og_8_6, og_8_7, og_7_2, o_is, o_ob, ofs_len7, ofs_len8, q_75_0, q_75_1, q_75_2, q_75_5, q_75_8, q_75_9, q_75_10, q_75_13, q_75_16, q_75_19, q_75_21, q_75_22, q_75_23, q_75_24, q_75_27, q_75_28, q_75_29, q_75_32, q_75_34, q_75_35, q_75_36, q_75_39, q_75_40, q_75_43, q_75_44, q_75_47, q_75_48, q_75_51, q_75_52, q_75_55, q_75_56, q_75_59, q_75_61, q_75_62, q_75_66, q_75_68, q_75_71, q_75_73, q_75_76, q_75_77, q_75_80, q_75_82, q_75_83, q_75_84, q_75_87, q_75_88, q_75_91, q_75_94, q_75_95, q_75_98, q_75_100, q_75_102, q_75_104, q_75_107, q_75_108, q_75_109, q_75_112, q_75_113, q_75_115, q_75_118, q_75_120, q_75_123, q_75_126, q_75_128, q_75_130, q_75_133, q_75_134, q_75_137, q_75_139, q_75_141, q_75_143, q_75_145, q_75_148, q_75_151, q_75_152, q_75_153, q_75_155, q_75_157, q_75_160, q_75_163, q_75_164, q_75_167, q_75_170, q_75_171, q_75_174, q_75_175, q_75_177, q_75_180, q_75_182, q_75_185, hg_8_5 H8n, hg_8_4 H8n, hg_8_10 H8n, hg_8_6 H8n, hg_8_7 H8n, h_is H8n, h_ob H8n, ofs_len8, hg_7_1 H7f, hg_7_2 H7f, h_is H7f, h_ob H7f, ofs_len7, ↓reduceIte, k_cr, k_ci, k_oR, k_oN, k_aR, k_aN, and_true, true_and, and_self, eq_self, Nat.reduceLT, Nat.reduceLeDiff, Nat.reduceEqDiff, Nat.reduceAdd, Nat.reduceMul, Bool.true_eq_false, Bool.false_eq_true, Nat.add_sub_cancel, Nat.not_lt_zero, Nat.zero_le, k_sub, k_sb1, k_r, k_n, k_ret, k_t1, k_t0, k_nr, k_nn, k_z0, k_z1, k_zb, x_okI, lit_nI, k_in, k_cl, k_lt, k_le, k_eq, k_neg, nI_add, nI_mul, k_clt, k_cgt, k_cle, k_cge, k_ceq, bI_0, k_sh8, ne_eq, Nat.add_eq_zero_iff, Nat.one_ne_zero, Nat.succ_ne_zero, and_false, false_and, not_false_eq_true, not_true_eq_false, ite_true, ite_false, if_true, if_false, W2, i6n, i8f, eF, eK1, k2']
          · have eK1 := eK σ2
            rw [if_neg (fun e => s12 e.symm)] at eK1
            rw [v1] at c2f
            have c2x := cX (uR (uR SX 7 (.ref σ0)) 5 (.ref σ2)) q2.1 c2f
            have H7f := c2x.1.1
            have k2' := c2x.2.1
            have fX : fr r567 SX (uR (uR SX 7 (.ref σ0)) 5 (.ref σ2)) := (fr.rfl.uR (by decide)).uR (by decide)
            refine ⟨G', _, _, _, T', mb' + ma' + m0, ?_, hB.set H8f, fX, HCf.frame H8f.2.1 (fun z => XK z.2.symm), HRf.frame H8f.2.1 (fun z => XR z.2.symm), ⟨SC', fC y1, rfl⟩, fun e => (by cases e), fun _ => ⟨σ2, σ1, σ0, g2, g1, g0, SSb', SSa', SS0, na', V.length, mb', ma', m0, νb', νa', ν0, SVb', SVa', SV0, ⟨rfl, r6, rfl⟩, ⟨q2, q1, q0, fun z => q12 z.symm, fun z => q02 z.symm, fun z => q01 z.symm⟩, c2x, cX _ q1.1 c1f, cX _ q0.1 c0f, v2, v3, rfl⟩, ?_⟩
            · rw [show mb' + ma' + m0 = m0 + ma' + mb' by omega]
              exact (kG2.trans (tkG.oh6 i4.2.1 (uI (uI SC' 7 (nI r2.2.1)) 8 (nI r2.2.2)))).trans (tkG.oh8 H8f.2.1 _)
            · rw [bI_t, v4]
              simp (disch := omega) only [q_75_163, q_75_164, q_75_167, q_75_170, q_75_171, q_75_174, q_75_175, q_75_177, q_75_180, q_75_182, q_75_185, og_8_5, og_7_1, og_8_4, og_8_10, og_8_6, og_8_7, og_7_2, o_is, o_ob, ofs_len7, ofs_len8, q_75_0, q_75_1, q_75_2, q_75_5, q_75_8, q_75_9, q_75_10, q_75_13, q_75_16, q_75_19, q_75_21, q_75_22, q_75_23, q_75_24, q_75_27, q_75_28, q_75_29, q_75_32, q_75_34, q_75_35, q_75_36, q_75_39, q_75_40, q_75_43, q_75_44, q_75_47, q_75_48, q_75_51, q_75_52, q_75_55, q_75_56, q_75_59, q_75_61, q_75_62, q_75_66, q_75_68, q_75_71, q_75_73, q_75_76, q_75_77, q_75_80, q_75_82, q_75_83, q_75_84, q_75_87, q_75_88, q_75_91, q_75_94, q_75_95, q_75_98, q_75_100, q_75_102, q_75_104, q_75_107, q_75_108, q_75_109, q_75_112, q_75_113, q_75_115, q_75_118, q_75_120, q_75_123, q_75_126, q_75_128, q_75_130, q_75_133, q_75_134, q_75_137, q_75_139, q_75_141, q_75_143, q_75_145, q_75_148, q_75_151, q_75_152, q_75_153, q_75_155, q_75_157, q_75_160, q_75_163, q_75_164, q_75_167, q_75_170, q_75_171, q_75_174, q_75_175, q_75_177, q_75_180, q_75_182, q_75_185, hg_8_5 H8n, hg_8_4 H8n, hg_8_10 H8n, hg_8_6 H8n, hg_8_7 H8n, h_is H8n, h_ob H8n, ofs_len8, hg_7_1 H7f, hg_7_2 H7f, h_is H7f, h_ob H7f, ofs_len7, ↓reduceIte, k_cr, k_ci, k_oR, k_oN, k_aR, k_aN, and_true, true_and, and_self, eq_self, Nat.reduceLT, Nat.reduceLeDiff, Nat.reduceEqDiff, Nat.reduceAdd, Nat.reduceMul, Bool.true_eq_false, Bool.false_eq_true, Nat.add_sub_cancel, Nat.not_lt_zero, Nat.zero_le, k_sub, k_sb1, k_r, k_n, k_ret, k_t1, k_t0, k_nr, k_nn, k_z0, k_z1, k_zb, x_okI, lit_nI, k_in, k_cl, k_lt, k_le, k_eq, k_neg, nI_add, nI_mul, k_clt, k_cgt, k_cle, k_cge, k_ceq, bI_0, k_sh8, ne_eq, Nat.add_eq_zero_iff, Nat.one_ne_zero, Nat.succ_ne_zero, and_false, false_and, not_false_eq_true, not_true_eq_false, ite_true, ite_false, if_true, if_false, W2, i6n, i8f, eF, eK1, k2']
/-- no way, or none of these BUILDS -/
theorem c_travel_no (d : Nat) {h : xH} {X σ bd : Nat} {SX SS S : gS} {t st : Int32} {β : Nat → Nat} {ρ : Nat → Option Nat} (H8 : isB 8 h X SX) (hβ : ∀ b, b < 8 → sQ SX 0 b = .ref (β b)) (r5 : sR SX 5 = .ref σ) (H7 : isB 7 h σ SS) (h1 : sI SS 1 = nI bd) (hr : ∀ i, i < 64 → sQ SX 1 i = va_rf (ρ i)) (hρ : ∀ i, i < 64 → (ρ i).isSome = hz S i) (hb : bd < 8) : (inR t 0 7 = false ∨ t = nI bd → xm (d + 4) 75 [.ref X, .int t, .int st] h = some (some (.int (-nI 2)), h)) ∧ ∀ k, t = nI k → k < 8 → bd ≠ k → alH (hz S) bd (pth (hz S) bd k) = false → xm (d + 4) 75 [.ref X, .int t, .int st] h = some (some (.int (-nI 4)), h) := by
  have i8 : ∀ {α : Type} (f : Option α), xis h X 8 f = f := fun f => h_is H8 f
  refine ⟨fun hc => ?_, fun k hk hk8 hne hal => ?_⟩
  · rw [E_75 _ _ _ _ _ rfl]
    cases hi : inR t 0 7 with
    | false =>
      have eB : xm (d + 3) 10 [.ref X, .int t] h = _ := c_buildAt_n (d + 2) h X t SX H8 hi
      simp (disch := omega) only [q_75_0, q_75_1, q_75_2, q_75_5, q_75_8, q_75_9, q_75_10, q_75_13, q_75_16, q_75_19, q_75_21, q_75_22, q_75_23, q_75_24, q_75_27, q_75_28, q_75_29, q_75_32, q_75_34, q_75_35, q_75_36, q_75_39, q_75_40, q_75_43, q_75_44, q_75_47, q_75_48, q_75_51, q_75_52, q_75_55, q_75_56, q_75_59, q_75_61, q_75_62, og_8_5, og_7_1, og_8_4, og_8_10, og_8_6, og_8_7, og_7_2, o_is, o_ob, ofs_len7, ofs_len8, q_75_0, q_75_1, q_75_2, q_75_5, q_75_8, q_75_9, q_75_10, q_75_13, q_75_16, q_75_19, q_75_21, q_75_22, q_75_23, q_75_24, q_75_27, q_75_28, q_75_29, q_75_32, q_75_34, q_75_35, q_75_36, q_75_39, q_75_40, q_75_43, q_75_44, q_75_47, q_75_48, q_75_51, q_75_52, q_75_55, q_75_56, q_75_59, q_75_61, q_75_62, q_75_66, q_75_68, q_75_71, q_75_73, q_75_76, q_75_77, q_75_80, q_75_82, q_75_83, q_75_84, q_75_87, q_75_88, q_75_91, q_75_94, q_75_95, q_75_98, q_75_100, q_75_102, q_75_104, q_75_107, q_75_108, q_75_109, q_75_112, q_75_113, q_75_115, q_75_118, q_75_120, q_75_123, q_75_126, q_75_128, q_75_130, q_75_133, q_75_134, q_75_137, q_75_139, q_75_141, q_75_143, q_75_145, q_75_148, q_75_151, q_75_152, q_75_153, q_75_155, q_75_157, q_75_160, q_75_163, q_75_164, q_75_167, q_75_170, q_75_171, q_75_174, q_75_175, q_75_177, q_75_180, q_75_182, q_75_185, hg_8_5 H8, hg_8_4 H8, hg_8_10 H8, hg_8_6 H8, hg_8_7 H8, h_is H8, h_ob H8, ofs_len8, hg_7_1 H7, hg_7_2 H7, h_is H7, h_ob H7, ofs_len7, ↓reduceIte, k_cr, k_ci, k_oR, k_oN, k_aR, k_aN, and_true, true_and, and_self, eq_self, Nat.reduceLT, Nat.reduceLeDiff, Nat.reduceEqDiff, Nat.reduceAdd, Nat.reduceMul, Bool.true_eq_false, Bool.false_eq_true, Nat.add_sub_cancel, Nat.not_lt_zero, Nat.zero_le, k_sub, k_sb1, k_r, k_n, k_ret, k_t1, k_t0, k_nr, k_nn, k_z0, k_z1, k_zb, x_okI, lit_nI, k_in, k_cl, k_lt, k_le, k_eq, k_neg, nI_add, nI_mul, k_clt, k_cgt, k_cle, k_cge, k_ceq, bI_0, k_sh8, ne_eq, Nat.add_eq_zero_iff, Nat.one_ne_zero, Nat.succ_ne_zero, and_false, false_and, not_false_eq_true, not_true_eq_false, ite_true, ite_false, if_true, if_false, i8, eB]
    | true =>
      have e : t = nI bd := hc.elim (fun z => by rw [hi] at z; cases z) id
      subst e
      have eB : xm (d + 3) 10 [.ref X, .int (nI bd)] h = _ := c_buildAt (d + 2) h X bd (β bd) SX H8 hb (hβ bd hb)
      simp (disch := omega) only [q_75_0, q_75_1, q_75_2, q_75_5, q_75_8, q_75_9, q_75_10, q_75_13, q_75_16, q_75_19, q_75_21, q_75_22, q_75_23, q_75_24, q_75_27, q_75_28, q_75_29, q_75_32, q_75_34, q_75_35, q_75_36, q_75_39, q_75_40, q_75_43, q_75_44, q_75_47, q_75_48, q_75_51, q_75_52, q_75_55, q_75_56, q_75_59, q_75_61, q_75_62, og_8_5, og_7_1, og_8_4, og_8_10, og_8_6, og_8_7, og_7_2, o_is, o_ob, ofs_len7, ofs_len8, q_75_0, q_75_1, q_75_2, q_75_5, q_75_8, q_75_9, q_75_10, q_75_13, q_75_16, q_75_19, q_75_21, q_75_22, q_75_23, q_75_24, q_75_27, q_75_28, q_75_29, q_75_32, q_75_34, q_75_35, q_75_36, q_75_39, q_75_40, q_75_43, q_75_44, q_75_47, q_75_48, q_75_51, q_75_52, q_75_55, q_75_56, q_75_59, q_75_61, q_75_62, q_75_66, q_75_68, q_75_71, q_75_73, q_75_76, q_75_77, q_75_80, q_75_82, q_75_83, q_75_84, q_75_87, q_75_88, q_75_91, q_75_94, q_75_95, q_75_98, q_75_100, q_75_102, q_75_104, q_75_107, q_75_108, q_75_109, q_75_112, q_75_113, q_75_115, q_75_118, q_75_120, q_75_123, q_75_126, q_75_128, q_75_130, q_75_133, q_75_134, q_75_137, q_75_139, q_75_141, q_75_143, q_75_145, q_75_148, q_75_151, q_75_152, q_75_153, q_75_155, q_75_157, q_75_160, q_75_163, q_75_164, q_75_167, q_75_170, q_75_171, q_75_174, q_75_175, q_75_177, q_75_180, q_75_182, q_75_185, hg_8_5 H8, hg_8_4 H8, hg_8_10 H8, hg_8_6 H8, hg_8_7 H8, h_is H8, h_ob H8, ofs_len8, hg_7_1 H7, hg_7_2 H7, h_is H7, h_ob H7, ofs_len7, ↓reduceIte, k_cr, k_ci, k_oR, k_oN, k_aR, k_aN, and_true, true_and, and_self, eq_self, Nat.reduceLT, Nat.reduceLeDiff, Nat.reduceEqDiff, Nat.reduceAdd, Nat.reduceMul, Bool.true_eq_false, Bool.false_eq_true, Nat.add_sub_cancel, Nat.not_lt_zero, Nat.zero_le, k_sub, k_sb1, k_r, k_n, k_ret, k_t1, k_t0, k_nr, k_nn, k_z0, k_z1, k_zb, x_okI, lit_nI, k_in, k_cl, k_lt, k_le, k_eq, k_neg, nI_add, nI_mul, k_clt, k_cgt, k_cle, k_cge, k_ceq, bI_0, k_sh8, ne_eq, Nat.add_eq_zero_iff, Nat.one_ne_zero, Nat.succ_ne_zero, and_false, false_and, not_false_eq_true, not_true_eq_false, ite_true, ite_false, if_true, if_false, i8, eB, r5, h1]
  · subst hk
    have eB : xm (d + 3) 10 [.ref X, .int (nI k)] h = _ := c_buildAt (d + 2) h X k (β k) SX H8 hk8 (hβ k hk8)
    have eT : xm (d + 3) 76 [.ref X, .int (nI k)] h = _ := c_stride (d + 1) H8 r5 H7 h1 hr hρ hb hk8 hne
    rw [hal, if_neg (by decide)] at eT
    have hne2 : ¬ k = bd := fun e => hne e.symm
    rw [E_75 _ _ _ _ _ rfl]
    simp (disch := omega) only [q_75_0, q_75_1, q_75_2, q_75_5, q_75_8, q_75_9, q_75_10, q_75_13, q_75_16, q_75_19, q_75_21, q_75_22, q_75_23, q_75_24, q_75_27, q_75_28, q_75_29, q_75_32, q_75_34, q_75_35, q_75_36, q_75_39, q_75_40, q_75_43, q_75_44, q_75_47, q_75_48, q_75_51, q_75_52, q_75_55, q_75_56, q_75_59, q_75_61, q_75_62, og_8_5, og_7_1, og_8_4, og_8_10, og_8_6, og_8_7, og_7_2, o_is, o_ob, ofs_len7, ofs_len8, q_75_0, q_75_1, q_75_2, q_75_5, q_75_8, q_75_9, q_75_10, q_75_13, q_75_16, q_75_19, q_75_21, q_75_22, q_75_23, q_75_24, q_75_27, q_75_28, q_75_29, q_75_32, q_75_34, q_75_35, q_75_36, q_75_39, q_75_40, q_75_43, q_75_44, q_75_47, q_75_48, q_75_51, q_75_52, q_75_55, q_75_56, q_75_59, q_75_61, q_75_62, q_75_66, q_75_68, q_75_71, q_75_73, q_75_76, q_75_77, q_75_80, q_75_82, q_75_83, q_75_84, q_75_87, q_75_88, q_75_91, q_75_94, q_75_95, q_75_98, q_75_100, q_75_102, q_75_104, q_75_107, q_75_108, q_75_109, q_75_112, q_75_113, q_75_115, q_75_118, q_75_120, q_75_123, q_75_126, q_75_128, q_75_130, q_75_133, q_75_134, q_75_137, q_75_139, q_75_141, q_75_143, q_75_145, q_75_148, q_75_151, q_75_152, q_75_153, q_75_155, q_75_157, q_75_160, q_75_163, q_75_164, q_75_167, q_75_170, q_75_171, q_75_174, q_75_175, q_75_177, q_75_180, q_75_182, q_75_185, hg_8_5 H8, hg_8_4 H8, hg_8_10 H8, hg_8_6 H8, hg_8_7 H8, h_is H8, h_ob H8, ofs_len8, hg_7_1 H7, hg_7_2 H7, h_is H7, h_ob H7, ofs_len7, ↓reduceIte, k_cr, k_ci, k_oR, k_oN, k_aR, k_aN, and_true, true_and, and_self, eq_self, Nat.reduceLT, Nat.reduceLeDiff, Nat.reduceEqDiff, Nat.reduceAdd, Nat.reduceMul, Bool.true_eq_false, Bool.false_eq_true, Nat.add_sub_cancel, Nat.not_lt_zero, Nat.zero_le, k_sub, k_sb1, k_r, k_n, k_ret, k_t1, k_t0, k_nr, k_nn, k_z0, k_z1, k_zb, x_okI, lit_nI, k_in, k_cl, k_lt, k_le, k_eq, k_neg, nI_add, nI_mul, k_clt, k_cgt, k_cle, k_cge, k_ceq, bI_0, k_sh8, ne_eq, Nat.add_eq_zero_iff, Nat.one_ne_zero, Nat.succ_ne_zero, and_false, false_and, not_false_eq_true, not_true_eq_false, ite_true, ite_false, if_true, if_false, i8, eB, r5, h1, hne2, eT]
