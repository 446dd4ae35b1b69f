/-! Plain public methods of the class: what they answer. -/
theorem inR_01 (x : Int32) : (inR x 0 1 = true) = (x = nI 0 ∨ x = nI 1) := by
  apply propext
  constructor
  · intro h
    obtain ⟨k, hk, rfl⟩ := inR_of (hi := 1) (by omega) h
    have : k = 0 ∨ k = 1 := by omega
    rcases this with rfl | rfl
    · exact Or.inl rfl
    · exact Or.inr rfl
  · rintro (rfl | rfl) <;> decide
theorem inR_02 (x : Int32) : (inR x 0 2 = true) = (x = nI 0 ∨ x = nI 1 ∨ x = nI 2) := by
  apply propext
  constructor
  · intro h
    obtain ⟨k, hk, rfl⟩ := inR_of (hi := 2) (by omega) h
    have : k = 0 ∨ k = 1 ∨ k = 2 := by omega
    rcases this with rfl | rfl | rfl
    · exact Or.inl rfl
    · exact Or.inr (Or.inl rfl)
    · exact Or.inr (Or.inr rfl)
  · rintro (rfl | rfl | rfl) <;> decide
theorem inR_03 (x : Int32) : (inR x 0 3 = true) = (x = nI 0 ∨ x = nI 1 ∨ x = nI 2 ∨ x = nI 3) := by
  apply propext
  constructor
  · intro h
    obtain ⟨k, hk, rfl⟩ := inR_of (hi := 3) (by omega) h
    have : k = 0 ∨ k = 1 ∨ k = 2 ∨ k = 3 := by omega
    rcases this with rfl | rfl | rfl | rfl
    · exact Or.inl rfl
    · exact Or.inr (Or.inl rfl)
    · exact Or.inr (Or.inr (Or.inl rfl))
    · exact Or.inr (Or.inr (Or.inr rfl))
  · rintro (rfl | rfl | rfl | rfl) <;> decide
theorem c_unknown (d : Nat) (h : xH) (X : Nat) (SX : gS) (x : Int32) (H : isB 8 h X SX) : xm (d + 1) 73 [.ref X, .int x] h = if inR x 0 1 = true then some (some (.int (sI SX 10)), oh 8 h X (uI SX 10 x)) else some (some (.int (-nI 2)), h) := by
  rw [E_73 _ _ _ _ rfl]
  simp (disch := omega) only [q_73_0, q_73_1, q_73_4, q_73_5, q_73_6, q_73_9, q_73_11, q_73_12, q_73_13, q_73_16, q_73_17, q_73_18, q_73_19, q_73_22, q_73_23, hg_8_10 H, hp_8_10 H, h_is H, h_ob H, ofs_len8, q_73_0, q_73_1, q_73_4, q_73_5, q_73_6, q_73_9, q_73_11, q_73_12, q_73_13, q_73_16, q_73_17, q_73_18, q_73_19, q_73_22, q_73_23, og_8_10, op_8_10, o_is, o_ob, ofs_len8, k_cr, k_ci, k_oR, k_oN, k_aR, k_aN, and_true, true_and, and_self, eq_self, Nat.reduceLT, Nat.reduceLeDiff, Nat.reduceEqDiff, Nat.reduceAdd, Nat.reduceMul, Bool.true_eq_false, Bool.false_eq_true, Nat.add_sub_cancel, Nat.not_lt_zero, Nat.zero_le, k_sub, k_sb1, k_r, k_n, k_ret, k_t1, k_t0, k_nr, k_nn, k_z0, k_z1, k_zb, x_okI, lit_nI, k_in, k_cl, k_lt, k_le, k_eq, k_neg, nI_add, nI_mul, k_clt, k_cgt, k_cle, k_cge, k_ceq, bI_0, k_sh8, ne_eq, Nat.add_eq_zero_iff, Nat.one_ne_zero, Nat.succ_ne_zero, and_false, false_and, not_false_eq_true, not_true_eq_false, ite_true, ite_false, if_true, if_false, inR_01]
  by_cases h0 : x = nI 0
  · simp [h0]
  · by_cases h1 : x = nI 1 <;> simp [h0, h1]
theorem c_lost (d : Nat) (h : xH) (X C : Nat) (SX SC : gS) (x : Int32) (H : isB 8 h X SX) (hc : sR SX 4 = .ref C) (HC : isB 6 h C SC) : xm (d + 1) 119 [.ref X, .int x] h = some (some (.int (if inR x 0 1 = true then (if x = nI 0 then sI SC 7 else sI SC 8) else -nI 2)), h) := by
  rw [E_119 _ _ _ _ rfl]
  simp (disch := omega) only [q_119_0, q_119_1, q_119_28, q_119_29, q_119_32, q_119_35, q_119_36, q_119_37, q_119_40, q_119_43, q_119_44, q_119_46, hg_8_4 H, h_is H, h_ob H, ofs_len8, hg_6_7 HC, hg_6_8 HC, h_is HC, h_ob HC, ofs_len6, k_cr, k_ci, k_oR, k_oN, k_aR, k_aN, and_true, true_and, and_self, eq_self, Nat.reduceLT, Nat.reduceLeDiff, Nat.reduceEqDiff, Nat.reduceAdd, Nat.reduceMul, Bool.true_eq_false, Bool.false_eq_true, Nat.add_sub_cancel, Nat.not_lt_zero, Nat.zero_le, k_sub, k_sb1, k_r, k_n, k_ret, k_t1, k_t0, k_nr, k_nn, k_z0, k_z1, k_zb, x_okI, lit_nI, k_in, k_cl, k_lt, k_le, k_eq, k_neg, nI_add, nI_mul, k_clt, k_cgt, k_cle, k_cge, k_ceq, bI_0, k_sh8, ne_eq, Nat.add_eq_zero_iff, Nat.one_ne_zero, Nat.succ_ne_zero, and_false, false_and, not_false_eq_true, not_true_eq_false, ite_true, ite_false, if_true, if_false, hc, inR_01]
  by_cases h0 : x = nI 0
  · rw [if_pos h0, if_pos (Or.inl h0), if_pos h0]
  · rw [if_neg h0]
    by_cases h1 : x = nI 1
    · rw [if_pos h1, if_pos (Or.inr h1), if_neg h0]
    · rw [if_neg h1, if_neg (fun q => by rcases q with q | q <;> contradiction)]
theorem c_refused (d : Nat) (h : xH) (X C : Nat) (SX SC : gS) (x : Int32) (H : isB 8 h X SX) (hc : sR SX 4 = .ref C) (HC : isB 6 h C SC) : xm (d + 1) 117 [.ref X, .int x] h = some (some (.int (if inR x 0 3 = true then (if x = nI 0 then sI SC 1 else if x = nI 1 then sI SC 2 else if x = nI 2 then sI SC 3 else sI SC 4) else -nI 2)), h) := by
  rw [E_117 _ _ _ _ rfl]
  simp (disch := omega) only [q_117_0, q_117_1, q_117_32, q_117_33, q_117_36, q_117_39, q_117_40, q_117_41, q_117_44, q_117_47, q_117_48, q_117_49, q_117_52, q_117_55, q_117_56, q_117_57, q_117_60, q_117_63, q_117_64, q_117_66, hg_8_4 H, h_is H, h_ob H, ofs_len8, hg_6_1 HC, hg_6_2 HC, hg_6_3 HC, hg_6_4 HC, h_is HC, h_ob HC, ofs_len6, k_cr, k_ci, k_oR, k_oN, k_aR, k_aN, and_true, true_and, and_self, eq_self, Nat.reduceLT, Nat.reduceLeDiff, Nat.reduceEqDiff, Nat.reduceAdd, Nat.reduceMul, Bool.true_eq_false, Bool.false_eq_true, Nat.add_sub_cancel, Nat.not_lt_zero, Nat.zero_le, k_sub, k_sb1, k_r, k_n, k_ret, k_t1, k_t0, k_nr, k_nn, k_z0, k_z1, k_zb, x_okI, lit_nI, k_in, k_cl, k_lt, k_le, k_eq, k_neg, nI_add, nI_mul, k_clt, k_cgt, k_cle, k_cge, k_ceq, bI_0, k_sh8, ne_eq, Nat.add_eq_zero_iff, Nat.one_ne_zero, Nat.succ_ne_zero, and_false, false_and, not_false_eq_true, not_true_eq_false, ite_true, ite_false, if_true, if_false, hc, inR_03]
  by_cases h0 : x = nI 0
  · rw [if_pos h0, if_pos (Or.inl h0), if_pos h0]
  · rw [if_neg h0]
    by_cases h1 : x = nI 1
    · rw [if_pos h1, if_pos (Or.inr (Or.inl h1)), if_neg h0, if_pos h1]
    · rw [if_neg h1]
      by_cases h2 : x = nI 2
      · rw [if_pos h2, if_pos (Or.inr (Or.inr (Or.inl h2))), if_neg h0, if_neg h1, if_pos h2]
      · rw [if_neg h2]
        by_cases h3 : x = nI 3
        · rw [if_pos h3, if_pos (Or.inr (Or.inr (Or.inr h3))), if_neg h0, if_neg h1, if_neg h2]
        · rw [if_neg h3, if_neg (fun q => by rcases q with q | q | q | q <;> contradiction)]
theorem c_refusedKey (d : Nat) (h : xH) (X C : Nat) (SX SC : gS) (b : Bool) (H : isB 8 h X SX) (hc : sR SX 4 = .ref C) (HC : isB 6 h C SC) : xm (d + 1) 118 [.ref X, .int (bI b)] h = some (some (.long (if b = true then sJ SC 6 else sJ SC 5)), h) := by
  rw [E_118 _ _ _ _ rfl]
  simp (disch := omega) only [q_118_0, q_118_1, q_118_4, q_118_5, q_118_8, q_118_11, q_118_14, q_118_15, q_118_18, q_118_21, hg_8_4 H, h_is H, h_ob H, ofs_len8, hg_6_6 HC, hg_6_5 HC, h_is HC, h_ob HC, ofs_len6, k_cr, k_ci, k_oR, k_oN, k_aR, k_aN, and_true, true_and, and_self, eq_self, Nat.reduceLT, Nat.reduceLeDiff, Nat.reduceEqDiff, Nat.reduceAdd, Nat.reduceMul, Bool.true_eq_false, Bool.false_eq_true, Nat.add_sub_cancel, Nat.not_lt_zero, Nat.zero_le, k_sub, k_sb1, k_r, k_n, k_ret, k_t1, k_t0, k_nr, k_nn, k_z0, k_z1, k_zb, x_okI, lit_nI, k_in, k_cl, k_lt, k_le, k_eq, k_neg, nI_add, nI_mul, k_clt, k_cgt, k_cle, k_cge, k_ceq, bI_0, k_sh8, ne_eq, Nat.add_eq_zero_iff, Nat.one_ne_zero, Nat.succ_ne_zero, and_false, false_and, not_false_eq_true, not_true_eq_false, ite_true, ite_false, if_true, if_false, hc]
  cases b <;> simp
theorem c_told (d : Nat) (h : xH) (X σ : Nat) (SX SS : gS) (x : Int32) (H : isB 8 h X SX) (hs : sR SX 5 = .ref σ) (HS : isB 7 h σ SS) : xm (d + 1) 120 [.ref X, .int x] h = some (some (.int (if inR x 0 2 = true then (if x = nI 0 then sI SS 1 else if x = nI 1 then sI SS 2 else sI SX 9) else -nI 2)), h) := by
  rw [E_120 _ _ _ _ rfl]
  simp (disch := omega) only [q_120_0, q_120_1, q_120_28, q_120_29, q_120_32, q_120_35, q_120_36, q_120_37, q_120_40, q_120_43, q_120_44, q_120_45, q_120_48, q_120_49, q_120_51, hg_8_5 H, hg_8_9 H, h_is H, h_ob H, ofs_len8, hg_7_1 HS, hg_7_2 HS, h_is HS, h_ob HS, ofs_len7, k_cr, k_ci, k_oR, k_oN, k_aR, k_aN, and_true, true_and, and_self, eq_self, Nat.reduceLT, Nat.reduceLeDiff, Nat.reduceEqDiff, Nat.reduceAdd, Nat.reduceMul, Bool.true_eq_false, Bool.false_eq_true, Nat.add_sub_cancel, Nat.not_lt_zero, Nat.zero_le, k_sub, k_sb1, k_r, k_n, k_ret, k_t1, k_t0, k_nr, k_nn, k_z0, k_z1, k_zb, x_okI, lit_nI, k_in, k_cl, k_lt, k_le, k_eq, k_neg, nI_add, nI_mul, k_clt, k_cgt, k_cle, k_cge, k_ceq, bI_0, k_sh8, ne_eq, Nat.add_eq_zero_iff, Nat.one_ne_zero, Nat.succ_ne_zero, and_false, false_and, not_false_eq_true, not_true_eq_false, ite_true, ite_false, if_true, if_false, hs, inR_02]
  by_cases h0 : x = nI 0
  · rw [if_pos h0, if_pos (Or.inl h0), if_pos h0]
  · rw [if_neg h0]
    by_cases h1 : x = nI 1
    · rw [if_pos h1, if_pos (Or.inr (Or.inl h1)), if_neg h0, if_pos h1]
    · rw [if_neg h1]
      by_cases h2 : x = nI 2
      · rw [if_pos h2, if_pos (Or.inr (Or.inr h2)), if_neg h0, if_neg h1]
      · rw [if_neg h2, if_neg (fun q => by rcases q with q | q | q <;> contradiction)]
theorem c_begin (d : Nat) (h : xH) (X σ : Nat) (SX SS : gS) (x : Int32) (β : Nat → Nat) (H : isB 8 h X SX) (hβ : ∀ b, b < 8 → sQ SX 0 b = .ref (β b)) (hs : sR SX 5 = .ref σ) (HS : isB 7 h σ SS) : xm (d + 2) 21 [.ref X, .int x] h = if inR x 0 7 = true then some (some (.int (sI SS 2)), oh 7 h σ (uI (uI SS 1 x) 2 (nI 0))) else some (some (.int (-nI 2)), h) := by
  rw [E_21 _ _ _ _ rfl]
  cases hx : inR x 0 7 with
  | false =>
    have e1 := c_buildAt_n d h X x SX H hx
    simp (disch := omega) only [q_21_0, q_21_1, q_21_2, q_21_5, q_21_8, q_21_10, q_21_11, q_21_12, q_21_15, q_21_18, q_21_19, q_21_20, q_21_23, q_21_24, q_21_27, q_21_28, hg_8_5 H, h_is H, h_ob H, ofs_len8, k_cr, k_ci, k_oR, k_oN, k_aR, k_aN, and_true, true_and, and_self, eq_self, Nat.reduceLT, Nat.reduceLeDiff, Nat.reduceEqDiff, Nat.reduceAdd, Nat.reduceMul, Bool.true_eq_false, Bool.false_eq_true, Nat.add_sub_cancel, Nat.not_lt_zero, Nat.zero_le, k_sub, k_sb1, k_r, k_n, k_ret, k_t1, k_t0, k_nr, k_nn, k_z0, k_z1, k_zb, x_okI, lit_nI, k_in, k_cl, k_lt, k_le, k_eq, k_neg, nI_add, nI_mul, k_clt, k_cgt, k_cle, k_cge, k_ceq, bI_0, k_sh8, ne_eq, Nat.add_eq_zero_iff, Nat.one_ne_zero, Nat.succ_ne_zero, and_false, false_and, not_false_eq_true, not_true_eq_false, ite_true, ite_false, if_true, if_false, e1]
  | true =>
    obtain ⟨a, ha, rfl⟩ := inR_of (hi := 7) (by omega) hx
    have e1 := c_buildAt d h X a (β a) SX H (by omega) (hβ a (by omega))
    have e2 := c_empty d h σ (nI a) SS HS
    simp (disch := omega) only [q_21_0, q_21_1, q_21_2, q_21_5, q_21_8, q_21_10, q_21_11, q_21_12, q_21_15, q_21_18, q_21_19, q_21_20, q_21_23, q_21_24, q_21_27, q_21_28, hg_8_5 H, h_is H, h_ob H, ofs_len8, hg_7_2 HS, h_is HS, h_ob HS, ofs_len7, k_cr, k_ci, k_oR, k_oN, k_aR, k_aN, and_true, true_and, and_self, eq_self, Nat.reduceLT, Nat.reduceLeDiff, Nat.reduceEqDiff, Nat.reduceAdd, Nat.reduceMul, Bool.true_eq_false, Bool.false_eq_true, Nat.add_sub_cancel, Nat.not_lt_zero, Nat.zero_le, k_sub, k_sb1, k_r, k_n, k_ret, k_t1, k_t0, k_nr, k_nn, k_z0, k_z1, k_zb, x_okI, lit_nI, k_in, k_cl, k_lt, k_le, k_eq, k_neg, nI_add, nI_mul, k_clt, k_cgt, k_cle, k_cge, k_ceq, bI_0, k_sh8, ne_eq, Nat.add_eq_zero_iff, Nat.one_ne_zero, Nat.succ_ne_zero, and_false, false_and, not_false_eq_true, not_true_eq_false, ite_true, ite_false, if_true, if_false, e1, hs, e2]
theorem c_key (d : Nat) (h : xH) (X σ n : Nat) (SX SS : gS) (ν : Nat → Nat) (SV : Nat → gS) (x : Int32) (H : isB 8 h X SX) (hs : sR SX 5 = .ref σ) (HS : isB 7 h σ SS) (hk : stOK h SS n ν SV) : xm (d + 2) 121 [.ref X, .int x] h = some (some (.long (if inR x 0 ((nI n - nI 1).toInt64) = true then sJ (SV x.toNatClampNeg) 2 else 0)), h) := by
  rw [E_121 _ _ _ _ rfl]
  have h60 := hk.2.1
  by_cases h0 : x < nI 0
  · have e1 := c_sat_n d h σ x SS HS h0
    have e2 : inR x 0 ((nI n - nI 1).toInt64) = false := by
      cases hq : inR x 0 ((nI n - nI 1).toInt64) with
      | false => rfl
      | true =>
        obtain ⟨k, hk, rfl⟩ := (inR_pred (by omega)).mp hq
        rw [k_lt (by omega) (by omega)] at h0
        omega
    rw [e2]
    simp (disch := omega) only [q_121_0, q_121_1, q_121_4, q_121_5, q_121_8, q_121_9, q_121_10, q_121_13, q_121_14, q_121_17, q_121_18, q_121_21, hg_8_5 H, h_is H, h_ob H, ofs_len8, h_is HS, h_ob HS, ofs_len7, k_cr, k_ci, k_oR, k_oN, k_aR, k_aN, and_true, true_and, and_self, eq_self, Nat.reduceLT, Nat.reduceLeDiff, Nat.reduceEqDiff, Nat.reduceAdd, Nat.reduceMul, Bool.true_eq_false, Bool.false_eq_true, Nat.add_sub_cancel, Nat.not_lt_zero, Nat.zero_le, k_sub, k_sb1, k_r, k_n, k_ret, k_t1, k_t0, k_nr, k_nn, k_z0, k_z1, k_zb, x_okI, lit_nI, k_in, k_cl, k_lt, k_le, k_eq, k_neg, nI_add, nI_mul, k_clt, k_cgt, k_cle, k_cge, k_ceq, bI_0, k_sh8, ne_eq, Nat.add_eq_zero_iff, Nat.one_ne_zero, Nat.succ_ne_zero, and_false, false_and, not_false_eq_true, not_true_eq_false, ite_true, ite_false, if_true, if_false, hs, e1]
  · obtain ⟨i, hi, rfl⟩ := nI_of h0
    have e1 := c_sat d h σ n i SS ν SV HS hk (by omega)
    by_cases h1 : i < n
    · rw [if_pos h1] at e1
      have e2 : inR (nI i) 0 ((nI n - nI 1).toInt64) = true := (inR_pred (by omega)).mpr ⟨i, h1, rfl⟩
      have hV := (hk.2.2 i h1).2
      rw [if_pos e2]
      simp (disch := omega) only [q_121_0, q_121_1, q_121_4, q_121_5, q_121_8, q_121_9, q_121_10, q_121_13, q_121_14, q_121_17, q_121_18, q_121_21, hg_8_5 H, h_is H, h_ob H, ofs_len8, h_is HS, h_ob HS, ofs_len7, hg_9_2 hV, h_is hV, h_ob hV, ofs_len9, k_cr, k_ci, k_oR, k_oN, k_aR, k_aN, and_true, true_and, and_self, eq_self, Nat.reduceLT, Nat.reduceLeDiff, Nat.reduceEqDiff, Nat.reduceAdd, Nat.reduceMul, Bool.true_eq_false, Bool.false_eq_true, Nat.add_sub_cancel, Nat.not_lt_zero, Nat.zero_le, k_sub, k_sb1, k_r, k_n, k_ret, k_t1, k_t0, k_nr, k_nn, k_z0, k_z1, k_zb, x_okI, lit_nI, k_in, k_cl, k_lt, k_le, k_eq, k_neg, nI_add, nI_mul, k_clt, k_cgt, k_cle, k_cge, k_ceq, bI_0, k_sh8, ne_eq, Nat.add_eq_zero_iff, Nat.one_ne_zero, Nat.succ_ne_zero, and_false, false_and, not_false_eq_true, not_true_eq_false, ite_true, ite_false, if_true, if_false, hs, e1]
    · rw [if_neg h1] at e1
      have e2 : ¬ inR (nI i) 0 ((nI n - nI 1).toInt64) = true := by
        intro q
        obtain ⟨k, hk, e⟩ := (inR_pred (by omega)).mp q
        rw [k_eq (by omega) (by omega)] at e
        omega
      rw [if_neg e2]
      simp (disch := omega) only [q_121_0, q_121_1, q_121_4, q_121_5, q_121_8, q_121_9, q_121_10, q_121_13, q_121_14, q_121_17, q_121_18, q_121_21, hg_8_5 H, h_is H, h_ob H, ofs_len8, h_is HS, h_ob HS, ofs_len7, k_cr, k_ci, k_oR, k_oN, k_aR, k_aN, and_true, true_and, and_self, eq_self, Nat.reduceLT, Nat.reduceLeDiff, Nat.reduceEqDiff, Nat.reduceAdd, Nat.reduceMul, Bool.true_eq_false, Bool.false_eq_true, Nat.add_sub_cancel, Nat.not_lt_zero, Nat.zero_le, k_sub, k_sb1, k_r, k_n, k_ret, k_t1, k_t0, k_nr, k_nn, k_z0, k_z1, k_zb, x_okI, lit_nI, k_in, k_cl, k_lt, k_le, k_eq, k_neg, nI_add, nI_mul, k_clt, k_cgt, k_cle, k_cge, k_ceq, bI_0, k_sh8, ne_eq, Nat.add_eq_zero_iff, Nat.one_ne_zero, Nat.succ_ne_zero, and_false, false_and, not_false_eq_true, not_true_eq_false, ite_true, ite_false, if_true, if_false, hs, e1]
theorem c_classOf (d : Nat) (h : xH) (X σ n : Nat) (SX SS : gS) (ν : Nat → Nat) (SV : Nat → gS) (w : Int64) (H : isB 8 h X SX) (hs : sR SX 5 = .ref σ) (HS : isB 7 h σ SS) (hk : stOK h SS n ν SV) : xm (d + 2) 122 [.ref X, .long w] h = some (some (.int (match fnd (fun i => sJ (SV i) 2) w n with | some i => sI (SV i) 4 | none => -nI 1)), h) := by
  rw [E_122 _ _ _ _ rfl]
  have e1 := c_sfind d h σ n SS ν SV w HS hk
  cases hf : fnd (fun i => sJ (SV i) 2) w n with
  | none =>
    rw [hf] at e1
    simp (disch := omega) only [q_122_0, q_122_1, q_122_4, q_122_5, q_122_8, q_122_9, q_122_10, q_122_13, q_122_14, q_122_17, q_122_18, q_122_21, hg_8_5 H, h_is H, h_ob H, ofs_len8, h_is HS, h_ob HS, ofs_len7, k_cr, k_ci, k_oR, k_oN, k_aR, k_aN, and_true, true_and, and_self, eq_self, Nat.reduceLT, Nat.reduceLeDiff, Nat.reduceEqDiff, Nat.reduceAdd, Nat.reduceMul, Bool.true_eq_false, Bool.false_eq_true, Nat.add_sub_cancel, Nat.not_lt_zero, Nat.zero_le, k_sub, k_sb1, k_r, k_n, k_ret, k_t1, k_t0, k_nr, k_nn, k_z0, k_z1, k_zb, x_okI, lit_nI, k_in, k_cl, k_lt, k_le, k_eq, k_neg, nI_add, nI_mul, k_clt, k_cgt, k_cle, k_cge, k_ceq, bI_0, k_sh8, ne_eq, Nat.add_eq_zero_iff, Nat.one_ne_zero, Nat.succ_ne_zero, and_false, false_and, not_false_eq_true, not_true_eq_false, ite_true, ite_false, if_true, if_false, hs, e1, oV]
  | some i =>
    rw [hf] at e1
    have hV := (hk.2.2 i (fnd_lt hf).1).2
    simp (disch := omega) only [q_122_0, q_122_1, q_122_4, q_122_5, q_122_8, q_122_9, q_122_10, q_122_13, q_122_14, q_122_17, q_122_18, q_122_21, hg_8_5 H, h_is H, h_ob H, ofs_len8, h_is HS, h_ob HS, ofs_len7, hg_9_4 hV, h_is hV, h_ob hV, ofs_len9, k_cr, k_ci, k_oR, k_oN, k_aR, k_aN, and_true, true_and, and_self, eq_self, Nat.reduceLT, Nat.reduceLeDiff, Nat.reduceEqDiff, Nat.reduceAdd, Nat.reduceMul, Bool.true_eq_false, Bool.false_eq_true, Nat.add_sub_cancel, Nat.not_lt_zero, Nat.zero_le, k_sub, k_sb1, k_r, k_n, k_ret, k_t1, k_t0, k_nr, k_nn, k_z0, k_z1, k_zb, x_okI, lit_nI, k_in, k_cl, k_lt, k_le, k_eq, k_neg, nI_add, nI_mul, k_clt, k_cgt, k_cle, k_cge, k_ceq, bI_0, k_sh8, ne_eq, Nat.add_eq_zero_iff, Nat.one_ne_zero, Nat.succ_ne_zero, and_false, false_and, not_false_eq_true, not_true_eq_false, ite_true, ite_false, if_true, if_false, hs, e1, oV]
