/-! The class: feed. -/
theorem by8 (x : Int64) (s : Nat) (hs : s ≤ 56) : (x.toUInt64 >>> UInt64.ofNat s).toInt64.toInt32.toInt8 = ((x >>> Int64.ofNat s).toInt32 &&& nI 255).toInt8 := by
  apply Int8.toBitVec_inj.mp
  apply BitVec.eq_of_getLsbD_eq
  intro i hi
  have h1 : (x >>> Int64.ofNat s).toBitVec = x.toBitVec.sshiftRight s := by
    have : (Int64.ofNat s).toBitVec.smod 64 = BitVec.ofNat 64 s := (by decide +kernel : ∀ s, s < 57 → (Int64.ofNat s).toBitVec.smod 64 = BitVec.ofNat 64 s) s (by omega)
    show x.toBitVec.sshiftRight' ((Int64.ofNat s).toBitVec.smod 64) = _
    rw [this]
    show x.toBitVec.sshiftRight (BitVec.ofNat 64 s).toNat = _
    rw [BitVec.toNat_ofNat, Nat.mod_eq_of_lt (by omega)]
  have h2 : (x.toUInt64 >>> UInt64.ofNat s).toBitVec = x.toBitVec >>> s := by
    have : (UInt64.mod (UInt64.ofNat s) 64).toBitVec = BitVec.ofNat 64 s := (by decide +kernel : ∀ s, s < 57 → (UInt64.mod (UInt64.ofNat s) 64).toBitVec = BitVec.ofNat 64 s) s (by omega)
    show x.toBitVec >>> (UInt64.mod (UInt64.ofNat s) 64).toBitVec = _
    rw [this]
    show x.toBitVec >>> (BitVec.ofNat 64 s).toNat = _
    rw [BitVec.toNat_ofNat, Nat.mod_eq_of_lt (by omega)]
  show ((((x.toUInt64 >>> UInt64.ofNat s).toBitVec).signExtend 32).signExtend 8).getLsbD i = ((((x >>> Int64.ofNat s).toBitVec.signExtend 32) &&& (nI 255).toBitVec).signExtend 8).getLsbD i
  rw [h1, h2]
  simp only [BitVec.getLsbD_signExtend, BitVec.getLsbD_and, BitVec.getLsbD_ushiftRight, BitVec.getLsbD_sshiftRight]
  have hi32 : i < 32 := by omega
  have hi64 : i < 64 := by omega
  have hm : (nI 255).toBitVec.getLsbD i = true := by
    have : ∀ i, i < 8 → (nI 255).toBitVec.getLsbD i = true := by decide
    exact this i hi
  simp only [hi, hi32, hi64, hm, decide_true, Bool.true_and, Bool.and_true, if_true]
  have e1 : s + i < 64 := by omega
  have e2 : ¬ 64 ≤ i := by omega
  simp [e1, e2]
theorem sh_l (k : Nat) (hk : k ≤ 56) : (nI k).toInt64.toUInt64 &&& Int64.toUInt64 63 = UInt64.ofNat k := (by decide +kernel : ∀ k, k < 57 → (nI k).toInt64.toUInt64 &&& Int64.toUInt64 63 = UInt64.ofNat k) k (by omega)
theorem sh_a (k : Nat) (hk : k ≤ 56) : (nI k).toInt64 &&& 63 = Int64.ofNat k := (by decide +kernel : ∀ k, k < 57 → (nI k).toInt64 &&& 63 = Int64.ofNat k) k (by omega)
/-- a byte as the class has it -/
def cby (a b : Int64) (k : Nat) : Int32 := (rby a b k).toInt8.toInt32
theorem c_by (a b : Int64) (k : Nat) (hk : k < 16) : ((if k < 8 then a else b).toUInt64 >>> ((nI (56 - 8 * (k % 8))).toInt64.toUInt64 &&& Int64.toUInt64 63)).toInt64.toInt32.toInt8.toInt32 = cby a b k := by
  unfold cby rby
  rw [sh_l _ (by omega), by8 _ _ (by omega)]
  by_cases h : k < 8
  · rw [if_pos h, if_pos h, sh_a _ (by omega), show k % 8 = k by omega]
  · rw [if_neg h, if_neg h, sh_a _ (by omega), show 56 - 8 * (k % 8) = 120 - 8 * k by omega]
theorem i8_i8 (x : Int32) : x.toInt8.toInt32.toInt8 = x.toInt8 := by
  apply Int8.toInt_inj.mp
  rw [Int32.toInt_toInt8, Int8.toInt_toInt32, Int32.toInt_toInt8]
  simp
theorem and7 (k : Nat) (hk : k < 16) : nI k &&& nI 7 = nI (k % 8) := (by decide +kernel : ∀ k, k < 16 → nI k &&& nI 7 = nI (k % 8)) k hk
def cfS (S : gS) (a b : Int64) (z j : Nat) : gS := rA S 2 (fillF (sA S 2) (cby a b) z j)
theorem c_feed_loop (d : Nat) (h : xH) (X : Nat) (S : gS) (a b : Int64) (z n : Nat) (hz : sI S 8 = nI z) (hn : n ≤ 16) (hzn : z + n ≤ 700) : ∀ (k i : Nat) (u : Nat × Value), i + k = n → xrun d 38 35 [(1, .ref X), (2, .long a), (0, .null), (2, .long b), (0, .null), (1, .int (nI n)), (1, .int (nI i)), u, (0, .null)] [] (oh 8 h X (cfS S a b z i)) = some (some (.int (nI (z + n))), oh 8 h X (uI (cfS S a b z n) 8 (nI (z + n))))
  | 0, i, u, hi => by
    have h8 : i = n := by omega
    subst h8
    rw [q_38_35]
    have e6 : sI (cfS S a b z i) 8 = nI z := hz
    simp (disch := omega) only [q_38_0, q_38_2, q_38_3, q_38_6, q_38_8, q_38_10, q_38_13, q_38_15, q_38_16, q_38_17, q_38_20, q_38_22, q_38_23, q_38_26, q_38_29, q_38_31, q_38_32, q_38_33, q_38_37, q_38_39, q_38_42, q_38_44, q_38_46, q_38_49, q_38_50, q_38_53, q_38_54, q_38_56, q_38_57, q_38_60, q_38_61, q_38_64, q_38_66, q_38_67, q_38_69, q_38_71, q_38_73, q_38_75, q_38_77, q_38_78, q_38_79, q_38_80, q_38_81, q_38_82, q_38_83, q_38_84, q_38_87, q_38_90, q_38_91, q_38_92, q_38_95, q_38_97, q_38_98, q_38_101, q_38_102, q_38_105, og_8_8, op_8_8, og_8_2, or_8_2, ow_8_2, o_is, o_ob, ofs_len8, k_cr, k_ci, k_oR, k_oN, k_aR, k_aN, and_true, true_and, and_self, eq_self, Nat.reduceLT, Nat.reduceLeDiff, Nat.reduceEqDiff, Nat.reduceAdd, Nat.reduceMul, Bool.true_eq_false, Bool.false_eq_true, Nat.add_sub_cancel, Nat.not_lt_zero, Nat.zero_le, k_sub, k_sb1, k_r, k_n, k_ret, k_t1, k_t0, k_nr, k_nn, k_z0, k_z1, k_zb, x_okI, lit_nI, k_in, k_cl, k_lt, k_le, k_eq, k_neg, nI_add, nI_mul, k_clt, k_cgt, k_cle, k_cge, k_ceq, bI_0, k_sh8, ne_eq, Nat.add_eq_zero_iff, Nat.one_ne_zero, Nat.succ_ne_zero, and_false, false_and, not_false_eq_true, not_true_eq_false, ite_true, ite_false, if_true, if_false, sI_uI, sJ_uI, sA_uI, sL_uI, sR_uI, sQ_uI, sI_uJ, sJ_uJ, sA_uJ, sL_uJ, sR_uJ, sQ_uJ, sI_uA, sJ_uA, sA_uA, sL_uA, sR_uA, sQ_uA, sI_uL, sJ_uL, sA_uL, sL_uL, sR_uL, sQ_uL, sI_uR, sJ_uR, sA_uR, sL_uR, sR_uR, sQ_uR, sI_uQ, sJ_uQ, sA_uQ, sL_uQ, sR_uQ, sQ_uQ, Nat.le_refl, e6]
  | k + 1, i, u, hi => by
    rw [q_38_35]
    have h8 : ¬ n ≤ i := by omega
    have e6 : sI (cfS S a b z i) 8 = nI z := hz
    have hu : uA (cfS S a b z i) 2 (z + i) (cby a b i) = cfS S a b z (i + 1) := by
      unfold cfS
      rw [uA_rA, fillF_s]
    have hc := c_by a b i (by omega)
    have hm : nI 56 - nI (8 * (i % 8)) = nI (56 - 8 * (i % 8)) := k_sub (by omega)
    by_cases h7 : i < 8
    · have h9 : ¬ 8 ≤ i := by omega
      rw [if_pos h7] at hc
      have ih := c_feed_loop d h X S a b z n hz hn hzn k (i + 1) (2, .long a) (by omega)
      rw [← hu, ← hc] at ih
      simp (disch := omega) only [q_38_0, q_38_2, q_38_3, q_38_6, q_38_8, q_38_10, q_38_13, q_38_15, q_38_16, q_38_17, q_38_20, q_38_22, q_38_23, q_38_26, q_38_29, q_38_31, q_38_32, q_38_33, q_38_37, q_38_39, q_38_42, q_38_44, q_38_46, q_38_49, q_38_50, q_38_53, q_38_54, q_38_56, q_38_57, q_38_60, q_38_61, q_38_64, q_38_66, q_38_67, q_38_69, q_38_71, q_38_73, q_38_75, q_38_77, q_38_78, q_38_79, q_38_80, q_38_81, q_38_82, q_38_83, q_38_84, q_38_87, q_38_90, q_38_91, q_38_92, q_38_95, q_38_97, q_38_98, q_38_101, q_38_102, q_38_105, og_8_8, op_8_8, og_8_2, or_8_2, ow_8_2, o_is, o_ob, ofs_len8, k_cr, k_ci, k_oR, k_oN, k_aR, k_aN, and_true, true_and, and_self, eq_self, Nat.reduceLT, Nat.reduceLeDiff, Nat.reduceEqDiff, Nat.reduceAdd, Nat.reduceMul, Bool.true_eq_false, Bool.false_eq_true, Nat.add_sub_cancel, Nat.not_lt_zero, Nat.zero_le, k_sub, k_sb1, k_r, k_n, k_ret, k_t1, k_t0, k_nr, k_nn, k_z0, k_z1, k_zb, x_okI, lit_nI, k_in, k_cl, k_lt, k_le, k_eq, k_neg, nI_add, nI_mul, k_clt, k_cgt, k_cle, k_cge, k_ceq, bI_0, k_sh8, ne_eq, Nat.add_eq_zero_iff, Nat.one_ne_zero, Nat.succ_ne_zero, and_false, false_and, not_false_eq_true, not_true_eq_false, ite_true, ite_false, if_true, if_false, h8, e6, h9, h7, and7, hm, i8_i8]
      exact ih
    · have h9 : 8 ≤ i := by omega
      rw [if_neg h7] at hc
      have ih := c_feed_loop d h X S a b z n hz hn hzn k (i + 1) (2, .long b) (by omega)
      rw [← hu, ← hc] at ih
      simp (disch := omega) only [q_38_0, q_38_2, q_38_3, q_38_6, q_38_8, q_38_10, q_38_13, q_38_15, q_38_16, q_38_17, q_38_20, q_38_22, q_38_23, q_38_26, q_38_29, q_38_31, q_38_32, q_38_33, q_38_37, q_38_39, q_38_42, q_38_44, q_38_46, q_38_49, q_38_50, q_38_53, q_38_54, q_38_56, q_38_57, q_38_60, q_38_61, q_38_64, q_38_66, q_38_67, q_38_69, q_38_71, q_38_73, q_38_75, q_38_77, q_38_78, q_38_79, q_38_80, q_38_81, q_38_82, q_38_83, q_38_84, q_38_87, q_38_90, q_38_91, q_38_92, q_38_95, q_38_97, q_38_98, q_38_101, q_38_102, q_38_105, og_8_8, op_8_8, og_8_2, or_8_2, ow_8_2, o_is, o_ob, ofs_len8, k_cr, k_ci, k_oR, k_oN, k_aR, k_aN, and_true, true_and, and_self, eq_self, Nat.reduceLT, Nat.reduceLeDiff, Nat.reduceEqDiff, Nat.reduceAdd, Nat.reduceMul, Bool.true_eq_false, Bool.false_eq_true, Nat.add_sub_cancel, Nat.not_lt_zero, Nat.zero_le, k_sub, k_sb1, k_r, k_n, k_ret, k_t1, k_t0, k_nr, k_nn, k_z0, k_z1, k_zb, x_okI, lit_nI, k_in, k_cl, k_lt, k_le, k_eq, k_neg, nI_add, nI_mul, k_clt, k_cgt, k_cle, k_cge, k_ceq, bI_0, k_sh8, ne_eq, Nat.add_eq_zero_iff, Nat.one_ne_zero, Nat.succ_ne_zero, and_false, false_and, not_false_eq_true, not_true_eq_false, ite_true, ite_false, if_true, if_false, h8, e6, h9, h7, and7, hm, i8_i8]
      exact ih
theorem c_feed (d : Nat) (h : xH) (X : Nat) (S : gS) (a b : Int64) (x : Int32) (z : Nat) (H : isB 8 h X S) (hz : sI S 8 = nI z) (h7 : z ≤ 700) : xm (d + 1) 38 [.ref X, .long a, .long b, .int x] h = if inR x 1 16 = true then (if 700 < z + x.toNatClampNeg then some (some (.int (-nI 3)), h) else some (some (.int (nI (z + x.toNatClampNeg))), oh 8 h X (uI (cfS S a b z x.toNatClampNeg) 8 (nI (z + x.toNatClampNeg))))) else some (some (.int (-nI 2)), h) := by
  rw [E_38 _ _ _ _ _ _ rfl]
  cases hx : inR x 1 16 with
  | false =>
    have key : x < nI 1 ∨ nI 16 < x := by
      rcases Int32.lt_or_le x (nI 1) with q | q
      · exact Or.inl q
      · refine Or.inr ?_
        rcases Int32.lt_or_le (nI 16) x with r | r
        · exact r
        · exfalso
          have h3 := Int32.le_iff_toInt_le.mp q
          have h4 := Int32.le_iff_toInt_le.mp r
          rw [nI_toInt (by omega)] at h3 h4
          have : inR x 1 16 = true := by
            unfold inR
            rw [Bool.and_eq_true, decide_eq_true_eq, decide_eq_true_eq, Int64.le_iff_toInt_le, Int64.le_iff_toInt_le, Int32.toInt_toInt64]
            exact ⟨by simpa using h3, by simpa using h4⟩
          rw [this] at hx
          cases hx
    rcases key with q | q
    · simp (disch := omega) only [q_38_0, q_38_2, q_38_3, q_38_6, q_38_8, q_38_10, q_38_13, q_38_15, q_38_16, q_38_17, q_38_20, q_38_22, q_38_23, q_38_26, q_38_29, q_38_31, q_38_32, q_38_33, q_38_37, q_38_39, q_38_42, q_38_44, q_38_46, q_38_49, q_38_50, q_38_53, q_38_54, q_38_56, q_38_57, q_38_60, q_38_61, q_38_64, q_38_66, q_38_67, q_38_69, q_38_71, q_38_73, q_38_75, q_38_77, q_38_78, q_38_79, q_38_80, q_38_81, q_38_82, q_38_83, q_38_84, q_38_87, q_38_90, q_38_91, q_38_92, q_38_95, q_38_97, q_38_98, q_38_101, q_38_102, q_38_105, hg_8_8 H, hp_8_8 H, hg_8_2 H, hr_8_2 H, hw_8_2 H, h_is H, h_ob H, ofs_len8, k_cr, k_ci, k_oR, k_oN, k_aR, k_aN, and_true, true_and, and_self, eq_self, Nat.reduceLT, Nat.reduceLeDiff, Nat.reduceEqDiff, Nat.reduceAdd, Nat.reduceMul, Bool.true_eq_false, Bool.false_eq_true, Nat.add_sub_cancel, Nat.not_lt_zero, Nat.zero_le, k_sub, k_sb1, k_r, k_n, k_ret, k_t1, k_t0, k_nr, k_nn, k_z0, k_z1, k_zb, x_okI, lit_nI, k_in, k_cl, k_lt, k_le, k_eq, k_neg, nI_add, nI_mul, k_clt, k_cgt, k_cle, k_cge, k_ceq, bI_0, k_sh8, ne_eq, Nat.add_eq_zero_iff, Nat.one_ne_zero, Nat.succ_ne_zero, and_false, false_and, not_false_eq_true, not_true_eq_false, ite_true, ite_false, if_true, if_false, q]
    · by_cases r : x < nI 1
      · simp (disch := omega) only [q_38_0, q_38_2, q_38_3, q_38_6, q_38_8, q_38_10, q_38_13, q_38_15, q_38_16, q_38_17, q_38_20, q_38_22, q_38_23, q_38_26, q_38_29, q_38_31, q_38_32, q_38_33, q_38_37, q_38_39, q_38_42, q_38_44, q_38_46, q_38_49, q_38_50, q_38_53, q_38_54, q_38_56, q_38_57, q_38_60, q_38_61, q_38_64, q_38_66, q_38_67, q_38_69, q_38_71, q_38_73, q_38_75, q_38_77, q_38_78, q_38_79, q_38_80, q_38_81, q_38_82, q_38_83, q_38_84, q_38_87, q_38_90, q_38_91, q_38_92, q_38_95, q_38_97, q_38_98, q_38_101, q_38_102, q_38_105, hg_8_8 H, hp_8_8 H, hg_8_2 H, hr_8_2 H, hw_8_2 H, h_is H, h_ob H, ofs_len8, k_cr, k_ci, k_oR, k_oN, k_aR, k_aN, and_true, true_and, and_self, eq_self, Nat.reduceLT, Nat.reduceLeDiff, Nat.reduceEqDiff, Nat.reduceAdd, Nat.reduceMul, Bool.true_eq_false, Bool.false_eq_true, Nat.add_sub_cancel, Nat.not_lt_zero, Nat.zero_le, k_sub, k_sb1, k_r, k_n, k_ret, k_t1, k_t0, k_nr, k_nn, k_z0, k_z1, k_zb, x_okI, lit_nI, k_in, k_cl, k_lt, k_le, k_eq, k_neg, nI_add, nI_mul, k_clt, k_cgt, k_cle, k_cge, k_ceq, bI_0, k_sh8, ne_eq, Nat.add_eq_zero_iff, Nat.one_ne_zero, Nat.succ_ne_zero, and_false, false_and, not_false_eq_true, not_true_eq_false, ite_true, ite_false, if_true, if_false, r]
      · have r2 : ¬ x ≤ nI 16 := Int32.not_le.mpr q
        have r3 : nI 1 ≤ x := Int32.not_lt.mp r
        simp (disch := omega) only [q_38_0, q_38_2, q_38_3, q_38_6, q_38_8, q_38_10, q_38_13, q_38_15, q_38_16, q_38_17, q_38_20, q_38_22, q_38_23, q_38_26, q_38_29, q_38_31, q_38_32, q_38_33, q_38_37, q_38_39, q_38_42, q_38_44, q_38_46, q_38_49, q_38_50, q_38_53, q_38_54, q_38_56, q_38_57, q_38_60, q_38_61, q_38_64, q_38_66, q_38_67, q_38_69, q_38_71, q_38_73, q_38_75, q_38_77, q_38_78, q_38_79, q_38_80, q_38_81, q_38_82, q_38_83, q_38_84, q_38_87, q_38_90, q_38_91, q_38_92, q_38_95, q_38_97, q_38_98, q_38_101, q_38_102, q_38_105, hg_8_8 H, hp_8_8 H, hg_8_2 H, hr_8_2 H, hw_8_2 H, h_is H, h_ob H, ofs_len8, k_cr, k_ci, k_oR, k_oN, k_aR, k_aN, and_true, true_and, and_self, eq_self, Nat.reduceLT, Nat.reduceLeDiff, Nat.reduceEqDiff, Nat.reduceAdd, Nat.reduceMul, Bool.true_eq_false, Bool.false_eq_true, Nat.add_sub_cancel, Nat.not_lt_zero, Nat.zero_le, k_sub, k_sb1, k_r, k_n, k_ret, k_t1, k_t0, k_nr, k_nn, k_z0, k_z1, k_zb, x_okI, lit_nI, k_in, k_cl, k_lt, k_le, k_eq, k_neg, nI_add, nI_mul, k_clt, k_cgt, k_cle, k_cge, k_ceq, bI_0, k_sh8, ne_eq, Nat.add_eq_zero_iff, Nat.one_ne_zero, Nat.succ_ne_zero, and_false, false_and, not_false_eq_true, not_true_eq_false, ite_true, ite_false, if_true, if_false, q, r, r2, r3]
  | true =>
    obtain ⟨k, hk0, hk1, rfl⟩ := inR_1 (n := 16) (by omega) hx
    rw [k_cl (by omega)]
    simp only [if_true]
    have k0 : ¬ k < 1 := by omega
    have k1 : ¬ 16 < k := by omega
    by_cases h9 : 700 < z + k
    · have h10 : ¬ z + k ≤ 700 := by omega
      simp (disch := omega) only [q_38_0, q_38_2, q_38_3, q_38_6, q_38_8, q_38_10, q_38_13, q_38_15, q_38_16, q_38_17, q_38_20, q_38_22, q_38_23, q_38_26, q_38_29, q_38_31, q_38_32, q_38_33, q_38_37, q_38_39, q_38_42, q_38_44, q_38_46, q_38_49, q_38_50, q_38_53, q_38_54, q_38_56, q_38_57, q_38_60, q_38_61, q_38_64, q_38_66, q_38_67, q_38_69, q_38_71, q_38_73, q_38_75, q_38_77, q_38_78, q_38_79, q_38_80, q_38_81, q_38_82, q_38_83, q_38_84, q_38_87, q_38_90, q_38_91, q_38_92, q_38_95, q_38_97, q_38_98, q_38_101, q_38_102, q_38_105, hg_8_8 H, hp_8_8 H, hg_8_2 H, hr_8_2 H, hw_8_2 H, h_is H, h_ob H, ofs_len8, k_cr, k_ci, k_oR, k_oN, k_aR, k_aN, and_true, true_and, and_self, eq_self, Nat.reduceLT, Nat.reduceLeDiff, Nat.reduceEqDiff, Nat.reduceAdd, Nat.reduceMul, Bool.true_eq_false, Bool.false_eq_true, Nat.add_sub_cancel, Nat.not_lt_zero, Nat.zero_le, k_sub, k_sb1, k_r, k_n, k_ret, k_t1, k_t0, k_nr, k_nn, k_z0, k_z1, k_zb, x_okI, lit_nI, k_in, k_cl, k_lt, k_le, k_eq, k_neg, nI_add, nI_mul, k_clt, k_cgt, k_cle, k_cge, k_ceq, bI_0, k_sh8, ne_eq, Nat.add_eq_zero_iff, Nat.one_ne_zero, Nat.succ_ne_zero, and_false, false_and, not_false_eq_true, not_true_eq_false, ite_true, ite_false, if_true, if_false, hz, k0, k1, hk0, hk1, h9, h10]
    · have h10 : z + k ≤ 700 := by omega
      have hl := c_feed_loop d h X S a b z k hz hk1 (by omega) k 0 (0, .null) (by omega)
      have e0 : cfS S a b z 0 = S := by
        unfold cfS
        rw [fillF_0, rA_id]
      rw [e0, show oh 8 h X S = h from H] at hl
      simp (disch := omega) only [q_38_0, q_38_2, q_38_3, q_38_6, q_38_8, q_38_10, q_38_13, q_38_15, q_38_16, q_38_17, q_38_20, q_38_22, q_38_23, q_38_26, q_38_29, q_38_31, q_38_32, q_38_33, q_38_37, q_38_39, q_38_42, q_38_44, q_38_46, q_38_49, q_38_50, q_38_53, q_38_54, q_38_56, q_38_57, q_38_60, q_38_61, q_38_64, q_38_66, q_38_67, q_38_69, q_38_71, q_38_73, q_38_75, q_38_77, q_38_78, q_38_79, q_38_80, q_38_81, q_38_82, q_38_83, q_38_84, q_38_87, q_38_90, q_38_91, q_38_92, q_38_95, q_38_97, q_38_98, q_38_101, q_38_102, q_38_105, hg_8_8 H, hp_8_8 H, hg_8_2 H, hr_8_2 H, hw_8_2 H, h_is H, h_ob H, ofs_len8, k_cr, k_ci, k_oR, k_oN, k_aR, k_aN, and_true, true_and, and_self, eq_self, Nat.reduceLT, Nat.reduceLeDiff, Nat.reduceEqDiff, Nat.reduceAdd, Nat.reduceMul, Bool.true_eq_false, Bool.false_eq_true, Nat.add_sub_cancel, Nat.not_lt_zero, Nat.zero_le, k_sub, k_sb1, k_r, k_n, k_ret, k_t1, k_t0, k_nr, k_nn, k_z0, k_z1, k_zb, x_okI, lit_nI, k_in, k_cl, k_lt, k_le, k_eq, k_neg, nI_add, nI_mul, k_clt, k_cgt, k_cle, k_cge, k_ceq, bI_0, k_sh8, ne_eq, Nat.add_eq_zero_iff, Nat.one_ne_zero, Nat.succ_ne_zero, and_false, false_and, not_false_eq_true, not_true_eq_false, ite_true, ite_false, if_true, if_false, hz, k0, k1, hk0, hk1, h9, h10, hl]
