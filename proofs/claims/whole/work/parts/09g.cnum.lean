/-! What bits are values of a TYPE, as the class says it. -/
theorem bq32 (z : Int) : ∃ q : Int, z.bmod 4294967296 = z - 4294967296 * q ∧ -2147483648 ≤ z.bmod 4294967296 ∧ z.bmod 4294967296 ≤ 2147483647 := by
  have h : z.bmod 4294967296 = if z % 4294967296 < (4294967296 + 1) / 2 then z % 4294967296 else z % 4294967296 - 4294967296 := rfl
  rw [h]
  split
  · exact ⟨z / 4294967296, by omega, by omega, by omega⟩
  · exact ⟨z / 4294967296 + 1, by omega, by omega, by omega⟩
theorem bq16 (z : Int) : ∃ q : Int, z.bmod 65536 = z - 65536 * q ∧ -32768 ≤ z.bmod 65536 ∧ z.bmod 65536 ≤ 32767 := by
  have h : z.bmod 65536 = if z % 65536 < (65536 + 1) / 2 then z % 65536 else z % 65536 - 65536 := rfl
  rw [h]
  split
  · exact ⟨z / 65536, by omega, by omega, by omega⟩
  · exact ⟨z / 65536 + 1, by omega, by omega, by omega⟩
theorem bq8 (z : Int) : ∃ q : Int, z.bmod 256 = z - 256 * q ∧ -128 ≤ z.bmod 256 ∧ z.bmod 256 ≤ 127 := by
  have h : z.bmod 256 = if z % 256 < (256 + 1) / 2 then z % 256 else z % 256 - 256 := rfl
  rw [h]
  split
  · exact ⟨z / 256, by omega, by omega, by omega⟩
  · exact ⟨z / 256 + 1, by omega, by omega, by omega⟩
theorem bm8 (z : Int) : (z.bmod 4294967296).bmod 256 = z ↔ -128 ≤ z ∧ z ≤ 127 := by
  obtain ⟨q, e1, e2, e3⟩ := bq32 z
  obtain ⟨r, f1, f2, f3⟩ := bq8 (z.bmod 4294967296)
  omega
theorem bm16 (z : Int) : (z.bmod 4294967296).bmod 65536 = z ↔ -32768 ≤ z ∧ z ≤ 32767 := by
  obtain ⟨q, e1, e2, e3⟩ := bq32 z
  obtain ⟨r, f1, f2, f3⟩ := bq16 (z.bmod 4294967296)
  omega
theorem bm32 (z : Int) : z.bmod 4294967296 = z ↔ -2147483648 ≤ z ∧ z ≤ 2147483647 := by
  obtain ⟨q, e1, e2, e3⟩ := bq32 z
  omega
theorem inL_iff (x a b : Int64) : (inL x a b = true) = (a.toInt ≤ x.toInt ∧ x.toInt ≤ b.toInt) := by
  unfold inL
  rw [Bool.and_eq_true, decide_eq_true_eq, decide_eq_true_eq, Int64.le_iff_toInt_le, Int64.le_iff_toInt_le]
theorem is_b (x : Int64) : (x = x.toInt32.toInt8.toInt32.toInt64) = (inL x (-128) 127 = true) := by
  rw [inL_iff, ← Int64.toInt_inj, Int32.toInt_toInt64, Int8.toInt_toInt32, Int32.toInt_toInt8, Int64.toInt_toInt32]
  rw [show (-128 : Int64).toInt = -128 by decide, show (127 : Int64).toInt = 127 by decide]
  exact propext (eq_comm.trans (bm8 x.toInt))
theorem is_s (x : Int64) : (x = x.toInt32.toInt16.toInt32.toInt64) = (inL x (-32768) 32767 = true) := by
  rw [inL_iff, ← Int64.toInt_inj, Int32.toInt_toInt64, Int16.toInt_toInt32, Int32.toInt_toInt16, Int64.toInt_toInt32]
  rw [show (-32768 : Int64).toInt = -32768 by decide, show (32767 : Int64).toInt = 32767 by decide]
  exact propext (eq_comm.trans (bm16 x.toInt))
theorem is_i (x : Int64) : (x = x.toInt32.toInt64) = (inL x (-2147483648) 2147483647 = true) := by
  rw [inL_iff, ← Int64.toInt_inj, Int32.toInt_toInt64, Int64.toInt_toInt32]
  rw [show (-2147483648 : Int64).toInt = -2147483648 by decide, show (2147483647 : Int64).toInt = 2147483647 by decide]
  exact propext (eq_comm.trans (bm32 x.toInt))
theorem c16 (v : Int32) : (v.toUInt32 % 65536).toInt32.toInt = (v.toUInt32.toNat % 65536 : Nat) := by
  have h1 : (v.toUInt32 % 65536).toNat = v.toUInt32.toNat % 65536 := UInt32.toNat_mod _ _
  have h2 : (v.toUInt32 % 65536).toInt32 = nI (v.toUInt32.toNat % 65536) := by
    rw [← h1]
    generalize v.toUInt32 % 65536 = u
    apply Int32.toBitVec_inj.mp
    show u.toBitVec = BitVec.ofNat 32 u.toBitVec.toNat
    simp
  rw [h2, nI_toInt (by omega)]
theorem v_nat (v : Int32) : v.toInt = Int.bmod (v.toUInt32.toNat : Int) 4294967296 := by
  show v.toBitVec.toInt = Int.bmod (v.toBitVec.toNat : Int) 4294967296
  exact BitVec.toInt_eq_toNat_bmod _
theorem is_c (x : Int64) : (x = (x.toInt32.toUInt32 % 65536).toInt32.toInt64) = (inL x 0 65535 = true) := by
  rw [inL_iff, ← Int64.toInt_inj, Int32.toInt_toInt64, c16]
  rw [show (0 : Int64).toInt = 0 by decide, show (65535 : Int64).toInt = 65535 by decide]
  have h1 := v_nat x.toInt32
  rw [Int64.toInt_toInt32] at h1
  have h2 : x.toInt32.toUInt32.toNat < 4294967296 := x.toInt32.toUInt32.toNat_lt
  generalize x.toInt32.toUInt32.toNat = n at h1 h2 ⊢
  generalize x.toInt = z at h1 ⊢
  apply propext
  obtain ⟨q, e1, e2, e3⟩ := bq32 z
  obtain ⟨r, f1, f2, f3⟩ := bq32 (n : Int)
  have h1 : z.bmod 4294967296 = Int.bmod (n : Int) 4294967296 := h1
  omega
theorem is_z (x : Int64) : (inL x 0 1 = true) = (x = 0 ∨ x = 1) := by
  rw [inL_iff, ← Int64.toInt_inj, ← Int64.toInt_inj]
  rw [show (0 : Int64).toInt = 0 by decide, show (1 : Int64).toInt = 1 by decide]
  apply propext
  omega
theorem bI_of {b : Bool} {P : Prop} {D : Decidable P} (h : (b = true) = P) (h0 : xH) : (@ite _ P D (some (some (Value.int (nI 1)), h0)) (some (some (Value.int (nI 0)), h0))) = some (some (.int (bI b)), h0) := by
  cases b with
  | true => rw [if_pos (h ▸ rfl)]; rfl
  | false => rw [if_neg (fun q => by rw [← h] at q; cases q)]; rfl
theorem c_isValue (d : Nat) (h : xH) (x : Int64) (t : Nat) (ht : t ≤ 7) : xm (d + 1) 33 [.long x, .int (nI t)] h = some (some (.int (bI (fitT (nI t) x))), h) := by
  rw [E_33]
  have h8 : t = 0 ∨ t = 1 ∨ t = 2 ∨ t = 3 ∨ t = 4 ∨ t = 5 ∨ t = 6 ∨ t = 7 := by omega
  unfold fitT
  rcases h8 with rfl | rfl | rfl | rfl | rfl | rfl | rfl | rfl
  all_goals simp (disch := omega) only [q_33_0, q_33_1, q_33_48, q_33_49, q_33_50, q_33_51, q_33_54, q_33_55, q_33_56, q_33_57, q_33_60, q_33_61, q_33_64, q_33_65, q_33_66, q_33_67, q_33_68, q_33_69, q_33_70, q_33_71, q_33_72, q_33_75, q_33_76, q_33_79, q_33_80, q_33_81, q_33_82, q_33_83, q_33_84, q_33_85, q_33_86, q_33_87, q_33_90, q_33_91, q_33_94, q_33_95, q_33_96, q_33_97, q_33_98, q_33_99, q_33_100, q_33_101, q_33_102, q_33_105, q_33_106, q_33_109, q_33_110, q_33_111, q_33_112, q_33_113, q_33_114, q_33_115, q_33_116, q_33_119, q_33_120, q_33_123, q_33_124, q_33_125, q_33_126, q_33_127, q_33_128, q_33_129, q_33_130, q_33_131, q_33_132, q_33_135, q_33_136, q_33_139, q_33_140, q_33_143, q_33_144, q_33_147, q_33_148, q_33_151, q_33_152, q_33_155, q_33_156, q_33_159, q_33_160, q_33_161, q_33_162, q_33_165, q_33_166, q_33_169, q_33_170, q_33_173, q_33_174, q_33_177, q_33_178, q_33_181, q_33_182, q_33_185, q_33_186, q_33_187, q_33_188, k_cr, k_ci, k_oR, k_oN, k_aR, k_aN, and_true, true_and, and_self, eq_self, Nat.reduceLT, Nat.reduceLeDiff, Nat.reduceEqDiff, Nat.reduceAdd, Nat.reduceMul, Bool.true_eq_false, Bool.false_eq_true, Nat.add_sub_cancel, Nat.not_lt_zero, Nat.zero_le, k_sub, k_sb1, k_r, k_n, k_ret, k_t1, k_t0, k_nr, k_nn, k_z0, k_z1, k_zb, x_okI, lit_nI, k_in, k_cl, k_lt, k_le, k_eq, k_neg, nI_add, nI_mul, k_clt, k_cgt, k_cle, k_cge, k_ceq, bI_0, k_sh8, ne_eq, Nat.add_eq_zero_iff, Nat.one_ne_zero, Nat.succ_ne_zero, and_false, false_and, not_false_eq_true, not_true_eq_false, ite_true, ite_false, if_true, if_false, is_b, is_s, is_i, is_c]
  · by_cases h0 : x = 0
    · have : inL x 0 1 = true := by rw [is_z]; exact Or.inl h0
      rw [if_pos h0, this]; rfl
    · rw [if_neg h0]
      by_cases h1 : x = 1
      · have : inL x 0 1 = true := by rw [is_z]; exact Or.inr h1
        rw [if_pos h1, this]; rfl
      · have : inL x 0 1 = false := by
          cases hb : inL x 0 1 with
          | false => rfl
          | true => rw [is_z] at hb; rcases hb with q | q <;> contradiction
        rw [if_neg h1, this]; rfl
  · exact bI_of rfl h
  · exact bI_of rfl h
  · exact bI_of rfl h
  · exact bI_of rfl h
  · rfl
  · cases inL x (-2147483648) 2147483647
    · simp [bI]
    · by_cases h7 : x = 2143289344
      · simp [h7, bI]
      · by_cases h9 : x &&& 2147483647 ≤ 2139095040
        · have h10 : ¬ 2139095040 < x &&& 2147483647 := Int64.not_lt.mpr h9
          simp [h7, h9, h10, bI]
        · have h10 : 2139095040 < x &&& 2147483647 := Int64.not_le.mp h9
          simp [h7, h9, h10, bI]
  · by_cases h7 : x = 9221120237041090560
    · simp [h7, bI]
    · by_cases h9 : x &&& 9223372036854775807 ≤ 9218868437227405312
      · have h10 : ¬ 9218868437227405312 < x &&& 9223372036854775807 := Int64.not_lt.mpr h9
        simp [h7, h9, h10, bI]
      · have h10 : 9218868437227405312 < x &&& 9223372036854775807 := Int64.not_le.mp h9
        simp [h7, h9, h10, bI]
