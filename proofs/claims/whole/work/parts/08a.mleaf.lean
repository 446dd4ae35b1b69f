/-! The reference's leaves. -/
theorem m_in (d : Nat) (h : xH) (v a b : Int64) : xm (d + 1) 127 [.long v, .long a, .long b] h = some (some (.int (bI (decide (a ≤ v) && decide (v ≤ b)))), h) := by
  rw [E_127]
  simp only [q_127_0, q_127_1, q_127_2, q_127_3, q_127_6, q_127_7, q_127_9, q_127_10, q_127_13, q_127_14, q_127_17, q_127_18, m_is, m_ob, mfs_len, lg_cmp_lt, lg_cmp_gt, lit_nI, k_r, k_n, k_ret, k_t1, k_t0, k_nr, k_nn, k_z0, k_z1, x_okI, ite_true, ite_false, if_true, if_false]
  by_cases h1 : v < a <;> by_cases h2 : b < v <;> simp [h1, h2, bI, ← Int64.not_lt, k_z0, k_z1]
def isW (w : Int64) : Bool := decide (w = 7038329) || decide (w = 1836021349) || decide (w = 1685221232) || decide (w = 29807)
theorem m_isWord (d : Nat) (h : xH) (w : Int64) : xm (d + 1) 129 [.long w] h = some (some (.int (bI (isW w))), h) := by
  rw [E_129]
  simp only [q_129_0, q_129_1, q_129_4, q_129_5, q_129_8, q_129_9, q_129_12, q_129_13, q_129_16, q_129_17, q_129_20, q_129_21, q_129_24, q_129_25, q_129_28, q_129_29, q_129_32, q_129_33, q_129_36, q_129_37, m_is, m_ob, mfs_len, lg_cmp_eq, lit_nI, k_r, k_n, k_ret, k_t1, k_t0, k_nr, k_nn, k_z0, k_z1, x_okI, ite_true, ite_false, if_true, if_false]
  unfold isW
  by_cases h1 : w = 7038329
  · simp [h1, bI, k_z1]
  · by_cases h2 : w = 1836021349
    · simp [h2, bI, k_z1]
    · by_cases h3 : w = 1685221232
      · simp [h3, bI, k_z1]
      · by_cases h4 : w = 29807 <;> simp [h1, h2, h3, h4, bI, k_z0, k_z1]
theorem m_findClass_loop (d : Nat) (h : xH) (M : Nat) (S : mS) (b n : Nat) (w : Int64) (hb : b < 8) (hn : S.2.2.1 0 b = nI n) (h6 : n ≤ 6) : ∀ (k c : Nat) (u : Nat × Value), c + k = n → xrun d 130 3 [(1, .ref M), (1, .int (nI b)), (2, .long w), (0, .null), (1, .int (nI c))] [] (mh h M S) = some (some (.int (oI (fndF (fun c => S.2.2.2 1 (6 * b + c)) w k c))), mh h M S)
  | 0, c, u, hc => by
    rw [q_130_3]
    simp (disch := omega) only [q_130_0, q_130_1, q_130_5, q_130_6, q_130_9, q_130_10, q_130_11, q_130_14, q_130_15, q_130_18, q_130_20, q_130_21, q_130_22, q_130_24, q_130_25, q_130_26, q_130_27, q_130_28, q_130_31, q_130_33, q_130_34, q_130_37, q_130_40, q_130_41, gm_0, rm_0, wm_0, gm_1, rm_1, wm_1, m_is, m_ob, mfs_len, lit_nI, k_in, k_cl, k_lt, k_le, hn, k_r, k_n, k_ret, k_t1, k_t0, k_nr, k_nn, k_z0, k_z1, x_okI, ite_true, ite_false, if_true, if_false]
    rw [if_pos (by omega)]
    rfl
  | k + 1, c, u, hc => by
    rw [q_130_3]
    simp (disch := omega) only [q_130_0, q_130_1, q_130_5, q_130_6, q_130_9, q_130_10, q_130_11, q_130_14, q_130_15, q_130_18, q_130_20, q_130_21, q_130_22, q_130_24, q_130_25, q_130_26, q_130_27, q_130_28, q_130_31, q_130_33, q_130_34, q_130_37, q_130_40, q_130_41, gm_0, rm_0, wm_0, gm_1, rm_1, wm_1, m_is, m_ob, mfs_len, lit_nI, k_in, k_cl, k_lt, k_le, hn, lg_cmp_eq, nI_mul, nI_add, k_r, k_n, k_ret, k_t1, k_t0, k_nr, k_nn, k_z0, k_z1, x_okI, ite_true, ite_false, if_true, if_false]
    rw [if_neg (by omega), m_findClass_loop d h M S b n w hb hn h6 k (c + 1) u (by omega)]
    unfold fndF
    by_cases h1 : S.2.2.2 1 (6 * b + c) = w
    · simp only [h1, if_true]
      rfl
    · simp only [h1, if_false]
