/-! Longs as naturals: shifts, signs, the highest one. -/
def un (x : Int64) : Nat := x.toUInt64.toNat
def oN (n : Nat) : Int64 := (UInt64.ofNat n).toInt64
theorem un_lt (x : Int64) : un x < 18446744073709551616 := x.toUInt64.toNat_lt
theorem un_oN (n : Nat) : un (oN n) = n % 18446744073709551616 := by
  show (UInt64.ofNat n).toNat = _
  exact UInt64.toNat_ofNat'
theorem un_inj {x y : Int64} (h : un x = un y) : x = y := by
  have h1 : x.toUInt64 = y.toUInt64 := UInt64.toNat_inj.mp h
  exact congrArg UInt64.toInt64 h1
theorem oN_un (x : Int64) : oN (un x) = x := un_inj (by rw [un_oN]; exact Nat.mod_eq_of_lt (un_lt x))
theorem un_and (x y : Int64) : un (x &&& y) = un x &&& un y := rfl
theorem un_or (x y : Int64) : un (x ||| y) = un x ||| un y := rfl
theorem un_neg (x : Int64) : un (-x) = (18446744073709551616 - un x) % 18446744073709551616 := by
  show (-x).toUInt64.toNat = _
  rw [Int64.toUInt64_neg]
  exact UInt64.toNat_neg _
theorem un_int (x : Int64) : x.toInt = if un x < 9223372036854775808 then (un x : Int) else (un x : Int) - 18446744073709551616 := by
  show x.toBitVec.toInt = _
  rw [BitVec.toInt_eq_toNat_cond]
  show (if 2 * un x < 2 ^ 64 then (un x : Int) else (un x : Int) - ((2 ^ 64 : Nat) : Int)) = _
  by_cases h : un x < 9223372036854775808
  · rw [if_pos h, if_pos (by omega)]
  · rw [if_neg h, if_neg (by omega)]
    rfl
theorem neg_iff (x : Int64) : (x < 0) = (9223372036854775808 ≤ un x) := by
  have h := un_lt x
  refine propext ⟨fun h1 => ?_, fun h1 => ?_⟩
  · have h2 := Int64.lt_iff_toInt_lt.mp h1
    rw [un_int x] at h2
    rw [show (0 : Int64).toInt = 0 by decide] at h2
    split at h2 <;> omega
  · refine Int64.lt_iff_toInt_lt.mpr ?_
    rw [un_int x, show (0 : Int64).toInt = 0 by decide]
    split <;> omega
theorem un_0 {x : Int64} : x = 0 ↔ un x = 0 := ⟨fun h => by rw [h]; decide, fun h => un_inj (by rw [h]; decide)⟩
def lS (x : Int64) (k : Nat) : Int64 := oN (un x * 2 ^ k)
def rS (x : Int64) (k : Nat) : Int64 := oN (un x / 2 ^ k)
theorem un_lS (x : Int64) (k : Nat) : un (lS x k) = un x * 2 ^ k % 18446744073709551616 := un_oN _
theorem un_rS (x : Int64) (k : Nat) : un (rS x k) = un x / 2 ^ k := by
  show un (oN _) = _
  rw [un_oN, Nat.mod_eq_of_lt]
  exact Nat.lt_of_le_of_lt (Nat.div_le_self _ _) (un_lt x)
theorem nI_64 {k : Nat} (hk : k < 2147483648) : un (nI k).toInt64 = k := by
  have h0 : (nI k).toInt64.toInt = (k : Int) := by
    rw [Int32.toInt_toInt64, nI_toInt hk]
  have h1 := un_int (nI k).toInt64
  have h2 := un_lt (nI k).toInt64
  rw [h0] at h1
  split at h1 <;> omega
theorem and63 {k : Nat} (hk : k < 64) : k &&& 63 = k := by
  have := Nat.and_two_pow_sub_one_eq_mod k 6
  rw [show 2 ^ 6 - 1 = 63 from rfl] at this
  rw [this]
  exact Nat.mod_eq_of_lt (by omega)
theorem k_lS {x : Int64} {k : Nat} (hk : k < 64) : x <<< ((nI k).toInt64 &&& 63) = lS x k := by
  apply un_inj
  rw [un_lS]
  have hs : ∀ q : Fin 64, ((nI q.val).toInt64 &&& 63).toBitVec.smod 64 = BitVec.ofNat 64 q.val := by decide +kernel
  have h1 := hs ⟨k, hk⟩
  show (x.toBitVec <<< (((nI k).toInt64 &&& 63).toBitVec.smod 64)).toNat = _
  rw [h1, BitVec.shiftLeft_eq', BitVec.toNat_shiftLeft, BitVec.toNat_ofNat, Nat.mod_eq_of_lt (show k < 2 ^ 64 by omega), Nat.shiftLeft_eq]
  rfl
theorem k_rS {x : Int64} {k : Nat} (hk : k < 64) : (x.toUInt64 >>> ((nI k).toInt64.toUInt64 &&& Int64.toUInt64 63)).toInt64 = rS x k := by
  apply un_inj
  rw [un_rS]
  show (x.toUInt64 >>> ((nI k).toInt64.toUInt64 &&& Int64.toUInt64 63)).toNat = _
  have e : ((nI k).toInt64.toUInt64 &&& Int64.toUInt64 63).toNat = k := by
    show un ((nI k).toInt64 &&& 63) = k
    rw [un_and, nI_64 (by omega)]
    exact and63 hk
  rw [UInt64.toNat_shiftRight, e, Nat.shiftRight_eq_div_pow, Nat.mod_eq_of_lt hk]
  rfl
theorem lg_iff {n k : Nat} (h0 : n ≠ 0) : Nat.log2 n = k ↔ 2 ^ k ≤ n ∧ n < 2 ^ (k + 1) := by
  constructor
  · rintro rfl
    exact ⟨Nat.log2_self_le h0, Nat.lt_log2_self⟩
  · rintro ⟨h1, h2⟩
    have a := (Nat.log2_lt h0).mpr h2
    have b := (Nat.le_log2 h0).mpr h1
    omega
theorem tz_ex : ∀ (n : Nat), n ≠ 0 → ∃ k q, n = 2 ^ k * (2 * q + 1) := by
  intro n
  induction n using Nat.strongRecOn with
  | ind n ih =>
    intro h0
    by_cases h : n % 2 = 1
    · exact ⟨0, n / 2, by rw [Nat.pow_zero, Nat.one_mul]; omega⟩
    · obtain ⟨k, q, e⟩ := ih (n / 2) (by omega) (by omega)
      refine ⟨k + 1, q, ?_⟩
      rw [Nat.pow_succ, Nat.mul_right_comm, ← e]
      omega
theorem tz_mod {n k q j : Nat} (h : n = 2 ^ k * (2 * q + 1)) : n % 2 ^ j = 0 ↔ j ≤ k := by
  constructor
  · intro hm
    apply Nat.le_of_not_lt
    intro hlt
    have h1 : 2 ^ (k + 1) ∣ n := Nat.dvd_trans (Nat.pow_dvd_pow 2 hlt) (Nat.dvd_of_mod_eq_zero hm)
    obtain ⟨c, hc⟩ := h1
    rw [h, Nat.pow_succ, Nat.mul_assoc] at hc
    have := Nat.eq_of_mul_eq_mul_left (Nat.two_pow_pos k) hc
    omega
  · intro hle
    apply Nat.mod_eq_zero_of_dvd
    rw [h]
    exact Nat.dvd_trans (Nat.pow_dvd_pow 2 hle) (Nat.dvd_mul_right _ _)
theorem tz_lg {n k q : Nat} (h : n = 2 ^ k * (2 * q + 1)) : k ≤ Nat.log2 n := by
  have h0 : n ≠ 0 := by
    rw [h]
    exact Nat.mul_ne_zero (Nat.ne_of_gt (Nat.two_pow_pos k)) (by omega)
  refine (Nat.le_log2 h0).mpr ?_
  rw [h]
  exact Nat.le_mul_of_pos_right _ (by omega)
theorem lg_lt {n k : Nat} (h : n < 2 ^ k) (hk : 0 < k) : Nat.log2 n < k := by
  by_cases h0 : n = 0
  · subst h0
    exact hk
  · exact (Nat.log2_lt h0).mpr h
/-- what ~u & (u - 1) is -/
theorem tz_and {n k q w : Nat} (h : n = 2 ^ k * (2 * q + 1)) (hw : n < 2 ^ w) : (n ^^^ (2 ^ w - 1)) &&& (n - 1) = 2 ^ k - 1 := by
  have hp := Nat.two_pow_pos k
  have e1 : n - 1 = 2 ^ (k + 1) * q + (2 ^ k - 1) := by
    rw [h, Nat.mul_add, Nat.pow_succ, ← Nat.mul_assoc, Nat.mul_one]
    omega
  have e0 : n = 2 ^ (k + 1) * q + 2 ^ k := by
    rw [h, Nat.mul_add, Nat.pow_succ, ← Nat.mul_assoc, Nat.mul_one]
  have hk1 : 2 ^ k < 2 ^ (k + 1) := by
    rw [Nat.pow_succ]
    omega
  have hkw : k < w := by
    have a := tz_lg h
    have b := lg_lt hw (by
      apply Nat.pos_of_ne_zero
      intro z
      subst z
      have : 0 < n := by
        rw [e0]
        omega
      simp at hw
      omega)
    omega
  apply Nat.eq_of_testBit_eq
  intro i
  rw [Nat.testBit_and, Nat.testBit_xor, Nat.testBit_two_pow_sub_one, Nat.testBit_two_pow_sub_one]
  by_cases hi : i < k
  · have t1 : (n - 1).testBit i = true := by
      rw [e1, Nat.testBit_two_pow_mul_add _ (by omega), if_pos (by omega), Nat.testBit_two_pow_sub_one]
      exact decide_eq_true hi
    have t0 : n.testBit i = false := by
      rw [e0, Nat.testBit_two_pow_mul_add _ hk1, if_pos (by omega), Nat.testBit_two_pow]
      exact decide_eq_false (by omega)
    rw [t0, t1, decide_eq_true (show i < w by omega), decide_eq_true hi]
    rfl
  · rw [decide_eq_false hi]
    by_cases hik : i = k
    · subst hik
      have t1 : (n - 1).testBit i = false := by
        rw [e1, Nat.testBit_two_pow_mul_add _ (by omega), if_pos (by omega), Nat.testBit_two_pow_sub_one]
        exact decide_eq_false (by omega)
      rw [t1, Bool.and_false]
    · have t1 : (n - 1).testBit i = q.testBit (i - (k + 1)) := by
        rw [e1, Nat.testBit_two_pow_mul_add _ (by omega), if_neg (by omega)]
      have t0 : n.testBit i = q.testBit (i - (k + 1)) := by
        rw [e0, Nat.testBit_two_pow_mul_add _ hk1, if_neg (by omega)]
      rw [t0, t1]
      by_cases hiw : i < w
      · rw [decide_eq_true hiw]
        cases q.testBit (i - (k + 1)) <;> rfl
      · have : n.testBit i = false := Nat.testBit_lt_two_pow (Nat.lt_of_lt_of_le hw (Nat.pow_le_pow_right (by decide) (by omega)))
        rw [t0] at this
        rw [this, Bool.and_false]
/-- ints as naturals -/
def vn (x : Int32) : Nat := x.toUInt32.toNat
theorem vn_lt (x : Int32) : vn x < 4294967296 := x.toUInt32.toNat_lt
theorem vn_nI (n : Nat) : vn (nI n) = n % 4294967296 := UInt32.toNat_ofNat'
theorem vn_inj {x y : Int32} (h : vn x = vn y) : x = y := by
  have h1 : x.toUInt32 = y.toUInt32 := UInt32.toNat_inj.mp h
  exact congrArg UInt32.toInt32 h1
theorem nI_vn (x : Int32) : nI (vn x) = x := vn_inj (by rw [vn_nI]; exact Nat.mod_eq_of_lt (vn_lt x))
theorem vn_32 (x : Int64) : vn x.toInt32 = un x % 4294967296 := by
  show (x.toBitVec.signExtend 32).toNat = un x % 4294967296
  rw [BitVec.signExtend_eq_setWidth_of_le _ (by decide), BitVec.toNat_setWidth]
  rfl
theorem k_32 (x : Int64) : x.toInt32 = nI (un x % 4294967296) := vn_inj (by rw [vn_32, vn_nI, Nat.mod_mod])
theorem vn_int (x : Int32) : x.toInt = if vn x < 2147483648 then (vn x : Int) else (vn x : Int) - 4294967296 := by
  show x.toBitVec.toInt = _
  rw [BitVec.toInt_eq_toNat_cond]
  show (if 2 * vn x < 2 ^ 32 then (vn x : Int) else (vn x : Int) - ((2 ^ 32 : Nat) : Int)) = _
  by_cases h : vn x < 2147483648
  · rw [if_pos h, if_pos (by omega)]
  · rw [if_neg h, if_neg (by omega)]
    rfl
/-- an int that is not above 0 -/
theorem nI_le0 {u : Nat} (h : u < 4294967296) : (nI u ≤ nI 0) = (u = 0 ∨ 2147483648 ≤ u) := by
  have e : vn (nI u) = u := by
    rw [vn_nI]
    exact Nat.mod_eq_of_lt h
  have e1 := vn_int (nI u)
  rw [e] at e1
  refine propext ⟨fun h1 => ?_, fun h1 => ?_⟩
  · have h2 := Int32.le_iff_toInt_le.mp h1
    rw [show (nI 0).toInt = 0 by decide, e1] at h2
    split at h2 <;> omega
  · refine Int32.le_iff_toInt_le.mpr ?_
    rw [show (nI 0).toInt = 0 by decide, e1]
    split <;> omega
theorem k_iS {u k : Nat} (h : u < 4294967296) (hk : k < 32) : ((nI u).toUInt32 >>> ((nI k).toUInt32 &&& (nI 31).toUInt32)).toInt32 = nI (u / 2 ^ k) := by
  apply vn_inj
  rw [vn_nI]
  show ((nI u).toUInt32 >>> ((nI k).toUInt32 &&& (nI 31).toUInt32)).toNat = _
  have e : ((nI k).toUInt32 &&& (nI 31).toUInt32).toNat = k := by
    have a : ((nI k).toUInt32 &&& (nI 31).toUInt32).toNat = vn (nI k) &&& 31 := rfl
    rw [a, vn_nI, Nat.mod_eq_of_lt (by omega)]
    have := Nat.and_two_pow_sub_one_eq_mod k 5
    rw [show 2 ^ 5 - 1 = 31 from rfl] at this
    rw [this]
    exact Nat.mod_eq_of_lt (by omega)
  rw [UInt32.toNat_shiftRight, e, Nat.shiftRight_eq_div_pow, Nat.mod_eq_of_lt hk]
  have a : (nI u).toUInt32.toNat = u := by
    show vn (nI u) = u
    rw [vn_nI, Nat.mod_eq_of_lt h]
  have b : u / 2 ^ k < 4294967296 := Nat.lt_of_le_of_lt (Nat.div_le_self _ _) h
  rw [a, Nat.mod_eq_of_lt b]
theorem k_an {a b : Nat} (h : b ≤ a) : nI a + -nI b = nI (a - b) := by
  rw [← Int32.sub_eq_add_neg]
  exact k_sub h
theorem vn_and (x y : Int32) : vn (x &&& y) = vn x &&& vn y := rfl
theorem vn_xor (x y : Int32) : vn (x ^^^ y) = vn x ^^^ vn y := rfl
/-- ~u & (u - 1), of an int -/
theorem tz_int {u k q : Nat} (h : u = 2 ^ k * (2 * q + 1)) (hu : u < 4294967296) : (nI u ^^^ -nI 1) &&& (nI u - nI 1) = nI (2 ^ k - 1) := by
  have h0 : 1 ≤ u := by
    rw [h]
    have := Nat.two_pow_pos k
    exact Nat.mul_pos this (by omega)
  rw [k_sub h0]
  apply vn_inj
  rw [vn_and, vn_xor, vn_nI, vn_nI, vn_nI, Nat.mod_eq_of_lt hu, Nat.mod_eq_of_lt (show u - 1 < 4294967296 by omega)]
  rw [show vn (-nI 1) = 2 ^ 32 - 1 by decide, tz_and h hu, Nat.mod_eq_of_lt]
  have := Nat.le_trans (Nat.le_mul_of_pos_right (2 ^ k) (show 0 < 2 * q + 1 by omega)) (Nat.le_of_eq h.symm)
  omega
theorem hi_32 (x : Int64) : (rS x 32).toInt32 = nI (un x / 4294967296) := by
  have := un_lt x
  rw [k_32, un_rS, Nat.mod_eq_of_lt]
  show un x / 4294967296 < 4294967296
  omega
