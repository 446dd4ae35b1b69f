/-! Both sides' numbers. -/
/-- the reference's sign of a FLOAT -/
theorem sg_32 (x : Int64) : rS (x &&& (-9223372036854775808)) 32 = if x < 0 then 2147483648 else 0 := by
  rw [sg_and]
  split <;> decide
theorem fr_0 (x : Int64) : (x &&& 4503599627370495 = 0) = (fF x = 0) := by
  rw [un_0, un_fr]
theorem hd_0 (x : Int64) : (hid x = 4503599627370496) = (fF x = 0) := by
  refine propext ⟨fun h => ?_, fun h => un_inj ?_⟩
  · have := un_hd x
    rw [h, show un 4503599627370496 = 4503599627370496 by decide] at this
    omega
  · rw [un_hd, h]
    decide
theorem sh_0 {x : Int64} {k : Nat} (h : un x < 9007199254740992) : (lS (rS x k) k = x) = (un x % 2 ^ k = 0) := by
  have hp := Nat.two_pow_pos k
  have hd : un x / 2 ^ k * 2 ^ k = un x - un x % 2 ^ k := by
    have := Nat.div_add_mod (un x) (2 ^ k)
    rw [Nat.mul_comm] at this
    omega
  refine propext ⟨fun h1 => ?_, fun h1 => un_inj ?_⟩
  · have := un_lS (rS x k) k
    rw [h1, un_rS, hd, Nat.mod_eq_of_lt (by omega)] at this
    have := Nat.mod_le (un x) (2 ^ k)
    omega
  · rw [un_lS, un_rS, hd, h1, Nat.mod_eq_of_lt (by omega)]
    rfl
theorem un_msk {k : Nat} (hk : k < 64) : un (lS 1 k - 1) = 2 ^ k - 1 := by
  have h1 : 2 ^ k ≤ 2 ^ 63 := Nat.pow_le_pow_right (by decide) (by omega)
  have hp := Nat.two_pow_pos k
  have e : un (lS 1 k) = 2 ^ k := by
    rw [un_lS, show un 1 = 1 by decide, Nat.one_mul, Nat.mod_eq_of_lt (by omega)]
  show (lS 1 k - 1).toUInt64.toNat = _
  rw [Int64.toUInt64_sub, UInt64.toNat_sub]
  have e1 : (lS 1 k).toUInt64.toNat = 2 ^ k := e
  rw [e1, show (Int64.toUInt64 1).toNat = 1 by decide]
  omega
theorem msk_0 {x : Int64} {k : Nat} (hk : k < 64) : (x &&& (lS 1 k - 1) = 0) = (un x % 2 ^ k = 0) := by
  rw [un_0, un_and, un_msk hk, Nat.and_two_pow_sub_one_eq_mod]
theorem fr_sh {x : Int64} {k : Nat} (hk : k ≤ 52) : (x &&& rS 4503599627370495 k = 0) = (un x % 2 ^ (52 - k) = 0) := by
  have e : (2 ^ 52 - 1) / 2 ^ k = 2 ^ (52 - k) - 1 := by
    have hp := Nat.two_pow_pos k
    have h2 : 2 ^ 52 = 2 ^ k * 2 ^ (52 - k) := by
      rw [← Nat.pow_add]
      congr 1
      omega
    have h3 := Nat.two_pow_pos (52 - k)
    rw [Nat.div_eq_iff hp, h2, Nat.sub_mul, Nat.mul_comm (2 ^ k), Nat.one_mul]
    have : 2 ^ k ≤ 2 ^ (52 - k) * 2 ^ k := Nat.le_mul_of_pos_left _ h3
    constructor <;> omega
  rw [un_0, un_and, un_rS, show un 4503599627370495 = 2 ^ 52 - 1 by decide, e, Nat.and_two_pow_sub_one_eq_mod]
theorem hd_mod {x : Int64} {k : Nat} (hk : k ≤ 52) : (4503599627370496 + fF x) % 2 ^ k = un x % 2 ^ k := by
  unfold fF
  rw [show 4503599627370496 = 2 ^ 52 from rfl, Nat.add_mod, Nat.mod_eq_zero_of_dvd (Nat.pow_dvd_pow 2 hk), Nat.zero_add, Nat.mod_mod, Nat.mod_mod_of_dvd _ (Nat.pow_dvd_pow 2 hk)]
theorem un_m63 (x : Int64) : (x &&& 9223372036854775807 = 0) = (un x % 9223372036854775808 = 0) := by
  rw [un_0, un_and, show un 9223372036854775807 = 2 ^ 63 - 1 by decide, Nat.and_two_pow_sub_one_eq_mod]
theorem m63_0 (x : Int64) : (un x % 9223372036854775808 = 0) = (eF x = 0 ∧ fF x = 0) := by
  have h := un_of x
  have h1 := eF_lt x
  have h2 := fF_lt x
  refine propext ⟨fun h3 => ?_, fun h3 => ?_⟩
  · split at h <;> omega
  · rw [h3.1, h3.2] at h
    split at h <;> omega
theorem fr_29 (x : Int64) : (x &&& 4503599627370495 &&& 536870911 = 0) = ((4503599627370496 + fF x) % 2 ^ 29 = 0) := by
  rw [un_0, un_and, un_fr, show un 536870911 = 2 ^ 29 - 1 by decide, Nat.and_two_pow_sub_one_eq_mod, hd_mod (by decide)]
  unfold fF
  rw [show 4503599627370496 = 2 ^ 52 from rfl, Nat.mod_mod_of_dvd _ (Nat.pow_dvd_pow 2 (show 29 ≤ 52 by decide))]
/-- values of TYPE t, as far as it matters to what they become -/
def wfT (t : Nat) (x : Int64) : Prop := if t < 6 then fitT (nI t) x = true else if t = 6 then x.toInt32.toInt64 = x else nN7 x
def wiX (x : Int64) (f : Nat) : Int64 := if f = 6 then wid x else x
def ftC (x : Int64) (f t : Nat) : Bool := if f < 6 then (if t < 6 then fitT (nI t) x else dbH x && (decide (t = 7) || flH (dbO x))) else if 6 ≤ t then decide (t = 7) || flH (wiX x f) else wlH (wiX x f) && fitT (nI t) (wlO (wiX x f))
def tnC (x : Int64) (f t : Nat) : Int64 := if f = t ∨ (f < 6 ∧ t < 6) then x else if f < 6 then (if t = 7 then dbO x else flO (dbO x)) else if 6 ≤ t then (if t = 7 then wiX x f else flO (wiX x f)) else wlO (wiX x f)
theorem i32_64 (v : Int32) : v.toInt64.toInt32.toInt64 = v.toInt64 := by
  rw [Int32.toInt32_toInt64]
theorem wiX_n {x : Int64} {f : Nat} (h6 : ¬ f < 6) (h : wfT f x) : nN7 (wiX x f) := by
  unfold wiX
  unfold wfT at h
  rw [if_neg h6] at h
  by_cases h1 : f = 6
  · rw [if_pos h1]
    exact wid_n x
  · rw [if_neg h1] at h
    rw [if_neg h1]
    exact h
theorem tnC_wf {x : Int64} {f t : Nat} (hf : f ≤ 7) (ht : t ≤ 7) (h : wfT f x) (he : ftC x f t = true) : wfT t (tnC x f t) := by
  by_cases hft : f = t
  · subst hft
    unfold tnC
    rw [if_pos (Or.inl rfl)]
    exact h
  · by_cases h6 : f < 6
    · by_cases t6 : t < 6
      · have e : tnC x f t = x := by
          unfold tnC
          rw [if_pos (Or.inr ⟨h6, t6⟩)]
        unfold ftC at he
        rw [if_pos h6, if_pos t6] at he
        rw [e]
        unfold wfT
        rw [if_pos t6]
        exact he
      · have e : tnC x f t = if t = 7 then dbO x else flO (dbO x) := by
          unfold tnC
          rw [if_neg (by omega), if_pos h6]
        rw [e]
        unfold wfT
        rw [if_neg t6]
        by_cases t7 : t = 7
        · rw [if_pos t7, if_neg (by omega)]
          exact dbO_n x
        · rw [if_neg t7, if_pos (by omega)]
          exact i32_64 _
    · by_cases t6 : t < 6
      · have e : tnC x f t = wlO (wiX x f) := by
          unfold tnC
          rw [if_neg (by omega), if_neg h6, if_neg (by omega)]
        unfold ftC at he
        rw [if_neg h6, if_neg (by omega), Bool.and_eq_true] at he
        rw [e]
        unfold wfT
        rw [if_pos t6]
        exact he.2
      · have e : tnC x f t = if t = 7 then wiX x f else flO (wiX x f) := by
          unfold tnC
          rw [if_neg (by omega), if_neg h6, if_pos (by omega)]
        rw [e]
        unfold wfT
        rw [if_neg t6]
        by_cases t7 : t = 7
        · rw [if_pos t7, if_neg (by omega)]
          exact wiX_n h6 h
        · rw [if_neg t7, if_pos (by omega)]
          exact i32_64 _
theorem wf_0 {t : Nat} : wfT t 0 := by
  unfold wfT
  by_cases h6 : t < 6
  · rw [if_pos h6]
    have : ∀ q : Fin 6, fitT (nI q.val) 0 = true := by decide
    exact this ⟨t, h6⟩
  · rw [if_neg h6]
    by_cases h : t = 6
    · rw [if_pos h]
      decide
    · rw [if_neg h]
      intro h1
      exact absurd h1 (by decide)
theorem wf_fit {t : Nat} {x : Int64} (ht : t ≤ 7) (h : fitT (nI t) x = true) : wfT t x := by
  unfold wfT
  by_cases h6 : t < 6
  · rw [if_pos h6]
    exact h
  · rw [if_neg h6]
    by_cases h1 : t = 6
    · subst h1
      rw [if_pos rfl]
      have h2 : (inL x (-2147483648) 2147483647 && (decide (x &&& 2147483647 ≤ 2139095040) || decide (x = 2143289344))) = true := h
      rw [Bool.and_eq_true] at h2
      have h3 := is_i x
      exact (h3.symm ▸ h2.1 : x = x.toInt32.toInt64).symm
    · have h7 : t = 7 := by omega
      subst h7
      rw [if_neg (by decide)]
      have h2 : (decide (x &&& 9223372036854775807 ≤ 9218868437227405312) || decide (x = 9221120237041090560)) = true := h
      rw [Bool.or_eq_true, decide_eq_true_eq, decide_eq_true_eq] at h2
      intro he hf
      rcases h2 with h2 | h2
      · exfalso
        have h3 := Int64.le_iff_toInt_le.mp h2
        have h4 : un (x &&& 9223372036854775807) = un x % 9223372036854775808 := by
          rw [un_and, show un 9223372036854775807 = 2 ^ 63 - 1 by decide, Nat.and_two_pow_sub_one_eq_mod]
        have h5 := un_int (x &&& 9223372036854775807)
        rw [h4, if_pos (by omega)] at h5
        rw [h5, show (9218868437227405312 : Int64).toInt = 9218868437227405312 by decide] at h3
        unfold eF at he
        unfold fF at hf
        omega
      · rw [h2]
        decide
/-- what the reference says of a number that shall become one of another TYPE -/
def bcE (x : Int64) (f t : Nat) : Bool := if f = t then true else if f < 6 then (if t < 6 then fitT (nI t) x else dbH x && (decide (t = 7) || flH (dbO x))) else if t = 7 then true else if t = 6 then flH (wiX x f) else wlH (wiX x f) && fitT (nI t) (wlO (wiX x f))
theorem bcE_eq {x : Int64} {f t : Nat} (hf : f ≤ 7) (ht : t ≤ 7) (h : wfT f x) : bcE x f t = ftC x f t := by
  unfold bcE ftC
  by_cases hft : f = t
  · subst hft
    rw [if_pos rfl]
    by_cases h6 : f < 6
    · rw [if_pos h6, if_pos h6]
      unfold wfT at h
      rw [if_pos h6] at h
      exact h.symm
    · rw [if_neg h6, if_pos (by omega)]
      by_cases h7 : f = 7
      · rw [decide_eq_true h7]
        rfl
      · have h1 : f = 6 := by omega
        unfold wiX
        rw [if_pos h1, wid_H, Bool.or_true]
  · rw [if_neg hft]
    by_cases h6 : f < 6
    · rw [if_pos h6, if_pos h6]
    · rw [if_neg h6, if_neg h6]
      by_cases h7 : t = 7
      · rw [if_pos h7, if_pos (by omega), decide_eq_true h7]
        rfl
      · rw [if_neg h7]
        by_cases t6 : t = 6
        · rw [if_pos t6, if_pos (by omega), decide_eq_false h7, Bool.false_or]
        · rw [if_neg t6, if_neg (by omega)]
