/-! The parts of a DOUBLE; what is of another TYPE, just so. -/
def eF (x : Int64) : Nat := un x / 4503599627370496 % 2048
def fF (x : Int64) : Nat := un x % 4503599627370496
theorem eF_lt (x : Int64) : eF x < 2048 := Nat.mod_lt _ (by decide)
theorem fF_lt (x : Int64) : fF x < 4503599627370496 := Nat.mod_lt _ (by decide)
theorem sN_neg {x : Int64} (h : x < 0) : 9223372036854775808 ≤ un x := by
  rw [neg_iff] at h
  exact h
theorem sN_pos {x : Int64} (h : ¬ x < 0) : un x < 9223372036854775808 := by
  rw [neg_iff] at h
  omega
/-- a number and its parts -/
theorem un_of (x : Int64) : un x = (if x < 0 then 9223372036854775808 else 0) + eF x * 4503599627370496 + fF x := by
  have h := un_lt x
  unfold eF fF
  by_cases hs : x < 0
  · have := sN_neg hs
    rw [if_pos hs]
    omega
  · have := sN_pos hs
    rw [if_neg hs]
    omega
theorem un_fr (x : Int64) : un (x &&& 4503599627370495) = fF x := by
  rw [un_and]
  exact Nat.and_two_pow_sub_one_eq_mod (un x) 52
theorem un_hid (x : Int64) : un ((x &&& 4503599627370495) ||| 4503599627370496) = 4503599627370496 + fF x := by
  rw [un_or, un_fr, Nat.or_comm]
  exact (Nat.two_pow_add_eq_or_of_lt (i := 52) (fF_lt x) 1).symm
theorem un_sg (x : Int64) : un (x &&& (-9223372036854775808)) = if x < 0 then 9223372036854775808 else 0 := by
  have h := un_lt x
  have ea : ∀ n : Nat, n &&& 2 ^ 63 = if n.testBit 63 = true then 9223372036854775808 else 0 := by
    intro n
    apply Nat.eq_of_testBit_eq
    intro i
    rw [Nat.testBit_and, Nat.testBit_two_pow]
    by_cases hi : 63 = i
    · subst hi
      cases n.testBit 63
      · rw [if_neg (by decide), Nat.zero_testBit]
        rfl
      · rw [if_pos rfl]
        decide
    · rw [decide_eq_false hi, Bool.and_false]
      split
      · rw [show 9223372036854775808 = 2 ^ 63 from rfl, Nat.testBit_two_pow, decide_eq_false hi]
      · rw [Nat.zero_testBit]
  rw [un_and, show un (-9223372036854775808) = 2 ^ 63 by decide, ea]
  by_cases hs : x < 0
  · have h1 := sN_neg hs
    have : (un x).testBit 63 = true := by
      rw [Nat.testBit_eq_decide_div_mod_eq]
      apply decide_eq_true
      omega
    rw [this, if_pos hs, if_pos rfl]
  · have h1 := sN_pos hs
    have : (un x).testBit 63 = false := by
      rw [Nat.testBit_eq_decide_div_mod_eq]
      apply decide_eq_false
      omega
    rw [this, if_neg hs, if_neg (by decide)]
theorem sg_and (x : Int64) : x &&& (-9223372036854775808) = if x < 0 then (-9223372036854775808) else 0 := by
  apply un_inj
  rw [un_sg]
  split <;> decide
theorem and_i {a m : Nat} (hm : m < 32) : nI a &&& nI (2 ^ m - 1) = nI (a % 4294967296 % 2 ^ m) := by
  apply vn_inj
  have h1 : 2 ^ m ≤ 2 ^ 31 := Nat.pow_le_pow_right (by decide) (by omega)
  have h2 := Nat.two_pow_pos m
  rw [vn_and, vn_nI, vn_nI, vn_nI, Nat.mod_eq_of_lt (show 2 ^ m - 1 < 4294967296 by omega), Nat.and_two_pow_sub_one_eq_mod]
  have h3 := Nat.mod_lt (a % 4294967296) h2
  rw [Nat.mod_eq_of_lt (a := a % 4294967296 % 2 ^ m) (by omega)]
theorem ex_f (x : Int64) : (rS x 52).toInt32 &&& nI 2047 = nI (eF x) := by
  rw [k_32, un_rS]
  have := and_i (a := un x / 2 ^ 52 % 4294967296) (m := 11) (by decide)
  rw [show nI (2 ^ 11 - 1) = nI 2047 from rfl] at this
  rw [this]
  have h := un_lt x
  unfold eF
  congr 1
  show un x / 4503599627370496 % 4294967296 % 4294967296 % 2048 = _
  omega
theorem sb_int {a b : Nat} (ha : a < 1000000) (hb : b < 1000000) : (nI a - nI b).toInt = (a : Int) - b := by
  rw [Int32.toInt_sub, nI_toInt (by omega), nI_toInt (by omega)]
  rw [Int.bmod_eq_of_le] <;> omega
theorem ng_int {c : Nat} (hc : c < 1000000) : (-nI c).toInt = -(c : Int) := by
  rw [Int32.toInt_neg, nI_toInt (by omega)]
  rw [Int.bmod_eq_of_le] <;> omega
theorem sb_lt {a b c : Nat} (ha : a < 1000000) (hb : b < 1000000) (hc : c < 1000000) : (nI a - nI b < nI c) = (a < b + c) := by
  rw [Int32.lt_iff_toInt_lt, sb_int ha hb, nI_toInt (by omega)]
  exact propext ⟨fun _ => by omega, fun _ => by omega⟩
theorem sb_le {a b c : Nat} (ha : a < 1000000) (hb : b < 1000000) (hc : c < 1000000) : (nI a - nI b ≤ nI c) = (a ≤ b + c) := by
  rw [Int32.le_iff_toInt_le, sb_int ha hb, nI_toInt (by omega)]
  exact propext ⟨fun _ => by omega, fun _ => by omega⟩
theorem sb_ge {a b c : Nat} (ha : a < 1000000) (hb : b < 1000000) (hc : c < 1000000) : (nI c ≤ nI a - nI b) = (b + c ≤ a) := by
  rw [Int32.le_iff_toInt_le, sb_int ha hb, nI_toInt (by omega)]
  exact propext ⟨fun _ => by omega, fun _ => by omega⟩
theorem sb_gt {a b c : Nat} (ha : a < 1000000) (hb : b < 1000000) (hc : c < 1000000) : (nI c < nI a - nI b) = (b + c < a) := by
  rw [Int32.lt_iff_toInt_lt, sb_int ha hb, nI_toInt (by omega)]
  exact propext ⟨fun _ => by omega, fun _ => by omega⟩
theorem sb_eq {a b c : Nat} (ha : a < 1000000) (hb : b < 1000000) (hc : c < 1000000) : (nI a - nI b = nI c) = (a = b + c) := by
  refine propext ⟨fun h => ?_, fun h => ?_⟩
  · have := congrArg Int32.toInt h
    rw [sb_int ha hb, nI_toInt (by omega)] at this
    omega
  · rw [h, k_sub (by omega)]
    congr 1
    omega
theorem sb_ltn {a b c : Nat} (ha : a < 1000000) (hb : b < 1000000) (hc : c < 1000000) : (nI a - nI b < -nI c) = (a + c < b) := by
  rw [Int32.lt_iff_toInt_lt, sb_int ha hb, ng_int hc]
  exact propext ⟨fun _ => by omega, fun _ => by omega⟩
theorem sb_gen {a b c : Nat} (ha : a < 1000000) (hb : b < 1000000) (hc : c < 1000000) : (-nI c ≤ nI a - nI b) = (b ≤ a + c) := by
  rw [Int32.le_iff_toInt_le, sb_int ha hb, ng_int hc]
  exact propext ⟨fun _ => by omega, fun _ => by omega⟩
theorem sb_sub {a b c : Nat} (h : c ≤ a - b) (h1 : b ≤ a) : nI a - nI b - nI c = nI (a - b - c) := by
  rw [k_sub h1, k_sub h]
theorem sb_subr {a b c : Nat} (h : a ≤ b + c) : nI c - (nI a - nI b) = nI (b + c - a) := by
  by_cases h1 : b ≤ a
  · rw [k_sub h1, k_sub (by omega)]
    congr 1
    omega
  · have e : nI a - nI b = -nI (b - a) := by
      rw [← k_sub (show a ≤ b by omega), Int32.neg_sub]
    rw [e, Int32.sub_eq_add_neg, Int32.neg_neg, nI_add]
    congr 1
    omega
theorem sb_add {a b c : Nat} (h : b ≤ a + c) : nI a - nI b + nI c = nI (a + c - b) := by
  rw [Int32.sub_eq_add_neg, Int32.add_assoc, Int32.add_comm (-nI b), ← Int32.add_assoc, ← Int32.sub_eq_add_neg, nI_add, k_sub h]
theorem cut_n {e : Nat} (he : e ≤ 926) : nI 29 + -nI 126 - (nI e - nI 1023) = nI (926 - e) := by
  have h : nI 29 + -nI 126 = nI 926 - nI 1023 := by decide
  have h2 : nI e - nI 1023 = -nI (1023 - e) := by
    rw [← k_sub (show e ≤ 1023 by omega), Int32.neg_sub]
  rw [h, h2, Int32.sub_eq_add_neg, Int32.neg_neg, sb_add (by omega), show 926 + (1023 - e) - 1023 = 926 - e by omega]
/-! What a number becomes as one of another TYPE. -/
def ab (x : Int64) : Int64 := if x < 0 then -x else x
def tp (x : Int64) : Nat := Nat.log2 (un x)
theorem tp_lt (x : Int64) : tp x < 64 := lg_lt (un_lt x) (by decide)
theorem ab_0 {x : Int64} (h : ¬ x = 0) : un (ab x) ≠ 0 := by
  intro z
  have z1 := un_0.mpr z
  unfold ab at z1
  split at z1
  · have h2 := un_neg x
    have h3 := un_lt x
    have h4 : un x ≠ 0 := fun q => h (un_0.mpr q)
    rw [z1, show un 0 = 0 by decide, Nat.mod_eq_of_lt (by omega)] at h2
    omega
  · exact h z1
def dbH (x : Int64) : Bool := decide (x = 0) || decide (tp (ab x) ≤ 52) || decide (un (ab x) % 2 ^ (tp (ab x) - 52) = 0)
def dbP (x : Int64) : Int64 := if 52 < tp (ab x) then rS (ab x) (tp (ab x) - 52) else lS (ab x) (52 - tp (ab x))
def dbO (x : Int64) : Int64 := if x = 0 then 0 else ((x &&& (-9223372036854775808)) ||| lS (nI (tp (ab x) + 1023)).toInt64 52) ||| (dbP x &&& 4503599627370495)
theorem dbH_tz {x : Int64} {k q : Nat} (h0 : ¬ x = 0) (h : un (ab x) = 2 ^ k * (2 * q + 1)) : dbH x = decide (tp (ab x) - k ≤ 52) := by
  unfold dbH
  rw [decide_eq_false h0, Bool.false_or]
  have hl : k ≤ tp (ab x) := tz_lg h
  have hm := tz_mod (j := tp (ab x) - 52) h
  by_cases h1 : tp (ab x) ≤ 52
  · rw [decide_eq_true h1, decide_eq_true (show tp (ab x) - k ≤ 52 by omega)]
    rfl
  · rw [decide_eq_false h1, Bool.false_or]
    exact decide_eq_decide.mpr (hm.trans ⟨fun _ => by omega, fun _ => by omega⟩)
def hid (x : Int64) : Int64 := (x &&& 4503599627370495) ||| 4503599627370496
theorem un_hd (x : Int64) : un (hid x) = 4503599627370496 + fF x := un_hid x
def wlH (x : Int64) : Bool := if eF x < 1023 ∨ 1086 < eF x then decide (x = 0) else if eF x = 1086 then decide (x < 0) && decide (fF x = 0) else decide (1075 ≤ eF x) || decide (un x % 2 ^ (1075 - eF x) = 0)
def wlS (x : Int64) : Int64 := if 1075 ≤ eF x then lS (hid x) (eF x - 1075) else rS (hid x) (1075 - eF x)
def wlO (x : Int64) : Int64 := if eF x < 1023 ∨ 1086 < eF x then 0 else if x < 0 then -wlS x else wlS x
def cutN (e : Nat) : Nat := if 897 ≤ e then 29 else 926 - e
def flH (x : Int64) : Bool := decide (eF x = 2047) || decide (un x % 9223372036854775808 = 0) || (decide (874 ≤ eF x) && decide (eF x ≤ 1150) && decide ((4503599627370496 + fF x) % 2 ^ cutN (eF x) = 0))
def flZ (x : Int64) : Int64 := if eF x = 2047 then (if fF x = 0 then 2139095040 else 2143289344) else if eF x < 874 ∨ 1150 < eF x then 0 else if eF x < 897 then rS (hid x) (926 - eF x) else lS (nI (eF x - 896)).toInt64 23 ||| rS (x &&& 4503599627370495) 29
def flO (x : Int64) : Int64 := (rS (x &&& (-9223372036854775808)) 32 ||| flZ x).toInt32.toInt64
def xE8 (x : Int64) : Nat := un x / 8388608 % 256
def xM8 (x : Int64) : Int64 := x &&& 8388607
theorem un_M8 (x : Int64) : un (xM8 x) = un x % 8388608 := by
  unfold xM8
  rw [un_and]
  exact Nat.and_two_pow_sub_one_eq_mod (un x) 23
def wiT (x : Int64) : Nat := if xE8 x = 0 then tp (xM8 x) else 23
def wiP (x : Int64) : Nat := if xE8 x = 0 then tp (xM8 x) + 874 else xE8 x + 896
def wid (x : Int64) : Int64 := if xE8 x = 255 then (if xM8 x = 0 then (x &&& (-9223372036854775808)) ||| 9218868437227405312 else 9221120237041090560) else if xE8 x = 0 ∧ xM8 x = 0 then x &&& (-9223372036854775808) else ((x &&& (-9223372036854775808)) ||| lS (nI (wiP x)).toInt64 52) ||| (lS (xM8 x) (52 - wiT x) &&& 4503599627370495)
/-- sign, exponent and fraction together -/
theorem mk_un {sg g : Int64} {e : Nat} (hs : un sg = 0 ∨ un sg = 9223372036854775808) (he : e < 2048) (hg : un g < 4503599627370496) : un ((sg ||| lS (nI e).toInt64 52) ||| g) = un sg + e * 4503599627370496 + un g := by
  rw [un_or, un_or, un_lS, nI_64 (by omega), Nat.mod_eq_of_lt (show e * 2 ^ 52 < 18446744073709551616 by omega)]
  have h1 : un sg ||| e * 2 ^ 52 = un sg + e * 2 ^ 52 := by
    rcases hs with h | h
    · rw [h, Nat.zero_or, Nat.zero_add]
    · rw [h]
      exact (Nat.two_pow_add_eq_or_of_lt (i := 63) (b := e * 2 ^ 52) (by omega) 1).symm
  rw [h1]
  have h2 : un sg + e * 2 ^ 52 = 2 ^ 52 * (un sg / 4503599627370496 + e) := by
    rcases hs with h | h <;> rw [h] <;> omega
  rw [h2]
  have h3 := Nat.two_pow_add_eq_or_of_lt (i := 52) (b := un g) hg (un sg / 4503599627370496 + e)
  rw [← h3]
theorem sg_un (x : Int64) : un (x &&& (-9223372036854775808)) = 0 ∨ un (x &&& (-9223372036854775808)) = 9223372036854775808 := by
  rw [un_sg]
  split
  · exact Or.inr rfl
  · exact Or.inl rfl
theorem mk_f {x sg g : Int64} {e : Nat} (hs : un sg = 0 ∨ un sg = 9223372036854775808) (he : e < 2048) (hg : un g < 4503599627370496) (hx : x = ((sg ||| lS (nI e).toInt64 52) ||| g)) : eF x = e ∧ fF x = un g := by
  have h := mk_un hs he hg
  rw [← hx] at h
  unfold eF fF
  rcases hs with z | z <;> rw [z] at h <;> constructor <;> omega
/-- a NaN has no sign -/
def nN7 (x : Int64) : Prop := eF x = 2047 → fF x ≠ 0 → ¬ x < 0
theorem dbO_e (x : Int64) : eF (dbO x) < 2047 := by
  by_cases h0 : x = 0
  · unfold dbO
    rw [if_pos h0]
    decide
  · have ht := tp_lt (ab x)
    have e : dbO x = ((x &&& (-9223372036854775808)) ||| lS (nI (tp (ab x) + 1023)).toInt64 52) ||| (dbP x &&& 4503599627370495) := by
      unfold dbO
      rw [if_neg h0]
    have := mk_f (sg_un x) (show tp (ab x) + 1023 < 2048 by omega) (by rw [un_fr]; exact fF_lt _) e
    omega
theorem dbO_n (x : Int64) : nN7 (dbO x) := fun h => by
  have := dbO_e x
  omega
theorem M8_tp {x : Int64} (h : ¬ xM8 x = 0) : tp (xM8 x) < 23 ∧ 2 ^ tp (xM8 x) ≤ un (xM8 x) ∧ un (xM8 x) < 2 ^ (tp (xM8 x) + 1) := by
  have h0 : un (xM8 x) ≠ 0 := fun z => h (un_0.mpr z)
  have h1 : un (xM8 x) < 2 ^ 23 := by
    rw [un_M8]
    exact Nat.mod_lt _ (by decide)
  exact ⟨lg_lt h1 (by decide), (lg_iff h0).mp rfl⟩
/-- what a FLOAT's fraction is as a DOUBLE's -/
theorem wi_g {x : Int64} (h : ¬ (xE8 x = 0 ∧ xM8 x = 0)) : wiT x ≤ 23 ∧ un (lS (xM8 x) (52 - wiT x) &&& 4503599627370495) % 2 ^ (52 - wiT x) = 0 := by
  have ht : wiT x ≤ 23 := by
    unfold wiT
    split
    · have := M8_tp (x := x) (fun z => h ⟨by assumption, z⟩)
      omega
    · omega
  refine ⟨ht, ?_⟩
  rw [un_fr]
  unfold fF
  rw [un_lS, show 4503599627370496 = 2 ^ 52 from rfl, show 18446744073709551616 = 2 ^ 64 from rfl, Nat.mod_mod_of_dvd _ (Nat.pow_dvd_pow 2 (show 52 ≤ 64 by decide)), Nat.mod_mod_of_dvd _ (Nat.pow_dvd_pow 2 (show 52 - wiT x ≤ 52 by omega)), Nat.mul_mod_left]
theorem wid_f {x : Int64} (h : ¬ xE8 x = 255) (h2 : ¬ (xE8 x = 0 ∧ xM8 x = 0)) : eF (wid x) = wiP x ∧ fF (wid x) = un (lS (xM8 x) (52 - wiT x) &&& 4503599627370495) ∧ 874 ≤ wiP x ∧ wiP x ≤ 1150 := by
  have h8 : xE8 x < 256 := Nat.mod_lt _ (by decide)
  have hp : 874 ≤ wiP x ∧ wiP x ≤ 1150 := by
    unfold wiP
    split
    · have := M8_tp (x := x) (fun z => h2 ⟨by assumption, z⟩)
      omega
    · omega
  have e : wid x = ((x &&& (-9223372036854775808)) ||| lS (nI (wiP x)).toInt64 52) ||| (lS (xM8 x) (52 - wiT x) &&& 4503599627370495) := by
    unfold wid
    rw [if_neg h, if_neg h2]
  have := mk_f (sg_un x) (show wiP x < 2048 by omega) (by rw [un_fr]; exact fF_lt _) e
  exact ⟨this.1, this.2, hp⟩
theorem inf_f (x : Int64) : eF ((x &&& (-9223372036854775808)) ||| 9218868437227405312) = 2047 ∧ fF ((x &&& (-9223372036854775808)) ||| 9218868437227405312) = 0 := by
  rw [sg_and]
  split <;> decide
theorem wid_n (x : Int64) : nN7 (wid x) := by
  intro he hf
  by_cases h : xE8 x = 255
  · unfold wid at *
    rw [if_pos h] at *
    by_cases h2 : xM8 x = 0
    · rw [if_pos h2] at *
      exact absurd (inf_f x).2 hf
    · rw [if_neg h2] at *
      decide
  · by_cases h2 : xE8 x = 0 ∧ xM8 x = 0
    · have e : wid x = x &&& (-9223372036854775808) := by
        unfold wid
        rw [if_neg h, if_pos h2]
      have : eF (x &&& (-9223372036854775808)) = 0 := by
        rw [sg_and]
        split <;> decide
      rw [e, this] at he
      cases he
    · have := wid_f h h2
      omega
theorem wid_H (x : Int64) : flH (wid x) = true := by
  unfold flH
  by_cases h : xE8 x = 255
  · have e : eF (wid x) = 2047 := by
      unfold wid
      rw [if_pos h]
      split
      · exact (inf_f x).1
      · decide
    rw [decide_eq_true e]
    rfl
  · by_cases h2 : xE8 x = 0 ∧ xM8 x = 0
    · have e : wid x = x &&& (-9223372036854775808) := by
        unfold wid
        rw [if_neg h, if_pos h2]
      have : un (wid x) % 9223372036854775808 = 0 := by
        rw [e, sg_and]
        split <;> decide
      rw [decide_eq_true this, Bool.or_true, Bool.true_or]
    · obtain ⟨e1, e2, p1, p2⟩ := wid_f h h2
      obtain ⟨t1, t2⟩ := wi_g h2
      have hc : cutN (wiP x) = 52 - wiT x := by
        unfold cutN wiP wiT
        by_cases h8 : xE8 x = 0
        · have := M8_tp (x := x) (fun z => h2 ⟨h8, z⟩)
          rw [if_pos h8, if_pos h8, if_neg (by omega)]
          omega
        · rw [if_neg h8, if_neg h8, if_pos (by omega)]
      rw [e1, e2, hc, decide_eq_true p1, decide_eq_true p2]
      have hm : (4503599627370496 + un (lS (xM8 x) (52 - wiT x) &&& 4503599627370495)) % 2 ^ (52 - wiT x) = 0 := by
        rw [Nat.add_mod, t2, Nat.add_zero, Nat.mod_mod, show 4503599627370496 = 2 ^ 52 from rfl]
        exact Nat.mod_eq_zero_of_dvd (Nat.pow_dvd_pow 2 (by omega))
      rw [decide_eq_true hm]
      simp
