/-! Rules that turn a walk's small steps. -/
theorem k_r {α : Type} (a : Nat) (f : Value → Option α) : xcA (.ref a) f = f (.ref a) := rfl
theorem k_n {α : Type} (f : Value → Option α) : xcA .null f = f .null := rfl
theorem k_ret (v : Option Value) (h : xH) (f : Option Value → xH → Option xR) : xret' (some (v, h)) f = f v h := rfl
theorem k_t1 (v : Value) (s : List Value) : (some v).toList ++ s = v :: s := rfl
theorem k_t0 (s : List Value) : (none : Option Value).toList ++ s = s := rfl
theorem k_nr {α : Type} (a : Nat) (x y : Option α) : xnul (.ref a) x y = y := rfl
theorem k_nn {α : Type} (x y : Option α) : xnul .null x y = x := rfl
/-- a truth as the machine has it -/
def bI (b : Bool) : Int32 := if b = true then nI 1 else nI 0
theorem k_zb (b : Bool) : xokv .boolean (.int (bI b)) = true := by cases b <;> decide
theorem k_z0 : xokv .boolean (.int (nI 0)) = true := by decide
theorem k_z1 : xokv .boolean (.int (nI 1)) = true := by decide
theorem bI_t : bI true = nI 1 := rfl
theorem bI_f : bI false = nI 0 := rfl
theorem bI_0 (b : Bool) : (bI b = nI 0) = (b = false) := by cases b <;> decide
theorem bI_and (b : Bool) : bI b &&& nI 1 = bI b := by cases b <;> decide
theorem lit_nI (k : Nat) : (@OfNat.ofNat Int32 k Int32.instOfNat) = nI k := rfl
theorem nI_mul (a b : Nat) : nI a * nI b = nI (a * b) := (Int32.ofNat_mul a b).symm
theorem k_in {n N : Nat} (h : n < N) (hN : N < 2147483648) : bIn (nI n) N = true := bIn_t (nI_in h hN)
theorem k_cl {n : Nat} (h : n < 2147483648) : (nI n).toNatClampNeg = n := nI_clamp h
theorem k_lt {a b : Nat} (ha : a < 2147483648) (hb : b < 2147483648) : (nI a < nI b) = (a < b) := propext (nI_ltI ha hb)
theorem k_le {a b : Nat} (ha : a < 2147483648) (hb : b < 2147483648) : (nI a ≤ nI b) = (a ≤ b) := propext (nI_leI ha hb)
theorem k_eq {a b : Nat} (ha : a < 2147483648) (hb : b < 2147483648) : (nI a = nI b) = (a = b) := propext (nI_eq ha hb)
theorem k_neg {a : Nat} (ha : a < 2147483648) : (nI a = -nI 1) = False := by
  refine propext ⟨fun h => ?_, fun h => h.elim⟩
  have h1 := congrArg Int32.toInt h
  rw [nI_toInt ha, show (-nI 1).toInt = -1 by decide] at h1
  omega
theorem k_sub {a b : Nat} (h : b ≤ a) : nI a - nI b = nI (a - b) := by
  have h1 : nI a = nI (a - b) + nI b := by rw [nI_add]; congr 1; omega
  rw [h1]
  exact Int32.add_sub_cancel _ _
/-- a place, or none -/
def oI : Option Nat → Int32
  | none => -nI 1
  | some i => nI i
/-- the first i, from i on k of them, at which f is w -/
def fndF (f : Nat → Int64) (w : Int64) : Nat → Nat → Option Nat
  | 0, _ => none
  | k + 1, i => if f i = w then some i else fndF f w k (i + 1)
def fnd (f : Nat → Int64) (w : Int64) (n : Nat) : Option Nat := fndF f w n 0
theorem fndF_0 (f : Nat → Int64) (w : Int64) (i : Nat) : fndF f w 0 i = none := rfl
theorem fndF_s (f : Nat → Int64) (w : Int64) (k i : Nat) : fndF f w (k + 1) i = if f i = w then some i else fndF f w k (i + 1) := rfl
theorem k_clt (x y : Int64) : (lg_cmp x y < nI 0) = (x < y) := propext (lg_cmp_lt x y)
theorem k_cgt (x y : Int64) : (nI 0 < lg_cmp x y) = (y < x) := propext (lg_cmp_gt x y)
theorem k_cle (x y : Int64) : (lg_cmp x y ≤ nI 0) = (x ≤ y) := propext (lg_cmp_le x y)
theorem k_cge (x y : Int64) : (nI 0 ≤ lg_cmp x y) = (y ≤ x) := propext (lg_cmp_ge x y)
theorem k_ceq (x y : Int64) : (lg_cmp x y = nI 0) = (x = y) := propext (lg_cmp_eq x y)
theorem oI_n (o : Option Nat) (h : ∀ i, o = some i → i < 2147483648) : (oI o = -nI 1) = (o = none) := by
  cases o with
  | none => simp [oI]
  | some i =>
    have := k_neg (h i rfl)
    simp only [oI, this, reduceCtorEq]
theorem fndF_lt (f : Nat → Int64) (w : Int64) : ∀ (k i j : Nat), fndF f w k i = some j → i ≤ j ∧ j < i + k ∧ f j = w
  | 0, _, _, h => by cases h
  | k + 1, i, j, h => by
    rw [fndF_s] at h
    split at h
    · cases h
      exact ⟨Nat.le_refl _, by omega, by assumption⟩
    · have := fndF_lt f w k (i + 1) j h
      exact ⟨by omega, by omega, this.2.2⟩
theorem fnd_lt {f : Nat → Int64} {w : Int64} {n j : Nat} (h : fnd f w n = some j) : j < n ∧ f j = w := by
  have := fndF_lt f w n 0 j h
  exact ⟨by omega, this.2.2⟩
theorem k_oI {f : Nat → Int64} {w : Int64} {n : Nat} (hn : n < 2147483648) : (oI (fnd f w n) = -nI 1) = (fnd f w n = none) := oI_n _ fun i h => by have := fnd_lt h; omega
/-- logical shift by 8 -/
def sh8 (x : Int64) : Int64 := (x.toUInt64 >>> 8).toInt64
theorem k_sh8 (x : Int64) : (x.toUInt64 >>> ((nI 8).toInt64.toUInt64 &&& Int64.toUInt64 63)).toInt64 = sh8 x := by
  rw [show ((nI 8).toInt64.toUInt64 &&& Int64.toUInt64 63) = 8 by decide]
  rfl
theorem sh8_nat (x : Int64) : (sh8 x).toUInt64.toNat = x.toUInt64.toNat / 256 := by
  show (x.toUInt64 >>> 8).toNat = _
  rw [UInt64.toNat_shiftRight]
  show x.toUInt64.toNat >>> 8 = _
  rw [Nat.shiftRight_eq_div_pow]
theorem u64_0 {x : Int64} (h : x.toUInt64.toNat = 0) : x = 0 := by
  have h1 : x.toUInt64 = 0 := UInt64.toNat_inj.mp h
  have h2 : x.toUInt64.toInt64 = (0 : UInt64).toInt64 := by rw [h1]
  simpa using h2
/-- letters a .. z from the lowest byte on, n of them at the most -/
def nmOK : Nat → Int64 → Bool
  | 0, _ => true
  | n + 1, x => if x = 0 then true else (decide (97 ≤ x &&& 255) && decide (x &&& 255 ≤ 122)) && nmOK n (sh8 x)
theorem nmOK_s (n : Nat) (x : Int64) : nmOK (n + 1) x = if x = 0 then true else (decide (97 ≤ x &&& 255) && decide (x &&& 255 ≤ 122)) && nmOK n (sh8 x) := rfl
theorem k_cr (a : Nat) : ((Value.ref a).category = 1) = True := by simp [Value.category]
theorem k_ci (x : Int32) : ((Value.int x).category = 1) = True := by simp [Value.category]
theorem k_oR (C : String) (a : Nat) : xokv (.object C) (.ref a) = true := by unfold xokv; simp [narrow, fits]
theorem k_oN (C : String) : xokv (.object C) .null = true := by unfold xokv; simp [narrow, fits]
theorem k_aR (C : FieldType) (a : Nat) : xokv (.array C) (.ref a) = true := by unfold xokv; simp [narrow, fits]
theorem k_aN (C : FieldType) : xokv (.array C) .null = true := by unfold xokv; simp [narrow, fits]
theorem k_sb1 (n : Nat) : nI (n + 1) - nI 1 = nI n := nI_pred n
