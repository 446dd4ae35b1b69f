/-! Products: the class's test and the reference's. -/
theorem mt_1 (C X Y k : Int) (hY : Y ≠ 0) (y1 : -2^63 ≤ Y) (y2 : Y < 2^63) (hk : C + 2^64 * k = X * Y) (h : C.tdiv Y = X) : C = X * Y := by
  have e := Int.mul_tdiv_add_tmod C Y
  rw [h, Int.mul_comm] at e
  have hr : (C.tmod Y).natAbs < Y.natAbs := by
    rw [Int.natAbs_tmod]
    exact Nat.mod_lt _ (Int.natAbs_pos.mpr hY)
  generalize C.tmod Y = r at *
  generalize X * Y = w at *
  omega
theorem md_iff (x y : Int64) (hy : y ≠ 0) (hm : y ≠ -1) : (x * y / y = x) ↔ (x * y).toInt = x.toInt * y.toInt := by
  rw [← Int64.toInt_inj, Int64.toInt_div_of_ne_right _ _ hm]
  have hY : y.toInt ≠ 0 := fun z => hy (Int64.toInt_inj.mp (by rw [z]; rfl))
  refine ⟨fun h => ?_, fun h => ?_⟩
  · have e := Int.bmod_add_bdiv (x.toInt * y.toInt) (2 ^ 64)
    rw [← Int64.toInt_mul] at e
    have y1 := Int64.le_toInt y
    have y2 := Int64.toInt_lt y
    exact mt_1 _ _ _ _ hY y1 y2 (by exact_mod_cast e) h
  · rw [h]
    exact Int.mul_tdiv_cancel _ hY
theorem mn_iff (x : Int64) : (x * -1).toInt = x.toInt * (-1 : Int64).toInt ↔ ¬ x = -9223372036854775808 := by
  have e1 : (-1 : Int64).toInt = -1 := by decide
  have e2 : (-9223372036854775808 : Int64).toInt = -9223372036854775808 := by decide
  rw [Int64.toInt_mul, e1]
  refine ⟨fun h z => ?_, fun h => ?_⟩
  · rw [z, e2] at h
    revert h
    decide
  · have h1 : ¬ x.toInt = -9223372036854775808 := fun z => h (Int64.toInt_inj.mp (by rw [z, e2]))
    have y1 := Int64.le_toInt x
    have y2 := Int64.toInt_lt x
    refine Int.bmod_eq_of_le ?_ ?_
    · omega
    · omega
theorem mz_iff (x : Int64) : (x * 0).toInt = x.toInt * (0 : Int64).toInt := by
  rw [Int64.mul_zero]
  have e1 : (0 : Int64).toInt = 0 := by decide
  rw [e1, Int.mul_zero]
/-- the reference's test of a product -/
theorem times_iff (a b : Int64) : (a = 0 ∨ (¬ (a = -1 ∧ b = -9223372036854775808) ∧ a * b / a = b)) ↔ (a * b).toInt = a.toInt * b.toInt := by
  rw [Int64.mul_comm a b, Int.mul_comm]
  by_cases h0 : a = 0
  · subst h0
    exact ⟨fun _ => mz_iff b, fun _ => Or.inl rfl⟩
  · by_cases h1 : a = -1
    · subst h1
      rw [mn_iff]
      refine ⟨fun z => ?_, fun z => Or.inr ⟨fun w => z w.2, ?_⟩⟩
      · rcases z with z | z
        · exact absurd z h0
        · exact fun w => z.1 ⟨rfl, w⟩
      · have hb := (mn_iff b).mpr z
        have e1 : (-1 : Int64).toInt = -1 := by decide
        rw [e1] at hb
        apply Int64.toInt_inj.mp
        have y1 := Int64.le_toInt b
        have y2 := Int64.toInt_lt b
        have hz : ¬ b.toInt = -9223372036854775808 := fun w => z (Int64.toInt_inj.mp (by rw [w]; decide))
        rw [Int64.toInt_div_of_ne_left _ _ (fun w => ?_), hb, e1, Int.mul_tdiv_cancel _ (by decide)]
        have w2 := congrArg Int64.toInt w
        rw [hb] at w2
        have e3 : Int64.minValue.toInt = -9223372036854775808 := by decide
        rw [e3] at w2
        omega
    · rw [md_iff b a h0 h1]
      exact ⟨fun z => by rcases z with z | z; exact absurd z h0; exact z.2, fun z => Or.inr ⟨fun w => h1 w.1, z⟩⟩
theorem prW_iff (a b : Int64) : prW a b = if (a * b).toInt = a.toInt * b.toInt then none else some 2 := by
  unfold prW
  by_cases h1 : b = -1
  · subst h1
    rw [if_pos rfl]
    by_cases h2 : a = -9223372036854775808
    · rw [if_pos h2, if_neg (fun z => (mn_iff a).mp z h2)]
    · rw [if_neg h2, if_pos ((mn_iff a).mpr h2)]
  · rw [if_neg h1]
    by_cases h0 : b = 0
    · subst h0
      rw [if_pos rfl, if_pos (mz_iff a)]
    · rw [if_neg h0]
      by_cases h3 : a * b / b = a
      · rw [if_pos h3, if_pos ((md_iff a b h0 h1).mp h3)]
      · rw [if_neg h3, if_neg (fun z => h3 ((md_iff a b h0 h1).mpr z))]
