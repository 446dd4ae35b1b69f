/-! The reference works out an E. -/
theorem dv_n (a : Int64) : a / -1 = -a := by
  apply Int64.toInt_inj.mp
  rw [Int64.toInt_div, show (-1 : Int64).toInt = -1 by decide, Int.tdiv_neg, Int.tdiv_one, Int64.toInt_neg]
theorem m_rk (d : Nat) (h : xH) (M : Nat) (S : gS) (a b : Int64) (w : Int32) (hw : w = nI 7 ∨ w = nI 8 ∨ w = nI 9 ∨ w = nI 10 ∨ w = nI 11) : ∃ x S2, xm (d + 1) 179 [.ref M, .int w, .long a, .long b] (oh 11 h M S) = some (some (.long x), oh 11 h M S2) ∧ (∀ y, rk w a b = .inr y → x = y ∧ S2 = S) ∧ ∀ k, rk w a b = .inl k → S2 = uI S 61 (nI k) := by
  rcases hw with rfl | rfl | rfl | rfl | rfl
  · refine ⟨_, _, m_plus d h M S a b, ?_⟩
    rw [show rk (nI 7) a b = (if ovA a b = true then .inl 2 else .inr (a + b)) from rfl]
    split
    · exact ⟨fun y q => (by cases q), fun k q => by cases q; rfl⟩
    · exact ⟨fun y q => by cases q; exact ⟨rfl, rfl⟩, fun k q => by cases q⟩
  · refine ⟨_, _, m_less d h M S a b, ?_⟩
    rw [show rk (nI 8) a b = (if ovS a b = true then .inl 2 else .inr (a - b)) from rfl]
    split
    · exact ⟨fun y q => (by cases q), fun k q => by cases q; rfl⟩
    · exact ⟨fun y q => by cases q; exact ⟨rfl, rfl⟩, fun k q => by cases q⟩
  · refine ⟨_, _, m_times d h M S a b, ?_⟩
    rw [show rk (nI 9) a b = (if (a * b).toInt = a.toInt * b.toInt then .inr (a * b) else .inl 2) from rfl]
    split
    · exact ⟨fun y q => by cases q; exact ⟨rfl, rfl⟩, fun k q => by cases q⟩
    · exact ⟨fun y q => (by cases q), fun k q => by cases q; rfl⟩
  · obtain ⟨v, e, hv⟩ := m_over d h M S a b
    refine ⟨_, _, e, ?_⟩
    rw [show rk (nI 10) a b = (match quW a b with
      | some k => .inl k
      | none => .inr (quV a b)) from rfl]
    cases hq : quW a b with
    | none =>
      refine ⟨fun y q => ?_, fun k q => by cases q⟩
      cases q
      refine ⟨?_, rfl⟩
      rcases hv hq with z | ⟨z, z2⟩
      · exact z
      · rw [z2, z]
        unfold quV
        unfold quW at hq
        subst z
        rw [if_neg (by decide)] at hq ⊢
        split at hq
        · cases hq
        · rw [if_neg (by assumption), dv_n]
    | some k => exact ⟨fun y q => (by cases q), fun j q => by cases q; rfl⟩
  · refine ⟨_, _, m_rest d h M S a b, ?_⟩
    rw [show rk (nI 11) a b = (match reW b with
      | some k => .inl k
      | none => .inr (reV a b)) from rfl]
    cases hq : reW b with
    | none => exact ⟨fun y q => by cases q; exact ⟨rfl, rfl⟩, fun k q => by cases q⟩
    | some k => exact ⟨fun y q => (by cases q), fun j q => by cases q; rfl⟩
def wkF (k : Nat) : Bool := decide (k = 59) || decide (k = 60) || decide (k = 61)
def wkS (S : gS) (f : Nat → Int64) (n : Nat) : Prop := sI S 60 = nI n ∧ sI S 61 = nI 0 ∧ ∀ q, q < n → sL S 59 q = f q
/-- VALUE v of the reference, of BUILD b and CLASS c that has n MEMBERS -/
def wkV (S : gS) (b c n v : Nat) (w : vW) : Prop := b < 8 ∧ c < 6 ∧ sA S 2 (6 * b + c) = nI n ∧ n ≤ 8 ∧ v < 180 ∧ sA S 9 v = nI c ∧ sL S 8 v = w.1 ∧ (∀ m, m < 8 → sA S 10 (8 * v + m) = nI (w.2.1 m) ∧ w.2.1 m ≤ 8) ∧ ∀ m k, m < 8 → k < 8 → sL S 11 (64 * v + 8 * m + k) = w.2.2 m k
theorem wkV.fr {P : Nat → Bool} {S T : gS} {b c n v : Nat} {w : vW} (h : wkV S b c n v w) (hf : fr P S T) (h2 : P 2 = false) (h8 : P 8 = false) (h9 : P 9 = false) (h10 : P 10 = false) (h11 : P 11 = false) : wkV T b c n v w := by
  obtain ⟨a1, a2, a3, a4, a5, a6, a7, a8, a9⟩ := h
  refine ⟨a1, a2, ?_, a4, a5, ?_, ?_, ?_, ?_⟩
  · rw [(hf 2 h2).2.2.1]
    exact a3
  · rw [(hf 9 h9).2.2.1]
    exact a6
  · rw [(hf 8 h8).2.2.2.1]
    exact a7
  · rw [(hf 10 h10).2.2.1]
    exact a8
  · rw [(hf 11 h11).2.2.2.1]
    exact a9
def eMs (S : gS) (b c n : Nat) (w : Int64) : Option Nat := fnd (fun i => sL S 3 (8 * (6 * b + c) + i)) w n
theorem eMs_fr {P : Nat → Bool} {S T : gS} {b c n : Nat} {w : Int64} (hf : fr P S T) (h3 : P 3 = false) : eMs T b c n w = eMs S b c n w := by
  unfold eMs
  rw [(hf 3 h3).2.2.2.1]
theorem m_simple (d : Nat) (h : xH) (M : Nat) (S : gS) {b c n v m w : Nat} {vw : vW} {x : Int64} (hV : wkV S b c n v vw) (hm : eMs S b c n x = some m) (hw : w = 3 ∨ w = 5) : xm (d + 2) 180 [.ref M, .int (nI w), .int (nI b), .int (nI v), .long x] (oh 11 h M S) = some (some (.long (if w = 3 then vw.2.2 m 0 else lN (vw.2.1 m))), oh 11 h M S) := by
  obtain ⟨a1, a2, a3, a4, a5, a6, a7, a8, a9⟩ := hV
  have e := m_findMember d h M S b c n x a1 a2 a3 a4
  have hlt : m < n := (fnd_lt (f := fun i => sL S 3 (8 * (6 * b + c) + i)) hm).1
  rw [show fnd (fun i => sL S 3 (8 * (6 * b + c) + i)) x n = some m from hm] at e
  have e : xm (d + 1) 133 [.ref M, .int (nI b), .int (nI c), .long x] (oh 11 h M S) = some (some (.int (nI m)), oh 11 h M S) := e
  have e10 := (a8 m (by omega)).1
  have e8 := (a8 m (by omega)).2
  have e11 := a9 m 0 (by omega) (by omega)
  rw [Nat.add_zero] at e11
  rw [E_180 _ _ _ _ _ _ _ rfl]
  rcases hw with rfl | rfl
  · rw [if_pos rfl]
    simp (disch := omega) only [q_180_0, q_180_1, q_180_2, q_180_3, q_180_6, q_180_7, q_180_8, q_180_10, q_180_13, q_180_15, q_180_16, q_180_17, q_180_20, q_180_21, q_180_24, q_180_26, q_180_27, q_180_28, q_180_30, q_180_31, q_180_32, q_180_33, q_180_36, q_180_37, q_180_40, q_180_42, q_180_43, q_180_44, q_180_46, q_180_48, q_180_49, q_180_50, q_180_51, og_11_9, or_11_9, ow_11_9, og_11_10, or_11_10, ow_11_10, og_11_11, or_11_11, ow_11_11, o_is, o_ob, ofs_len11, ↓reduceIte, k_cr, k_ci, k_oR, k_oN, k_aR, k_aN, and_true, true_and, and_self, eq_self, Nat.reduceLT, Nat.reduceLeDiff, Nat.reduceEqDiff, Nat.reduceAdd, Nat.reduceMul, Bool.true_eq_false, Bool.false_eq_true, Nat.add_sub_cancel, Nat.not_lt_zero, Nat.zero_le, k_sub, k_sb1, k_r, k_n, k_ret, k_t1, k_t0, k_nr, k_nn, k_z0, k_z1, k_zb, x_okI, lit_nI, k_in, k_cl, k_lt, k_le, k_eq, k_neg, nI_add, nI_mul, k_clt, k_cgt, k_cle, k_cge, k_ceq, bI_0, k_sh8, ne_eq, Nat.add_eq_zero_iff, Nat.one_ne_zero, Nat.succ_ne_zero, and_false, false_and, not_false_eq_true, not_true_eq_false, ite_true, ite_false, if_true, if_false, a6, e, e11]
  · rw [if_neg (by decide), ← nI_l (show vw.2.1 m < 2147483648 by omega)]
    simp (disch := omega) only [q_180_0, q_180_1, q_180_2, q_180_3, q_180_6, q_180_7, q_180_8, q_180_10, q_180_13, q_180_15, q_180_16, q_180_17, q_180_20, q_180_21, q_180_24, q_180_26, q_180_27, q_180_28, q_180_30, q_180_31, q_180_32, q_180_33, q_180_36, q_180_37, q_180_40, q_180_42, q_180_43, q_180_44, q_180_46, q_180_48, q_180_49, q_180_50, q_180_51, og_11_9, or_11_9, ow_11_9, og_11_10, or_11_10, ow_11_10, og_11_11, or_11_11, ow_11_11, o_is, o_ob, ofs_len11, ↓reduceIte, k_cr, k_ci, k_oR, k_oN, k_aR, k_aN, and_true, true_and, and_self, eq_self, Nat.reduceLT, Nat.reduceLeDiff, Nat.reduceEqDiff, Nat.reduceAdd, Nat.reduceMul, Bool.true_eq_false, Bool.false_eq_true, Nat.add_sub_cancel, Nat.not_lt_zero, Nat.zero_le, k_sub, k_sb1, k_r, k_n, k_ret, k_t1, k_t0, k_nr, k_nn, k_z0, k_z1, k_zb, x_okI, lit_nI, k_in, k_cl, k_lt, k_le, k_eq, k_neg, nI_add, nI_mul, k_clt, k_cgt, k_cle, k_cge, k_ceq, bI_0, k_sh8, ne_eq, Nat.add_eq_zero_iff, Nat.one_ne_zero, Nat.succ_ne_zero, and_false, false_and, not_false_eq_true, not_true_eq_false, ite_true, ite_false, if_true, if_false, a6, e, e10]
theorem in_cn {i : Int64} {n : Nat} (hn : n ≤ 8) : inL i 0 (nI n - nI 1).toInt64 = decide (0 ≤ i ∧ i < lN n) := by
  have h0 : (nI n - nI 1).toInt64.toInt = (n : Int) - 1 := by
    rw [Int32.toInt_toInt64, sb_int (by omega) (by omega)]
    rfl
  have h1 := inL_iff i 0 (nI n - nI 1).toInt64
  rw [h0, show (0 : Int64).toInt = 0 by decide] at h1
  have h2 : (lN n).toInt = (n : Int) := by
    rw [← nI_l (show n < 2147483648 by omega), Int32.toInt_toInt64, nI_toInt (by omega)]
  have h3 : (0 ≤ i ∧ i < lN n) ↔ (0 ≤ i.toInt ∧ i.toInt ≤ (n : Int) - 1) := by
    rw [Int64.le_iff_toInt_le, Int64.lt_iff_toInt_lt, h2, show (0 : Int64).toInt = 0 by decide]
    constructor <;> intro q <;> omega
  by_cases c : 0 ≤ i ∧ i < lN n
  · rw [decide_eq_true c]
    rw [h1]
    exact h3.mp c
  · rw [decide_eq_false c]
    cases hc : inL i 0 (nI n - nI 1).toInt64 with
    | false => rfl
    | true =>
      rw [hc] at h1
      exact absurd (h3.mpr (h1 ▸ rfl)) c
theorem ix_un {i : Int64} {n : Nat} (hn : n ≤ 8) (h : 0 ≤ i ∧ i < lN n) : un i < n ∧ i.toInt32 = nI (un i) := by
  have h2 : (lN n).toInt = (n : Int) := by
    rw [← nI_l (show n < 2147483648 by omega), Int32.toInt_toInt64, nI_toInt (by omega)]
  have h3 := Int64.le_iff_toInt_le.mp h.1
  have h4 := Int64.lt_iff_toInt_lt.mp h.2
  rw [show (0 : Int64).toInt = 0 by decide] at h3
  rw [h2] at h4
  have h5 := un_int i
  have h6 := un_lt i
  have h7 : un i < n := by
    split at h5 <;> omega
  refine ⟨h7, ?_⟩
  rw [k_32, Nat.mod_eq_of_lt (by omega)]
theorem wkS.push {S : gS} {f : Nat → Int64} {n : Nat} (h : wkS S f n) (x : Int64) : wkS (uI (uL S 59 n x) 60 (nI (n + 1))) (up f n x) (n + 1) := by
  refine ⟨rfl, h.2.1, fun q hq => ?_⟩
  show sL (uL S 59 n x) 59 q = up f n x q
  unfold up
  rw [sL_uL]
  by_cases c : q = n
  · rw [if_pos ⟨rfl, c⟩, if_pos c]
  · rw [if_neg (fun z => c z.2), if_neg c]
    exact h.2.2 q (by omega)
theorem wkS.top {S : gS} {f : Nat → Int64} {n m : Nat} (h : wkS S f n) (x : Int64) (hm : m ≤ n) (S2 : gS) (e2 : S2 = uI (uL S 59 (m - 1) x) 60 (nI m) ∨ S2 = uL (uI S 60 (nI m)) 59 (m - 1) x) : wkS S2 (up f (m - 1) x) m := by
  have key : sI S2 60 = nI m ∧ sI S2 61 = sI S 61 ∧ ∀ q, sL S2 59 q = if q = m - 1 then x else sL S 59 q := by
    rcases e2 with rfl | rfl
    · refine ⟨rfl, rfl, fun q => ?_⟩
      show sL (uL S 59 (m - 1) x) 59 q = _
      rw [sL_uL]
      by_cases c : q = m - 1
      · rw [if_pos ⟨rfl, c⟩, if_pos c]
      · rw [if_neg (fun z => c z.2), if_neg c]
    · refine ⟨rfl, rfl, fun q => ?_⟩
      rw [sL_uL]
      by_cases c : q = m - 1
      · rw [if_pos ⟨rfl, c⟩, if_pos c]
      · rw [if_neg (fun z => c z.2), if_neg c]
        rfl
  refine ⟨key.1, key.2.1.trans h.2.1, fun q hq => ?_⟩
  rw [key.2.2 q]
  unfold up
  by_cases c : q = m - 1
  · rw [if_pos c, if_pos c]
  · rw [if_neg c, if_neg c]
    exact h.2.2 q (by omega)
/-- what an act can be -/
def actW (e : kE) (a : aT) : Prop := (a.1 = nI 1 ∨ a.1 = nI 2 ∨ a.1 = nI 6 ∨ a.1 = nI 7 ∨ a.1 = nI 8 ∨ a.1 = nI 9 ∨ a.1 = nI 10 ∨ a.1 = nI 11) ∨ (a.1 = nI 3 ∨ a.1 = nI 4 ∨ a.1 = nI 5) ∧ ∃ m, e.1 a.2.1 = some m ∧ m < 8
/-- one act -/
theorem w_step (d : Nat) (h : xH) (M : Nat) (S : gS) {r b c n v i j k k2 : Nat} {vw : vW} {e : kE} {a : aT} {B : List aT} {f : Nat → Int64} {l5 l6 l7 : Nat × Value} (hV : wkV S b c n v vw) (he : ∀ w, e.1 w = eMs S b c n w) (hr : r < 699) (hi : i < j) (hj : j ≤ 700) (h48 : sA S 48 (r + 1) = nI j) (ha1 : sA S 50 i = a.1) (ha2 : sL S 51 i = a.2.1) (hW : actW e a) (hs : wkS S f k) (hk60 : k ≤ 60) (hO : hOK 60 (a :: B) k = some k2) : ∃ S1 m5 m6 m7, xrun (d + 2) 178 18 [(1, .ref M), (1, .int (nI r)), (1, .int (nI b)), (1, .int (nI v)), (1, .int (nI i)), l5, l6, l7, (0, .null)] [] (oh 11 h M S) = xrun (d + 2) 178 18 [(1, .ref M), (1, .int (nI r)), (1, .int (nI b)), (1, .int (nI v)), (1, .int (nI (i + 1))), m5, m6, m7, (0, .null)] [] (oh 11 h M S1) ∧ fr wkF S S1 ∧ (∀ z, evA e vw a f k = .inr z → wkS S1 z.1 z.2) ∧ ∀ q, evA e vw a f k = .inl q → sI S1 61 = nI q := by
  obtain ⟨g60, g61, g59⟩ := hs
  have hs : wkS S f k := ⟨g60, g61, g59⟩
  have hiI : ¬ j ≤ i := by omega
  have hV2 := hV
  obtain ⟨v1, v2, v3, v4, v5, v6, v7, v8, v9⟩ := hV2
  have hO2 : (if isPu a.1 = true then (if k < 60 then hOK 60 B (k + 1) else none) else if isOn a.1 = true then (if 1 ≤ k then hOK 60 B k else none) else (if 2 ≤ k then hOK 60 B (k - 1) else none)) = some k2 := hO
  -- what is pushed
  have pu : ∀ x : Int64, isPu a.1 = true → evM e vw a.1 a.2.1 = x → (k < 60 → xrun (d + 2) 178 18 [(1, .ref M), (1, .int (nI r)), (1, .int (nI b)), (1, .int (nI v)), (1, .int (nI i)), l5, l6, l7, (0, .null)] [] (oh 11 h M S) = xrun (d + 2) 178 18 [(1, .ref M), (1, .int (nI r)), (1, .int (nI b)), (1, .int (nI v)), (1, .int (nI (i + 1))), (1, .int a.1), l6, l7, (0, .null)] [] (oh 11 h M (uI (uL S 59 k x) 60 (nI (k + 1))))) → ∃ S1 m5 m6 m7, xrun (d + 2) 178 18 [(1, .ref M), (1, .int (nI r)), (1, .int (nI b)), (1, .int (nI v)), (1, .int (nI i)), l5, l6, l7, (0, .null)] [] (oh 11 h M S) = xrun (d + 2) 178 18 [(1, .ref M), (1, .int (nI r)), (1, .int (nI b)), (1, .int (nI v)), (1, .int (nI (i + 1))), m5, m6, m7, (0, .null)] [] (oh 11 h M S1) ∧ fr wkF S S1 ∧ (∀ z, evA e vw a f k = .inr z → wkS S1 z.1 z.2) ∧ ∀ q, evA e vw a f k = .inl q → sI S1 61 = nI q := by
    intro x hp hx hrun
    rw [if_pos hp] at hO2
    have hk : k < 60 := by
      by_cases c : k < 60
      · exact c
      · rw [if_neg c] at hO2
        cases hO2
    refine ⟨_, _, _, _, hrun hk, (fr.rfl.uL (by decide)).uI (by decide), fun z hz => ?_, fun q hq => ?_⟩
    · unfold evA at hz
      rw [if_pos hp, hx] at hz
      cases hz
      exact hs.push x
    · unfold evA at hq
      rw [if_pos hp] at hq
      cases hq
  rcases hW with (w | w | w | w) | ⟨w, m, hm, hm8⟩
  · refine pu a.2.1 (by rw [w]; decide) (by unfold evM; rw [if_pos w]) fun hk => ?_
    rw [w] at ha1 ⊢
    rw [q_178_18]
    simp (disch := omega) only [q_178_0, q_178_1, q_178_2, q_178_5, q_178_6, q_178_7, q_178_10, q_178_11, q_178_14, q_178_15, q_178_16, q_178_20, q_178_21, q_178_24, q_178_25, q_178_26, q_178_27, q_178_28, q_178_31, q_178_32, q_178_35, q_178_38, q_178_39, q_178_42, q_178_44, q_178_45, q_178_47, q_178_49, q_178_51, q_178_54, q_178_55, q_178_58, q_178_59, q_178_62, q_178_63, q_178_64, q_178_65, q_178_68, q_178_69, q_178_72, q_178_73, q_178_74, q_178_77, q_178_78, q_178_81, q_178_82, q_178_85, q_178_86, q_178_87, q_178_88, q_178_91, q_178_92, q_178_95, q_178_96, q_178_97, q_178_98, q_178_99, q_178_100, q_178_103, q_178_105, q_178_107, q_178_110, q_178_111, q_178_112, q_178_115, q_178_116, q_178_117, q_178_120, q_178_121, q_178_124, q_178_125, q_178_128, q_178_129, q_178_130, q_178_131, q_178_133, q_178_134, q_178_137, q_178_138, q_178_141, q_178_142, q_178_143, q_178_144, q_178_145, q_178_148, q_178_149, q_178_152, q_178_153, q_178_156, q_178_157, q_178_160, q_178_162, q_178_163, q_178_166, q_178_167, q_178_168, q_178_169, q_178_172, q_178_173, q_178_174, q_178_175, q_178_178, q_178_180, q_178_181, q_178_184, q_178_186, q_178_187, q_178_190, q_178_191, q_178_194, q_178_195, q_178_196, q_178_197, q_178_199, q_178_201, q_178_202, q_178_203, q_178_206, q_178_208, q_178_209, q_178_210, q_178_212, q_178_213, q_178_214, q_178_215, q_178_216, q_178_217, q_178_220, q_178_223, q_178_224, q_178_225, q_178_228, q_178_231, q_178_232, q_178_235, q_178_236, q_178_239, q_178_240, q_178_241, q_178_242, q_178_245, q_178_247, q_178_248, q_178_249, q_178_251, q_178_253, q_178_254, q_178_255, q_178_257, q_178_258, q_178_259, q_178_260, q_178_261, q_178_264, q_178_265, q_178_268, q_178_269, q_178_272, q_178_274, q_178_275, q_178_278, q_178_279, q_178_282, q_178_284, q_178_285, q_178_288, q_178_290, q_178_291, q_178_294, q_178_295, q_178_298, q_178_299, q_178_300, q_178_303, q_178_304, q_178_306, q_178_307, q_178_308, q_178_309, q_178_312, q_178_314, q_178_315, q_178_318, q_178_319, q_178_320, q_178_321, q_178_324, q_178_325, q_178_326, q_178_329, q_178_332, q_178_335, q_178_336, q_178_339, q_178_342, q_178_343, q_178_346, q_178_347, q_178_348, q_178_351, q_178_352, og_11_60, op_11_60, og_11_61, op_11_61, og_11_48, or_11_48, ow_11_48, og_11_50, or_11_50, ow_11_50, og_11_59, or_11_59, ow_11_59, og_11_9, or_11_9, ow_11_9, og_11_51, or_11_51, ow_11_51, og_11_10, or_11_10, ow_11_10, og_11_11, or_11_11, ow_11_11, og_11_8, or_11_8, ow_11_8, o_is, o_ob, ofs_len11, ↓reduceIte, k_cr, k_ci, k_oR, k_oN, k_aR, k_aN, and_true, true_and, and_self, eq_self, Nat.reduceLT, Nat.reduceLeDiff, Nat.reduceEqDiff, Nat.reduceAdd, Nat.reduceMul, Bool.true_eq_false, Bool.false_eq_true, Nat.add_sub_cancel, Nat.not_lt_zero, Nat.zero_le, k_sub, k_sb1, k_r, k_n, k_ret, k_t1, k_t0, k_nr, k_nn, k_z0, k_z1, k_zb, x_okI, lit_nI, k_in, k_cl, k_lt, k_le, k_eq, k_neg, nI_add, nI_mul, k_clt, k_cgt, k_cle, k_cge, k_ceq, bI_0, k_sh8, ne_eq, Nat.add_eq_zero_iff, Nat.one_ne_zero, Nat.succ_ne_zero, and_false, false_and, not_false_eq_true, not_true_eq_false, ite_true, ite_false, if_true, if_false, sI_uI, sJ_uI, sA_uI, sL_uI, sR_uI, sQ_uI, sI_uJ, sJ_uJ, sA_uJ, sL_uJ, sR_uJ, sQ_uJ, sI_uA, sJ_uA, sA_uA, sL_uA, sR_uA, sQ_uA, sI_uL, sJ_uL, sA_uL, sL_uL, sR_uL, sQ_uL, sI_uR, sJ_uR, sA_uR, sL_uR, sR_uR, sQ_uR, sI_uQ, sJ_uQ, sA_uQ, sL_uQ, sR_uQ, sQ_uQ, hiI, h48, g60, g61, ha1, ha2]
  · refine pu vw.1 (by rw [w]; decide) (by unfold evM; rw [w, if_neg (by decide), if_pos rfl]) fun hk => ?_
    rw [w] at ha1 ⊢
    rw [q_178_18]
    simp (disch := omega) only [q_178_0, q_178_1, q_178_2, q_178_5, q_178_6, q_178_7, q_178_10, q_178_11, q_178_14, q_178_15, q_178_16, q_178_20, q_178_21, q_178_24, q_178_25, q_178_26, q_178_27, q_178_28, q_178_31, q_178_32, q_178_35, q_178_38, q_178_39, q_178_42, q_178_44, q_178_45, q_178_47, q_178_49, q_178_51, q_178_54, q_178_55, q_178_58, q_178_59, q_178_62, q_178_63, q_178_64, q_178_65, q_178_68, q_178_69, q_178_72, q_178_73, q_178_74, q_178_77, q_178_78, q_178_81, q_178_82, q_178_85, q_178_86, q_178_87, q_178_88, q_178_91, q_178_92, q_178_95, q_178_96, q_178_97, q_178_98, q_178_99, q_178_100, q_178_103, q_178_105, q_178_107, q_178_110, q_178_111, q_178_112, q_178_115, q_178_116, q_178_117, q_178_120, q_178_121, q_178_124, q_178_125, q_178_128, q_178_129, q_178_130, q_178_131, q_178_133, q_178_134, q_178_137, q_178_138, q_178_141, q_178_142, q_178_143, q_178_144, q_178_145, q_178_148, q_178_149, q_178_152, q_178_153, q_178_156, q_178_157, q_178_160, q_178_162, q_178_163, q_178_166, q_178_167, q_178_168, q_178_169, q_178_172, q_178_173, q_178_174, q_178_175, q_178_178, q_178_180, q_178_181, q_178_184, q_178_186, q_178_187, q_178_190, q_178_191, q_178_194, q_178_195, q_178_196, q_178_197, q_178_199, q_178_201, q_178_202, q_178_203, q_178_206, q_178_208, q_178_209, q_178_210, q_178_212, q_178_213, q_178_214, q_178_215, q_178_216, q_178_217, q_178_220, q_178_223, q_178_224, q_178_225, q_178_228, q_178_231, q_178_232, q_178_235, q_178_236, q_178_239, q_178_240, q_178_241, q_178_242, q_178_245, q_178_247, q_178_248, q_178_249, q_178_251, q_178_253, q_178_254, q_178_255, q_178_257, q_178_258, q_178_259, q_178_260, q_178_261, q_178_264, q_178_265, q_178_268, q_178_269, q_178_272, q_178_274, q_178_275, q_178_278, q_178_279, q_178_282, q_178_284, q_178_285, q_178_288, q_178_290, q_178_291, q_178_294, q_178_295, q_178_298, q_178_299, q_178_300, q_178_303, q_178_304, q_178_306, q_178_307, q_178_308, q_178_309, q_178_312, q_178_314, q_178_315, q_178_318, q_178_319, q_178_320, q_178_321, q_178_324, q_178_325, q_178_326, q_178_329, q_178_332, q_178_335, q_178_336, q_178_339, q_178_342, q_178_343, q_178_346, q_178_347, q_178_348, q_178_351, q_178_352, og_11_60, op_11_60, og_11_61, op_11_61, og_11_48, or_11_48, ow_11_48, og_11_50, or_11_50, ow_11_50, og_11_59, or_11_59, ow_11_59, og_11_9, or_11_9, ow_11_9, og_11_51, or_11_51, ow_11_51, og_11_10, or_11_10, ow_11_10, og_11_11, or_11_11, ow_11_11, og_11_8, or_11_8, ow_11_8, o_is, o_ob, ofs_len11, ↓reduceIte, k_cr, k_ci, k_oR, k_oN, k_aR, k_aN, and_true, true_and, and_self, eq_self, Nat.reduceLT, Nat.reduceLeDiff, Nat.reduceEqDiff, Nat.reduceAdd, Nat.reduceMul, Bool.true_eq_false, Bool.false_eq_true, Nat.add_sub_cancel, Nat.not_lt_zero, Nat.zero_le, k_sub, k_sb1, k_r, k_n, k_ret, k_t1, k_t0, k_nr, k_nn, k_z0, k_z1, k_zb, x_okI, lit_nI, k_in, k_cl, k_lt, k_le, k_eq, k_neg, nI_add, nI_mul, k_clt, k_cgt, k_cle, k_cge, k_ceq, bI_0, k_sh8, ne_eq, Nat.add_eq_zero_iff, Nat.one_ne_zero, Nat.succ_ne_zero, and_false, false_and, not_false_eq_true, not_true_eq_false, ite_true, ite_false, if_true, if_false, sI_uI, sJ_uI, sA_uI, sL_uI, sR_uI, sQ_uI, sI_uJ, sJ_uJ, sA_uJ, sL_uJ, sR_uJ, sQ_uJ, sI_uA, sJ_uA, sA_uA, sL_uA, sR_uA, sQ_uA, sI_uL, sJ_uL, sA_uL, sL_uL, sR_uL, sQ_uL, sI_uR, sJ_uR, sA_uR, sL_uR, sR_uR, sQ_uR, sI_uQ, sJ_uQ, sA_uQ, sL_uQ, sR_uQ, sQ_uQ, hiI, h48, g60, g61, ha1, v7]
  · -- minus
    have hp : isPu a.1 = false := by
      rw [w]
      decide
    have ho : isOn a.1 = true := by
      rw [w]
      decide
    rw [if_neg (by rw [hp]; decide), if_pos ho] at hO2
    have hk : 1 ≤ k := by
      by_cases c : 1 ≤ k
      · exact c
      · rw [if_neg c] at hO2
        cases hO2
    obtain ⟨y, rfl⟩ : ∃ y, k = y + 1 := ⟨k - 1, by omega⟩
    have hy60 : y < 60 := by omega
    have gy := g59 y (by omega)
    have ev : evA e vw a f (y + 1) = (match evO e vw a (f y) with
      | .inl k => .inl k
      | .inr x => .inr (up f y x, y + 1)) := by
      unfold evA
      rw [if_neg (by rw [hp]; decide), if_pos ho]
      rfl
    have eo : evO e vw a (f y) = if f y = -9223372036854775808 then .inl 2 else .inr (-f y) := by
      unfold evO
      rw [w, if_neg (by decide)]
    rw [w] at ha1
    rw [ev, eo]
    by_cases c : f y = -9223372036854775808
    · rw [if_pos c]
      refine ⟨uL (uI S 61 (nI 2)) 59 y (-f y), (1, .int (nI 6)), l6, l7, ?_, (fr.rfl.uI (by decide)).uL (by decide), fun z hz => (by cases hz), fun q hq => by cases hq; rfl⟩
      rw [q_178_18]
      simp (disch := omega) only [q_178_0, q_178_1, q_178_2, q_178_5, q_178_6, q_178_7, q_178_10, q_178_11, q_178_14, q_178_15, q_178_16, q_178_20, q_178_21, q_178_24, q_178_25, q_178_26, q_178_27, q_178_28, q_178_31, q_178_32, q_178_35, q_178_38, q_178_39, q_178_42, q_178_44, q_178_45, q_178_47, q_178_49, q_178_51, q_178_54, q_178_55, q_178_58, q_178_59, q_178_62, q_178_63, q_178_64, q_178_65, q_178_68, q_178_69, q_178_72, q_178_73, q_178_74, q_178_77, q_178_78, q_178_81, q_178_82, q_178_85, q_178_86, q_178_87, q_178_88, q_178_91, q_178_92, q_178_95, q_178_96, q_178_97, q_178_98, q_178_99, q_178_100, q_178_103, q_178_105, q_178_107, q_178_110, q_178_111, q_178_112, q_178_115, q_178_116, q_178_117, q_178_120, q_178_121, q_178_124, q_178_125, q_178_128, q_178_129, q_178_130, q_178_131, q_178_133, q_178_134, q_178_137, q_178_138, q_178_141, q_178_142, q_178_143, q_178_144, q_178_145, q_178_148, q_178_149, q_178_152, q_178_153, q_178_156, q_178_157, q_178_160, q_178_162, q_178_163, q_178_166, q_178_167, q_178_168, q_178_169, q_178_172, q_178_173, q_178_174, q_178_175, q_178_178, q_178_180, q_178_181, q_178_184, q_178_186, q_178_187, q_178_190, q_178_191, q_178_194, q_178_195, q_178_196, q_178_197, q_178_199, q_178_201, q_178_202, q_178_203, q_178_206, q_178_208, q_178_209, q_178_210, q_178_212, q_178_213, q_178_214, q_178_215, q_178_216, q_178_217, q_178_220, q_178_223, q_178_224, q_178_225, q_178_228, q_178_231, q_178_232, q_178_235, q_178_236, q_178_239, q_178_240, q_178_241, q_178_242, q_178_245, q_178_247, q_178_248, q_178_249, q_178_251, q_178_253, q_178_254, q_178_255, q_178_257, q_178_258, q_178_259, q_178_260, q_178_261, q_178_264, q_178_265, q_178_268, q_178_269, q_178_272, q_178_274, q_178_275, q_178_278, q_178_279, q_178_282, q_178_284, q_178_285, q_178_288, q_178_290, q_178_291, q_178_294, q_178_295, q_178_298, q_178_299, q_178_300, q_178_303, q_178_304, q_178_306, q_178_307, q_178_308, q_178_309, q_178_312, q_178_314, q_178_315, q_178_318, q_178_319, q_178_320, q_178_321, q_178_324, q_178_325, q_178_326, q_178_329, q_178_332, q_178_335, q_178_336, q_178_339, q_178_342, q_178_343, q_178_346, q_178_347, q_178_348, q_178_351, q_178_352, og_11_60, op_11_60, og_11_61, op_11_61, og_11_48, or_11_48, ow_11_48, og_11_50, or_11_50, ow_11_50, og_11_59, or_11_59, ow_11_59, og_11_9, or_11_9, ow_11_9, og_11_51, or_11_51, ow_11_51, og_11_10, or_11_10, ow_11_10, og_11_11, or_11_11, ow_11_11, og_11_8, or_11_8, ow_11_8, o_is, o_ob, ofs_len11, ↓reduceIte, k_cr, k_ci, k_oR, k_oN, k_aR, k_aN, and_true, true_and, and_self, eq_self, Nat.reduceLT, Nat.reduceLeDiff, Nat.reduceEqDiff, Nat.reduceAdd, Nat.reduceMul, Bool.true_eq_false, Bool.false_eq_true, Nat.add_sub_cancel, Nat.not_lt_zero, Nat.zero_le, k_sub, k_sb1, k_r, k_n, k_ret, k_t1, k_t0, k_nr, k_nn, k_z0, k_z1, k_zb, x_okI, lit_nI, k_in, k_cl, k_lt, k_le, k_eq, k_neg, nI_add, nI_mul, k_clt, k_cgt, k_cle, k_cge, k_ceq, bI_0, k_sh8, ne_eq, Nat.add_eq_zero_iff, Nat.one_ne_zero, Nat.succ_ne_zero, and_false, false_and, not_false_eq_true, not_true_eq_false, ite_true, ite_false, if_true, if_false, sI_uI, sJ_uI, sA_uI, sL_uI, sR_uI, sQ_uI, sI_uJ, sJ_uJ, sA_uJ, sL_uJ, sR_uJ, sQ_uJ, sI_uA, sJ_uA, sA_uA, sL_uA, sR_uA, sQ_uA, sI_uL, sJ_uL, sA_uL, sL_uL, sR_uL, sQ_uL, sI_uR, sJ_uR, sA_uR, sL_uR, sR_uR, sQ_uR, sI_uQ, sJ_uQ, sA_uQ, sL_uQ, sR_uQ, sQ_uQ, hiI, h48, g60, g61, ha1, gy, c]
    · rw [if_neg c]
      refine ⟨uL S 59 y (-f y), (1, .int (nI 6)), l6, l7, ?_, fr.rfl.uL (by decide), fun z hz => ?_, fun q hq => by cases hq⟩
      · rw [q_178_18]
        simp (disch := omega) only [q_178_0, q_178_1, q_178_2, q_178_5, q_178_6, q_178_7, q_178_10, q_178_11, q_178_14, q_178_15, q_178_16, q_178_20, q_178_21, q_178_24, q_178_25, q_178_26, q_178_27, q_178_28, q_178_31, q_178_32, q_178_35, q_178_38, q_178_39, q_178_42, q_178_44, q_178_45, q_178_47, q_178_49, q_178_51, q_178_54, q_178_55, q_178_58, q_178_59, q_178_62, q_178_63, q_178_64, q_178_65, q_178_68, q_178_69, q_178_72, q_178_73, q_178_74, q_178_77, q_178_78, q_178_81, q_178_82, q_178_85, q_178_86, q_178_87, q_178_88, q_178_91, q_178_92, q_178_95, q_178_96, q_178_97, q_178_98, q_178_99, q_178_100, q_178_103, q_178_105, q_178_107, q_178_110, q_178_111, q_178_112, q_178_115, q_178_116, q_178_117, q_178_120, q_178_121, q_178_124, q_178_125, q_178_128, q_178_129, q_178_130, q_178_131, q_178_133, q_178_134, q_178_137, q_178_138, q_178_141, q_178_142, q_178_143, q_178_144, q_178_145, q_178_148, q_178_149, q_178_152, q_178_153, q_178_156, q_178_157, q_178_160, q_178_162, q_178_163, q_178_166, q_178_167, q_178_168, q_178_169, q_178_172, q_178_173, q_178_174, q_178_175, q_178_178, q_178_180, q_178_181, q_178_184, q_178_186, q_178_187, q_178_190, q_178_191, q_178_194, q_178_195, q_178_196, q_178_197, q_178_199, q_178_201, q_178_202, q_178_203, q_178_206, q_178_208, q_178_209, q_178_210, q_178_212, q_178_213, q_178_214, q_178_215, q_178_216, q_178_217, q_178_220, q_178_223, q_178_224, q_178_225, q_178_228, q_178_231, q_178_232, q_178_235, q_178_236, q_178_239, q_178_240, q_178_241, q_178_242, q_178_245, q_178_247, q_178_248, q_178_249, q_178_251, q_178_253, q_178_254, q_178_255, q_178_257, q_178_258, q_178_259, q_178_260, q_178_261, q_178_264, q_178_265, q_178_268, q_178_269, q_178_272, q_178_274, q_178_275, q_178_278, q_178_279, q_178_282, q_178_284, q_178_285, q_178_288, q_178_290, q_178_291, q_178_294, q_178_295, q_178_298, q_178_299, q_178_300, q_178_303, q_178_304, q_178_306, q_178_307, q_178_308, q_178_309, q_178_312, q_178_314, q_178_315, q_178_318, q_178_319, q_178_320, q_178_321, q_178_324, q_178_325, q_178_326, q_178_329, q_178_332, q_178_335, q_178_336, q_178_339, q_178_342, q_178_343, q_178_346, q_178_347, q_178_348, q_178_351, q_178_352, og_11_60, op_11_60, og_11_61, op_11_61, og_11_48, or_11_48, ow_11_48, og_11_50, or_11_50, ow_11_50, og_11_59, or_11_59, ow_11_59, og_11_9, or_11_9, ow_11_9, og_11_51, or_11_51, ow_11_51, og_11_10, or_11_10, ow_11_10, og_11_11, or_11_11, ow_11_11, og_11_8, or_11_8, ow_11_8, o_is, o_ob, ofs_len11, ↓reduceIte, k_cr, k_ci, k_oR, k_oN, k_aR, k_aN, and_true, true_and, and_self, eq_self, Nat.reduceLT, Nat.reduceLeDiff, Nat.reduceEqDiff, Nat.reduceAdd, Nat.reduceMul, Bool.true_eq_false, Bool.false_eq_true, Nat.add_sub_cancel, Nat.not_lt_zero, Nat.zero_le, k_sub, k_sb1, k_r, k_n, k_ret, k_t1, k_t0, k_nr, k_nn, k_z0, k_z1, k_zb, x_okI, lit_nI, k_in, k_cl, k_lt, k_le, k_eq, k_neg, nI_add, nI_mul, k_clt, k_cgt, k_cle, k_cge, k_ceq, bI_0, k_sh8, ne_eq, Nat.add_eq_zero_iff, Nat.one_ne_zero, Nat.succ_ne_zero, and_false, false_and, not_false_eq_true, not_true_eq_false, ite_true, ite_false, if_true, if_false, sI_uI, sJ_uI, sA_uI, sL_uI, sR_uI, sQ_uI, sI_uJ, sJ_uJ, sA_uJ, sL_uJ, sR_uJ, sQ_uJ, sI_uA, sJ_uA, sA_uA, sL_uA, sR_uA, sQ_uA, sI_uL, sJ_uL, sA_uL, sL_uL, sR_uL, sQ_uL, sI_uR, sJ_uR, sA_uR, sL_uR, sR_uR, sQ_uR, sI_uQ, sJ_uQ, sA_uQ, sL_uQ, sR_uQ, sQ_uQ, hiI, h48, g60, g61, ha1, gy, c]
      · cases hz
        have := hs.top (m := y + 1) (-f y) (Nat.le_refl _) (uL (uI S 60 (nI (y + 1))) 59 (y + 1 - 1) (-f y)) (Or.inr rfl)
        rw [uI_same _ _ _ g60] at this
        exact this
  · -- two
    have hp : isPu a.1 = false ∧ isOn a.1 = false := by
      rcases w with w | w | w | w | w <;> rw [w] <;> decide
    rw [if_neg (by rw [hp.1]; decide), if_neg (by rw [hp.2]; decide)] at hO2
    have hk : 2 ≤ k := by
      by_cases c : 2 ≤ k
      · exact c
      · rw [if_neg c] at hO2
        cases hO2
    obtain ⟨y, rfl⟩ : ∃ y, k = y + 2 := ⟨k - 2, by omega⟩
    have hy60 : y + 1 < 60 := by omega
    have gy := g59 y (by omega)
    have gy1 := g59 (y + 1) (by omega)
    obtain ⟨x, S2, ex, x1, x2⟩ := m_rk (d + 1) h M (uI S 60 (nI (y + 1))) (f y) (f (y + 1)) a.1 w
    have ev : evA e vw a f (y + 2) = (match rk a.1 (f y) (f (y + 1)) with
      | .inl k => .inl k
      | .inr x => .inr (up f y x, y + 1)) := by
      unfold evA
      rw [if_neg (by rw [hp.1]; decide), if_neg (by rw [hp.2]; decide)]
      rfl
    rw [ev]
    have h7 : ¬ a.1 < nI 7 ∧ ¬ a.1 = nI 6 := by
      rcases w with w | w | w | w | w <;> rw [w] <;> decide
    have hrun : xrun (d + 2) 178 18 [(1, .ref M), (1, .int (nI r)), (1, .int (nI b)), (1, .int (nI v)), (1, .int (nI i)), l5, l6, l7, (0, .null)] [] (oh 11 h M S) = xrun (d + 2) 178 18 [(1, .ref M), (1, .int (nI r)), (1, .int (nI b)), (1, .int (nI v)), (1, .int (nI (i + 1))), (1, .int a.1), l6, l7, (0, .null)] [] (oh 11 h M (uL S2 59 y x)) := by
      rw [q_178_18]
      generalize a.1 = aw at *
      simp (disch := omega) only [q_178_0, q_178_1, q_178_2, q_178_5, q_178_6, q_178_7, q_178_10, q_178_11, q_178_14, q_178_15, q_178_16, q_178_20, q_178_21, q_178_24, q_178_25, q_178_26, q_178_27, q_178_28, q_178_31, q_178_32, q_178_35, q_178_38, q_178_39, q_178_42, q_178_44, q_178_45, q_178_47, q_178_49, q_178_51, q_178_54, q_178_55, q_178_58, q_178_59, q_178_62, q_178_63, q_178_64, q_178_65, q_178_68, q_178_69, q_178_72, q_178_73, q_178_74, q_178_77, q_178_78, q_178_81, q_178_82, q_178_85, q_178_86, q_178_87, q_178_88, q_178_91, q_178_92, q_178_95, q_178_96, q_178_97, q_178_98, q_178_99, q_178_100, q_178_103, q_178_105, q_178_107, q_178_110, q_178_111, q_178_112, q_178_115, q_178_116, q_178_117, q_178_120, q_178_121, q_178_124, q_178_125, q_178_128, q_178_129, q_178_130, q_178_131, q_178_133, q_178_134, q_178_137, q_178_138, q_178_141, q_178_142, q_178_143, q_178_144, q_178_145, q_178_148, q_178_149, q_178_152, q_178_153, q_178_156, q_178_157, q_178_160, q_178_162, q_178_163, q_178_166, q_178_167, q_178_168, q_178_169, q_178_172, q_178_173, q_178_174, q_178_175, q_178_178, q_178_180, q_178_181, q_178_184, q_178_186, q_178_187, q_178_190, q_178_191, q_178_194, q_178_195, q_178_196, q_178_197, q_178_199, q_178_201, q_178_202, q_178_203, q_178_206, q_178_208, q_178_209, q_178_210, q_178_212, q_178_213, q_178_214, q_178_215, q_178_216, q_178_217, q_178_220, q_178_223, q_178_224, q_178_225, q_178_228, q_178_231, q_178_232, q_178_235, q_178_236, q_178_239, q_178_240, q_178_241, q_178_242, q_178_245, q_178_247, q_178_248, q_178_249, q_178_251, q_178_253, q_178_254, q_178_255, q_178_257, q_178_258, q_178_259, q_178_260, q_178_261, q_178_264, q_178_265, q_178_268, q_178_269, q_178_272, q_178_274, q_178_275, q_178_278, q_178_279, q_178_282, q_178_284, q_178_285, q_178_288, q_178_290, q_178_291, q_178_294, q_178_295, q_178_298, q_178_299, q_178_300, q_178_303, q_178_304, q_178_306, q_178_307, q_178_308, q_178_309, q_178_312, q_178_314, q_178_315, q_178_318, q_178_319, q_178_320, q_178_321, q_178_324, q_178_325, q_178_326, q_178_329, q_178_332, q_178_335, q_178_336, q_178_339, q_178_342, q_178_343, q_178_346, q_178_347, q_178_348, q_178_351, q_178_352, og_11_60, op_11_60, og_11_61, op_11_61, og_11_48, or_11_48, ow_11_48, og_11_50, or_11_50, ow_11_50, og_11_59, or_11_59, ow_11_59, og_11_9, or_11_9, ow_11_9, og_11_51, or_11_51, ow_11_51, og_11_10, or_11_10, ow_11_10, og_11_11, or_11_11, ow_11_11, og_11_8, or_11_8, ow_11_8, o_is, o_ob, ofs_len11, ↓reduceIte, k_cr, k_ci, k_oR, k_oN, k_aR, k_aN, and_true, true_and, and_self, eq_self, Nat.reduceLT, Nat.reduceLeDiff, Nat.reduceEqDiff, Nat.reduceAdd, Nat.reduceMul, Bool.true_eq_false, Bool.false_eq_true, Nat.add_sub_cancel, Nat.not_lt_zero, Nat.zero_le, k_sub, k_sb1, k_r, k_n, k_ret, k_t1, k_t0, k_nr, k_nn, k_z0, k_z1, k_zb, x_okI, lit_nI, k_in, k_cl, k_lt, k_le, k_eq, k_neg, nI_add, nI_mul, k_clt, k_cgt, k_cle, k_cge, k_ceq, bI_0, k_sh8, ne_eq, Nat.add_eq_zero_iff, Nat.one_ne_zero, Nat.succ_ne_zero, and_false, false_and, not_false_eq_true, not_true_eq_false, ite_true, ite_false, if_true, if_false, sI_uI, sJ_uI, sA_uI, sL_uI, sR_uI, sQ_uI, sI_uJ, sJ_uJ, sA_uJ, sL_uJ, sR_uJ, sQ_uJ, sI_uA, sJ_uA, sA_uA, sL_uA, sR_uA, sQ_uA, sI_uL, sJ_uL, sA_uL, sL_uL, sR_uL, sQ_uL, sI_uR, sJ_uR, sA_uR, sL_uR, sR_uR, sQ_uR, sI_uQ, sJ_uQ, sA_uQ, sL_uQ, sR_uQ, sQ_uQ, hiI, h48, g60, g61, ha1, gy, gy1, h7.1, h7.2, ex, show y + 2 - 1 = y + 1 from rfl]
    cases hq : rk a.1 (f y) (f (y + 1)) with
    | inl q =>
      have e2 := x2 q hq
      subst e2
      exact ⟨_, _, _, _, hrun, ((fr.rfl.uI (by decide)).uI (by decide)).uL (by decide), fun z hz => (by cases hz), fun q2 hq2 => by cases hq2; rfl⟩
    | inr t =>
      obtain ⟨e1, e2⟩ := x1 t hq
      subst e1
      subst e2
      refine ⟨_, _, _, _, hrun, (fr.rfl.uI (by decide)).uL (by decide), fun z hz => ?_, fun q2 hq2 => by cases hq2⟩
      cases hz
      exact hs.top (m := y + 1) x (by omega) _ (Or.inr rfl)
  · have hm2 : eMs S b c n a.2.1 = some m := by
      rw [← he]
      exact hm
    rcases w with w | w | w
    · have ex := m_simple d h M S hV hm2 (w := 3) (Or.inl rfl)
      rw [if_pos rfl] at ex
      refine pu (vw.2.2 m 0) (by rw [w]; decide) (by unfold evM; rw [w, if_neg (by decide), if_neg (by decide), hm]; exact if_pos rfl) fun hk => ?_
      rw [w] at ha1 ⊢
      rw [q_178_18]
      simp (disch := omega) only [q_178_0, q_178_1, q_178_2, q_178_5, q_178_6, q_178_7, q_178_10, q_178_11, q_178_14, q_178_15, q_178_16, q_178_20, q_178_21, q_178_24, q_178_25, q_178_26, q_178_27, q_178_28, q_178_31, q_178_32, q_178_35, q_178_38, q_178_39, q_178_42, q_178_44, q_178_45, q_178_47, q_178_49, q_178_51, q_178_54, q_178_55, q_178_58, q_178_59, q_178_62, q_178_63, q_178_64, q_178_65, q_178_68, q_178_69, q_178_72, q_178_73, q_178_74, q_178_77, q_178_78, q_178_81, q_178_82, q_178_85, q_178_86, q_178_87, q_178_88, q_178_91, q_178_92, q_178_95, q_178_96, q_178_97, q_178_98, q_178_99, q_178_100, q_178_103, q_178_105, q_178_107, q_178_110, q_178_111, q_178_112, q_178_115, q_178_116, q_178_117, q_178_120, q_178_121, q_178_124, q_178_125, q_178_128, q_178_129, q_178_130, q_178_131, q_178_133, q_178_134, q_178_137, q_178_138, q_178_141, q_178_142, q_178_143, q_178_144, q_178_145, q_178_148, q_178_149, q_178_152, q_178_153, q_178_156, q_178_157, q_178_160, q_178_162, q_178_163, q_178_166, q_178_167, q_178_168, q_178_169, q_178_172, q_178_173, q_178_174, q_178_175, q_178_178, q_178_180, q_178_181, q_178_184, q_178_186, q_178_187, q_178_190, q_178_191, q_178_194, q_178_195, q_178_196, q_178_197, q_178_199, q_178_201, q_178_202, q_178_203, q_178_206, q_178_208, q_178_209, q_178_210, q_178_212, q_178_213, q_178_214, q_178_215, q_178_216, q_178_217, q_178_220, q_178_223, q_178_224, q_178_225, q_178_228, q_178_231, q_178_232, q_178_235, q_178_236, q_178_239, q_178_240, q_178_241, q_178_242, q_178_245, q_178_247, q_178_248, q_178_249, q_178_251, q_178_253, q_178_254, q_178_255, q_178_257, q_178_258, q_178_259, q_178_260, q_178_261, q_178_264, q_178_265, q_178_268, q_178_269, q_178_272, q_178_274, q_178_275, q_178_278, q_178_279, q_178_282, q_178_284, q_178_285, q_178_288, q_178_290, q_178_291, q_178_294, q_178_295, q_178_298, q_178_299, q_178_300, q_178_303, q_178_304, q_178_306, q_178_307, q_178_308, q_178_309, q_178_312, q_178_314, q_178_315, q_178_318, q_178_319, q_178_320, q_178_321, q_178_324, q_178_325, q_178_326, q_178_329, q_178_332, q_178_335, q_178_336, q_178_339, q_178_342, q_178_343, q_178_346, q_178_347, q_178_348, q_178_351, q_178_352, og_11_60, op_11_60, og_11_61, op_11_61, og_11_48, or_11_48, ow_11_48, og_11_50, or_11_50, ow_11_50, og_11_59, or_11_59, ow_11_59, og_11_9, or_11_9, ow_11_9, og_11_51, or_11_51, ow_11_51, og_11_10, or_11_10, ow_11_10, og_11_11, or_11_11, ow_11_11, og_11_8, or_11_8, ow_11_8, o_is, o_ob, ofs_len11, ↓reduceIte, k_cr, k_ci, k_oR, k_oN, k_aR, k_aN, and_true, true_and, and_self, eq_self, Nat.reduceLT, Nat.reduceLeDiff, Nat.reduceEqDiff, Nat.reduceAdd, Nat.reduceMul, Bool.true_eq_false, Bool.false_eq_true, Nat.add_sub_cancel, Nat.not_lt_zero, Nat.zero_le, k_sub, k_sb1, k_r, k_n, k_ret, k_t1, k_t0, k_nr, k_nn, k_z0, k_z1, k_zb, x_okI, lit_nI, k_in, k_cl, k_lt, k_le, k_eq, k_neg, nI_add, nI_mul, k_clt, k_cgt, k_cle, k_cge, k_ceq, bI_0, k_sh8, ne_eq, Nat.add_eq_zero_iff, Nat.one_ne_zero, Nat.succ_ne_zero, and_false, false_and, not_false_eq_true, not_true_eq_false, ite_true, ite_false, if_true, if_false, sI_uI, sJ_uI, sA_uI, sL_uI, sR_uI, sQ_uI, sI_uJ, sJ_uJ, sA_uJ, sL_uJ, sR_uJ, sQ_uJ, sI_uA, sJ_uA, sA_uA, sL_uA, sR_uA, sQ_uA, sI_uL, sJ_uL, sA_uL, sL_uL, sR_uL, sQ_uL, sI_uR, sJ_uR, sA_uR, sL_uR, sR_uR, sQ_uR, sI_uQ, sJ_uQ, sA_uQ, sL_uQ, sR_uQ, sQ_uQ, hiI, h48, g60, g61, ha1, ha2, ex]
    · -- an element
      have hp : isPu a.1 = false := by
        rw [w]
        decide
      have ho : isOn a.1 = true := by
        rw [w]
        decide
      rw [if_neg (by rw [hp]; decide), if_pos ho] at hO2
      have hk : 1 ≤ k := by
        by_cases c : 1 ≤ k
        · exact c
        · rw [if_neg c] at hO2
          cases hO2
      obtain ⟨y, rfl⟩ : ∃ y, k = y + 1 := ⟨k - 1, by omega⟩
      have hy60 : y < 60 := by omega
      have gy := g59 y (by omega)
      have ev : evA e vw a f (y + 1) = (match evO e vw a (f y) with
        | .inl k => .inl k
        | .inr x => .inr (up f y x, y + 1)) := by
        unfold evA
        rw [if_neg (by rw [hp]; decide), if_pos ho]
        rfl
      have eo : evO e vw a (f y) = if 0 ≤ f y ∧ f y < lN (vw.2.1 m) then .inr (vw.2.2 m (un (f y))) else .inl 5 := by
        unfold evO evI
        rw [w, if_pos rfl, hm]
        rfl
      have eF := m_findMember (d + 1) h M S b c n a.2.1 v1 v2 v3 v4
      rw [show fnd (fun i => sL S 3 (8 * (6 * b + c) + i)) a.2.1 n = some m from hm2] at eF
      have eF : xm (d + 2) 133 [.ref M, .int (nI b), .int (nI c), .long a.2.1] (oh 11 h M S) = some (some (.int (nI m)), oh 11 h M S) := eF
      have e10 := (v8 m hm8).1
      have e8 := (v8 m hm8).2
      have eI : xm (d + 2) 127 [.long (f y), .long 0, .long (nI (vw.2.1 m) - nI 1).toInt64] (oh 11 h M S) = _ := m_inL (d + 1) (oh 11 h M S) (f y) 0 (nI (vw.2.1 m) - nI 1).toInt64
      rw [in_cn e8] at eI
      rw [w] at ha1
      rw [ev, eo]
      by_cases c0 : 0 ≤ f y ∧ f y < lN (vw.2.1 m)
      · rw [if_pos c0]
        rw [decide_eq_true c0, bI_t] at eI
        obtain ⟨u1, u2⟩ := ix_un e8 c0
        have e11 := v9 m (un (f y)) hm8 (by omega)
        refine ⟨uL S 59 y (vw.2.2 m (un (f y))), (1, .int (nI 4)), (1, .int (nI m)), (2, .long (f y)), ?_, fr.rfl.uL (by decide), fun z hz => ?_, fun q hq => by cases hq⟩
        · rw [q_178_18]
          by_cases c1 : 1 ≤ vw.2.1 m
          · rw [k_sub c1] at eI
            simp (disch := omega) only [q_178_0, q_178_1, q_178_2, q_178_5, q_178_6, q_178_7, q_178_10, q_178_11, q_178_14, q_178_15, q_178_16, q_178_20, q_178_21, q_178_24, q_178_25, q_178_26, q_178_27, q_178_28, q_178_31, q_178_32, q_178_35, q_178_38, q_178_39, q_178_42, q_178_44, q_178_45, q_178_47, q_178_49, q_178_51, q_178_54, q_178_55, q_178_58, q_178_59, q_178_62, q_178_63, q_178_64, q_178_65, q_178_68, q_178_69, q_178_72, q_178_73, q_178_74, q_178_77, q_178_78, q_178_81, q_178_82, q_178_85, q_178_86, q_178_87, q_178_88, q_178_91, q_178_92, q_178_95, q_178_96, q_178_97, q_178_98, q_178_99, q_178_100, q_178_103, q_178_105, q_178_107, q_178_110, q_178_111, q_178_112, q_178_115, q_178_116, q_178_117, q_178_120, q_178_121, q_178_124, q_178_125, q_178_128, q_178_129, q_178_130, q_178_131, q_178_133, q_178_134, q_178_137, q_178_138, q_178_141, q_178_142, q_178_143, q_178_144, q_178_145, q_178_148, q_178_149, q_178_152, q_178_153, q_178_156, q_178_157, q_178_160, q_178_162, q_178_163, q_178_166, q_178_167, q_178_168, q_178_169, q_178_172, q_178_173, q_178_174, q_178_175, q_178_178, q_178_180, q_178_181, q_178_184, q_178_186, q_178_187, q_178_190, q_178_191, q_178_194, q_178_195, q_178_196, q_178_197, q_178_199, q_178_201, q_178_202, q_178_203, q_178_206, q_178_208, q_178_209, q_178_210, q_178_212, q_178_213, q_178_214, q_178_215, q_178_216, q_178_217, q_178_220, q_178_223, q_178_224, q_178_225, q_178_228, q_178_231, q_178_232, q_178_235, q_178_236, q_178_239, q_178_240, q_178_241, q_178_242, q_178_245, q_178_247, q_178_248, q_178_249, q_178_251, q_178_253, q_178_254, q_178_255, q_178_257, q_178_258, q_178_259, q_178_260, q_178_261, q_178_264, q_178_265, q_178_268, q_178_269, q_178_272, q_178_274, q_178_275, q_178_278, q_178_279, q_178_282, q_178_284, q_178_285, q_178_288, q_178_290, q_178_291, q_178_294, q_178_295, q_178_298, q_178_299, q_178_300, q_178_303, q_178_304, q_178_306, q_178_307, q_178_308, q_178_309, q_178_312, q_178_314, q_178_315, q_178_318, q_178_319, q_178_320, q_178_321, q_178_324, q_178_325, q_178_326, q_178_329, q_178_332, q_178_335, q_178_336, q_178_339, q_178_342, q_178_343, q_178_346, q_178_347, q_178_348, q_178_351, q_178_352, og_11_60, op_11_60, og_11_61, op_11_61, og_11_48, or_11_48, ow_11_48, og_11_50, or_11_50, ow_11_50, og_11_59, or_11_59, ow_11_59, og_11_9, or_11_9, ow_11_9, og_11_51, or_11_51, ow_11_51, og_11_10, or_11_10, ow_11_10, og_11_11, or_11_11, ow_11_11, og_11_8, or_11_8, ow_11_8, o_is, o_ob, ofs_len11, ↓reduceIte, k_cr, k_ci, k_oR, k_oN, k_aR, k_aN, and_true, true_and, and_self, eq_self, Nat.reduceLT, Nat.reduceLeDiff, Nat.reduceEqDiff, Nat.reduceAdd, Nat.reduceMul, Bool.true_eq_false, Bool.false_eq_true, Nat.add_sub_cancel, Nat.not_lt_zero, Nat.zero_le, k_sub, k_sb1, k_r, k_n, k_ret, k_t1, k_t0, k_nr, k_nn, k_z0, k_z1, k_zb, x_okI, lit_nI, k_in, k_cl, k_lt, k_le, k_eq, k_neg, nI_add, nI_mul, k_clt, k_cgt, k_cle, k_cge, k_ceq, bI_0, k_sh8, ne_eq, Nat.add_eq_zero_iff, Nat.one_ne_zero, Nat.succ_ne_zero, and_false, false_and, not_false_eq_true, not_true_eq_false, ite_true, ite_false, if_true, if_false, sI_uI, sJ_uI, sA_uI, sL_uI, sR_uI, sQ_uI, sI_uJ, sJ_uJ, sA_uJ, sL_uJ, sR_uJ, sQ_uJ, sI_uA, sJ_uA, sA_uA, sL_uA, sR_uA, sQ_uA, sI_uL, sJ_uL, sA_uL, sL_uL, sR_uL, sQ_uL, sI_uR, sJ_uR, sA_uR, sL_uR, sR_uR, sQ_uR, sI_uQ, sJ_uQ, sA_uQ, sL_uQ, sR_uQ, sQ_uQ, hiI, h48, g60, g61, ha1, ha2, gy, v6, eF, e10, eI, u2, e11]
          · exfalso
            omega
        · cases hz
          have := hs.top (m := y + 1) (vw.2.2 m (un (f y))) (Nat.le_refl _) (uL (uI S 60 (nI (y + 1))) 59 (y + 1 - 1) (vw.2.2 m (un (f y)))) (Or.inr rfl)
          rw [uI_same _ _ _ g60] at this
          exact this
      · rw [if_neg c0]
        rw [decide_eq_false c0, bI_f] at eI
        refine ⟨uI S 61 (nI 5), (1, .int (nI 4)), (1, .int (nI m)), (2, .long (f y)), ?_, fr.rfl.uI (by decide), fun z hz => (by cases hz), fun q hq => by cases hq; rfl⟩
        rw [q_178_18]
        by_cases c1 : 1 ≤ vw.2.1 m
        · rw [k_sub c1] at eI
          simp (disch := omega) only [q_178_0, q_178_1, q_178_2, q_178_5, q_178_6, q_178_7, q_178_10, q_178_11, q_178_14, q_178_15, q_178_16, q_178_20, q_178_21, q_178_24, q_178_25, q_178_26, q_178_27, q_178_28, q_178_31, q_178_32, q_178_35, q_178_38, q_178_39, q_178_42, q_178_44, q_178_45, q_178_47, q_178_49, q_178_51, q_178_54, q_178_55, q_178_58, q_178_59, q_178_62, q_178_63, q_178_64, q_178_65, q_178_68, q_178_69, q_178_72, q_178_73, q_178_74, q_178_77, q_178_78, q_178_81, q_178_82, q_178_85, q_178_86, q_178_87, q_178_88, q_178_91, q_178_92, q_178_95, q_178_96, q_178_97, q_178_98, q_178_99, q_178_100, q_178_103, q_178_105, q_178_107, q_178_110, q_178_111, q_178_112, q_178_115, q_178_116, q_178_117, q_178_120, q_178_121, q_178_124, q_178_125, q_178_128, q_178_129, q_178_130, q_178_131, q_178_133, q_178_134, q_178_137, q_178_138, q_178_141, q_178_142, q_178_143, q_178_144, q_178_145, q_178_148, q_178_149, q_178_152, q_178_153, q_178_156, q_178_157, q_178_160, q_178_162, q_178_163, q_178_166, q_178_167, q_178_168, q_178_169, q_178_172, q_178_173, q_178_174, q_178_175, q_178_178, q_178_180, q_178_181, q_178_184, q_178_186, q_178_187, q_178_190, q_178_191, q_178_194, q_178_195, q_178_196, q_178_197, q_178_199, q_178_201, q_178_202, q_178_203, q_178_206, q_178_208, q_178_209, q_178_210, q_178_212, q_178_213, q_178_214, q_178_215, q_178_216, q_178_217, q_178_220, q_178_223, q_178_224, q_178_225, q_178_228, q_178_231, q_178_232, q_178_235, q_178_236, q_178_239, q_178_240, q_178_241, q_178_242, q_178_245, q_178_247, q_178_248, q_178_249, q_178_251, q_178_253, q_178_254, q_178_255, q_178_257, q_178_258, q_178_259, q_178_260, q_178_261, q_178_264, q_178_265, q_178_268, q_178_269, q_178_272, q_178_274, q_178_275, q_178_278, q_178_279, q_178_282, q_178_284, q_178_285, q_178_288, q_178_290, q_178_291, q_178_294, q_178_295, q_178_298, q_178_299, q_178_300, q_178_303, q_178_304, q_178_306, q_178_307, q_178_308, q_178_309, q_178_312, q_178_314, q_178_315, q_178_318, q_178_319, q_178_320, q_178_321, q_178_324, q_178_325, q_178_326, q_178_329, q_178_332, q_178_335, q_178_336, q_178_339, q_178_342, q_178_343, q_178_346, q_178_347, q_178_348, q_178_351, q_178_352, og_11_60, op_11_60, og_11_61, op_11_61, og_11_48, or_11_48, ow_11_48, og_11_50, or_11_50, ow_11_50, og_11_59, or_11_59, ow_11_59, og_11_9, or_11_9, ow_11_9, og_11_51, or_11_51, ow_11_51, og_11_10, or_11_10, ow_11_10, og_11_11, or_11_11, ow_11_11, og_11_8, or_11_8, ow_11_8, o_is, o_ob, ofs_len11, ↓reduceIte, k_cr, k_ci, k_oR, k_oN, k_aR, k_aN, and_true, true_and, and_self, eq_self, Nat.reduceLT, Nat.reduceLeDiff, Nat.reduceEqDiff, Nat.reduceAdd, Nat.reduceMul, Bool.true_eq_false, Bool.false_eq_true, Nat.add_sub_cancel, Nat.not_lt_zero, Nat.zero_le, k_sub, k_sb1, k_r, k_n, k_ret, k_t1, k_t0, k_nr, k_nn, k_z0, k_z1, k_zb, x_okI, lit_nI, k_in, k_cl, k_lt, k_le, k_eq, k_neg, nI_add, nI_mul, k_clt, k_cgt, k_cle, k_cge, k_ceq, bI_0, k_sh8, ne_eq, Nat.add_eq_zero_iff, Nat.one_ne_zero, Nat.succ_ne_zero, and_false, false_and, not_false_eq_true, not_true_eq_false, ite_true, ite_false, if_true, if_false, sI_uI, sJ_uI, sA_uI, sL_uI, sR_uI, sQ_uI, sI_uJ, sJ_uJ, sA_uJ, sL_uJ, sR_uJ, sQ_uJ, sI_uA, sJ_uA, sA_uA, sL_uA, sR_uA, sQ_uA, sI_uL, sJ_uL, sA_uL, sL_uL, sR_uL, sQ_uL, sI_uR, sJ_uR, sA_uR, sL_uR, sR_uR, sQ_uR, sI_uQ, sJ_uQ, sA_uQ, sL_uQ, sR_uQ, sQ_uQ, hiI, h48, g60, g61, ha1, ha2, gy, v6, eF, e10, eI]
        · have c2 : vw.2.1 m = 0 := by omega
          rw [c2] at eI e10
          simp (disch := omega) only [q_178_0, q_178_1, q_178_2, q_178_5, q_178_6, q_178_7, q_178_10, q_178_11, q_178_14, q_178_15, q_178_16, q_178_20, q_178_21, q_178_24, q_178_25, q_178_26, q_178_27, q_178_28, q_178_31, q_178_32, q_178_35, q_178_38, q_178_39, q_178_42, q_178_44, q_178_45, q_178_47, q_178_49, q_178_51, q_178_54, q_178_55, q_178_58, q_178_59, q_178_62, q_178_63, q_178_64, q_178_65, q_178_68, q_178_69, q_178_72, q_178_73, q_178_74, q_178_77, q_178_78, q_178_81, q_178_82, q_178_85, q_178_86, q_178_87, q_178_88, q_178_91, q_178_92, q_178_95, q_178_96, q_178_97, q_178_98, q_178_99, q_178_100, q_178_103, q_178_105, q_178_107, q_178_110, q_178_111, q_178_112, q_178_115, q_178_116, q_178_117, q_178_120, q_178_121, q_178_124, q_178_125, q_178_128, q_178_129, q_178_130, q_178_131, q_178_133, q_178_134, q_178_137, q_178_138, q_178_141, q_178_142, q_178_143, q_178_144, q_178_145, q_178_148, q_178_149, q_178_152, q_178_153, q_178_156, q_178_157, q_178_160, q_178_162, q_178_163, q_178_166, q_178_167, q_178_168, q_178_169, q_178_172, q_178_173, q_178_174, q_178_175, q_178_178, q_178_180, q_178_181, q_178_184, q_178_186, q_178_187, q_178_190, q_178_191, q_178_194, q_178_195, q_178_196, q_178_197, q_178_199, q_178_201, q_178_202, q_178_203, q_178_206, q_178_208, q_178_209, q_178_210, q_178_212, q_178_213, q_178_214, q_178_215, q_178_216, q_178_217, q_178_220, q_178_223, q_178_224, q_178_225, q_178_228, q_178_231, q_178_232, q_178_235, q_178_236, q_178_239, q_178_240, q_178_241, q_178_242, q_178_245, q_178_247, q_178_248, q_178_249, q_178_251, q_178_253, q_178_254, q_178_255, q_178_257, q_178_258, q_178_259, q_178_260, q_178_261, q_178_264, q_178_265, q_178_268, q_178_269, q_178_272, q_178_274, q_178_275, q_178_278, q_178_279, q_178_282, q_178_284, q_178_285, q_178_288, q_178_290, q_178_291, q_178_294, q_178_295, q_178_298, q_178_299, q_178_300, q_178_303, q_178_304, q_178_306, q_178_307, q_178_308, q_178_309, q_178_312, q_178_314, q_178_315, q_178_318, q_178_319, q_178_320, q_178_321, q_178_324, q_178_325, q_178_326, q_178_329, q_178_332, q_178_335, q_178_336, q_178_339, q_178_342, q_178_343, q_178_346, q_178_347, q_178_348, q_178_351, q_178_352, og_11_60, op_11_60, og_11_61, op_11_61, og_11_48, or_11_48, ow_11_48, og_11_50, or_11_50, ow_11_50, og_11_59, or_11_59, ow_11_59, og_11_9, or_11_9, ow_11_9, og_11_51, or_11_51, ow_11_51, og_11_10, or_11_10, ow_11_10, og_11_11, or_11_11, ow_11_11, og_11_8, or_11_8, ow_11_8, o_is, o_ob, ofs_len11, ↓reduceIte, k_cr, k_ci, k_oR, k_oN, k_aR, k_aN, and_true, true_and, and_self, eq_self, Nat.reduceLT, Nat.reduceLeDiff, Nat.reduceEqDiff, Nat.reduceAdd, Nat.reduceMul, Bool.true_eq_false, Bool.false_eq_true, Nat.add_sub_cancel, Nat.not_lt_zero, Nat.zero_le, k_sub, k_sb1, k_r, k_n, k_ret, k_t1, k_t0, k_nr, k_nn, k_z0, k_z1, k_zb, x_okI, lit_nI, k_in, k_cl, k_lt, k_le, k_eq, k_neg, nI_add, nI_mul, k_clt, k_cgt, k_cle, k_cge, k_ceq, bI_0, k_sh8, ne_eq, Nat.add_eq_zero_iff, Nat.one_ne_zero, Nat.succ_ne_zero, and_false, false_and, not_false_eq_true, not_true_eq_false, ite_true, ite_false, if_true, if_false, sI_uI, sJ_uI, sA_uI, sL_uI, sR_uI, sQ_uI, sI_uJ, sJ_uJ, sA_uJ, sL_uJ, sR_uJ, sQ_uJ, sI_uA, sJ_uA, sA_uA, sL_uA, sR_uA, sQ_uA, sI_uL, sJ_uL, sA_uL, sL_uL, sR_uL, sQ_uL, sI_uR, sJ_uR, sA_uR, sL_uR, sR_uR, sQ_uR, sI_uQ, sJ_uQ, sA_uQ, sL_uQ, sR_uQ, sQ_uQ, hiI, h48, g60, g61, ha1, ha2, gy, v6, eF, e10, eI]
    · have ex := m_simple d h M S hV hm2 (w := 5) (Or.inr rfl)
      rw [if_neg (by decide)] at ex
      refine pu (lN (vw.2.1 m)) (by rw [w]; decide) (by unfold evM; rw [w, if_neg (by decide), if_neg (by decide), hm]; exact if_neg (by decide)) fun hk => ?_
      rw [w] at ha1 ⊢
      rw [q_178_18]
      simp (disch := omega) only [q_178_0, q_178_1, q_178_2, q_178_5, q_178_6, q_178_7, q_178_10, q_178_11, q_178_14, q_178_15, q_178_16, q_178_20, q_178_21, q_178_24, q_178_25, q_178_26, q_178_27, q_178_28, q_178_31, q_178_32, q_178_35, q_178_38, q_178_39, q_178_42, q_178_44, q_178_45, q_178_47, q_178_49, q_178_51, q_178_54, q_178_55, q_178_58, q_178_59, q_178_62, q_178_63, q_178_64, q_178_65, q_178_68, q_178_69, q_178_72, q_178_73, q_178_74, q_178_77, q_178_78, q_178_81, q_178_82, q_178_85, q_178_86, q_178_87, q_178_88, q_178_91, q_178_92, q_178_95, q_178_96, q_178_97, q_178_98, q_178_99, q_178_100, q_178_103, q_178_105, q_178_107, q_178_110, q_178_111, q_178_112, q_178_115, q_178_116, q_178_117, q_178_120, q_178_121, q_178_124, q_178_125, q_178_128, q_178_129, q_178_130, q_178_131, q_178_133, q_178_134, q_178_137, q_178_138, q_178_141, q_178_142, q_178_143, q_178_144, q_178_145, q_178_148, q_178_149, q_178_152, q_178_153, q_178_156, q_178_157, q_178_160, q_178_162, q_178_163, q_178_166, q_178_167, q_178_168, q_178_169, q_178_172, q_178_173, q_178_174, q_178_175, q_178_178, q_178_180, q_178_181, q_178_184, q_178_186, q_178_187, q_178_190, q_178_191, q_178_194, q_178_195, q_178_196, q_178_197, q_178_199, q_178_201, q_178_202, q_178_203, q_178_206, q_178_208, q_178_209, q_178_210, q_178_212, q_178_213, q_178_214, q_178_215, q_178_216, q_178_217, q_178_220, q_178_223, q_178_224, q_178_225, q_178_228, q_178_231, q_178_232, q_178_235, q_178_236, q_178_239, q_178_240, q_178_241, q_178_242, q_178_245, q_178_247, q_178_248, q_178_249, q_178_251, q_178_253, q_178_254, q_178_255, q_178_257, q_178_258, q_178_259, q_178_260, q_178_261, q_178_264, q_178_265, q_178_268, q_178_269, q_178_272, q_178_274, q_178_275, q_178_278, q_178_279, q_178_282, q_178_284, q_178_285, q_178_288, q_178_290, q_178_291, q_178_294, q_178_295, q_178_298, q_178_299, q_178_300, q_178_303, q_178_304, q_178_306, q_178_307, q_178_308, q_178_309, q_178_312, q_178_314, q_178_315, q_178_318, q_178_319, q_178_320, q_178_321, q_178_324, q_178_325, q_178_326, q_178_329, q_178_332, q_178_335, q_178_336, q_178_339, q_178_342, q_178_343, q_178_346, q_178_347, q_178_348, q_178_351, q_178_352, og_11_60, op_11_60, og_11_61, op_11_61, og_11_48, or_11_48, ow_11_48, og_11_50, or_11_50, ow_11_50, og_11_59, or_11_59, ow_11_59, og_11_9, or_11_9, ow_11_9, og_11_51, or_11_51, ow_11_51, og_11_10, or_11_10, ow_11_10, og_11_11, or_11_11, ow_11_11, og_11_8, or_11_8, ow_11_8, o_is, o_ob, ofs_len11, ↓reduceIte, k_cr, k_ci, k_oR, k_oN, k_aR, k_aN, and_true, true_and, and_self, eq_self, Nat.reduceLT, Nat.reduceLeDiff, Nat.reduceEqDiff, Nat.reduceAdd, Nat.reduceMul, Bool.true_eq_false, Bool.false_eq_true, Nat.add_sub_cancel, Nat.not_lt_zero, Nat.zero_le, k_sub, k_sb1, k_r, k_n, k_ret, k_t1, k_t0, k_nr, k_nn, k_z0, k_z1, k_zb, x_okI, lit_nI, k_in, k_cl, k_lt, k_le, k_eq, k_neg, nI_add, nI_mul, k_clt, k_cgt, k_cle, k_cge, k_ceq, bI_0, k_sh8, ne_eq, Nat.add_eq_zero_iff, Nat.one_ne_zero, Nat.succ_ne_zero, and_false, false_and, not_false_eq_true, not_true_eq_false, ite_true, ite_false, if_true, if_false, sI_uI, sJ_uI, sA_uI, sL_uI, sR_uI, sQ_uI, sI_uJ, sJ_uJ, sA_uJ, sL_uJ, sR_uJ, sQ_uJ, sI_uA, sJ_uA, sA_uA, sL_uA, sR_uA, sQ_uA, sI_uL, sJ_uL, sA_uL, sL_uL, sR_uL, sQ_uL, sI_uR, sJ_uR, sA_uR, sL_uR, sR_uR, sQ_uR, sI_uQ, sJ_uQ, sA_uQ, sL_uQ, sR_uQ, sQ_uQ, hiI, h48, g60, g61, ha1, ha2, ex]
theorem evA_m {e : kE} {v : vW} {a : aT} {f : Nat → Int64} {n mx k : Nat} {B : List aT} {z : (Nat → Int64) × Nat} (h : evA e v a f n = .inr z) (hn : n ≤ mx) (hk : hOK mx (a :: B) n = some k) : z.2 ≤ mx := by
  have h2 : (if isPu a.1 = true then (if n < mx then hOK mx B (n + 1) else none) else if isOn a.1 = true then (if 1 ≤ n then hOK mx B n else none) else (if 2 ≤ n then hOK mx B (n - 1) else none)) = some k := hk
  unfold evA at h
  split at h
  · rw [if_pos (by assumption)] at h2
    split at h2
    · cases h
      assumption
    · cases h2
  · split at h
    · split at h
      · cases h
      · cases h
        exact hn
    · split at h
      · cases h
      · cases h
        show n - 1 ≤ mx
        omega
theorem rk_ne {w : Int32} {a b : Int64} {q : Nat} (h : rk w a b = .inl q) : q = 2 ∨ q = 4 ∨ q = 5 := by
  unfold rk at h
  split at h
  · split at h
    · cases h
      exact Or.inl rfl
    · cases h
  · split at h
    · split at h
      · cases h
        exact Or.inl rfl
      · cases h
    · split at h
      · split at h
        · cases h
        · cases h
          exact Or.inl rfl
      · split at h
        · split at h
          · rename_i k hk
            cases h
            unfold quW at hk
            split at hk
            · cases hk
              exact Or.inr (Or.inl rfl)
            · split at hk
              · cases hk
                exact Or.inl rfl
              · cases hk
          · cases h
        · split at h
          · rename_i k hk
            cases h
            unfold reW at hk
            split at hk
            · cases hk
              exact Or.inr (Or.inl rfl)
            · cases hk
          · cases h
theorem evO_ne {e : kE} {v : vW} {a : aT} {i : Int64} {q : Nat} (h : evO e v a i = .inl q) : q = 2 ∨ q = 4 ∨ q = 5 := by
  unfold evO at h
  split at h
  · unfold evI at h
    split at h
    · cases h
      exact Or.inr (Or.inr rfl)
    · split at h
      · cases h
      · cases h
        exact Or.inr (Or.inr rfl)
  · split at h
    · cases h
      exact Or.inl rfl
    · cases h
theorem evA_ne {e : kE} {v : vW} {a : aT} {f : Nat → Int64} {n q : Nat} (h : evA e v a f n = .inl q) : q = 2 ∨ q = 4 ∨ q = 5 := by
  unfold evA at h
  split at h
  · cases h
  · split at h
    · split at h
      · rename_i k hk
        cases h
        exact evO_ne hk
      · cases h
    · split at h
      · rename_i k hk
        cases h
        exact rk_ne hk
      · cases h
def evV : Nat ⊕ ((Nat → Int64) × Nat) → Int64
  | .inl _ => 0
  | .inr z => z.1 0
def evQ : Nat ⊕ ((Nat → Int64) × Nat) → Nat
  | .inl q => q
  | .inr _ => 0
theorem w_loop (d : Nat) (h : xH) (M : Nat) {r b c n v j : Nat} {vw : vW} {e : kE} (hr : r < 699) (hj : j ≤ 700) : ∀ (B : List aT) (i : Nat) (S : gS) (f : Nat → Int64) (k : Nat) (l5 l6 l7 : Nat × Value), wkV S b c n v vw → (∀ w, e.1 w = eMs S b c n w) → i + B.length = j → sA S 48 (r + 1) = nI j → (∀ q a, B[q]? = some a → sA S 50 (i + q) = a.1 ∧ sL S 51 (i + q) = a.2.1) → (∀ a, a ∈ B → actW e a) → wkS S f k → k ≤ 60 → hOK 60 B k = some 1 → ∃ S', xrun (d + 2) 178 18 [(1, .ref M), (1, .int (nI r)), (1, .int (nI b)), (1, .int (nI v)), (1, .int (nI i)), l5, l6, l7, (0, .null)] [] (oh 11 h M S) = some (some (.long (evV (evF e vw B f k))), oh 11 h M S') ∧ fr wkF S S' ∧ sI S' 61 = nI (evQ (evF e vw B f k))
  | [], i, S, f, k, l5, l6, l7, hV, he, hij, h48, hB, hA, hs, hk60, hO => by
    have hk1 : k = 1 := Option.some.inj hO
    have hij : i = j := hij
    subst hk1
    have g0 := hs.2.2 0 (by omega)
    refine ⟨S, ?_, fr.rfl, hs.2.1⟩
    show _ = some (some (Value.long (f 0)), oh 11 h M S)
    have hle : j ≤ i := by omega
    have g61 := hs.2.1
    rw [q_178_18]
    simp (disch := omega) only [q_178_0, q_178_1, q_178_2, q_178_5, q_178_6, q_178_7, q_178_10, q_178_11, q_178_14, q_178_15, q_178_16, q_178_20, q_178_21, q_178_24, q_178_25, q_178_26, q_178_27, q_178_28, q_178_31, q_178_32, q_178_35, q_178_38, q_178_39, q_178_42, q_178_44, q_178_45, q_178_47, q_178_49, q_178_51, q_178_54, q_178_55, q_178_58, q_178_59, q_178_62, q_178_63, q_178_64, q_178_65, q_178_68, q_178_69, q_178_72, q_178_73, q_178_74, q_178_77, q_178_78, q_178_81, q_178_82, q_178_85, q_178_86, q_178_87, q_178_88, q_178_91, q_178_92, q_178_95, q_178_96, q_178_97, q_178_98, q_178_99, q_178_100, q_178_103, q_178_105, q_178_107, q_178_110, q_178_111, q_178_112, q_178_115, q_178_116, q_178_117, q_178_120, q_178_121, q_178_124, q_178_125, q_178_128, q_178_129, q_178_130, q_178_131, q_178_133, q_178_134, q_178_137, q_178_138, q_178_141, q_178_142, q_178_143, q_178_144, q_178_145, q_178_148, q_178_149, q_178_152, q_178_153, q_178_156, q_178_157, q_178_160, q_178_162, q_178_163, q_178_166, q_178_167, q_178_168, q_178_169, q_178_172, q_178_173, q_178_174, q_178_175, q_178_178, q_178_180, q_178_181, q_178_184, q_178_186, q_178_187, q_178_190, q_178_191, q_178_194, q_178_195, q_178_196, q_178_197, q_178_199, q_178_201, q_178_202, q_178_203, q_178_206, q_178_208, q_178_209, q_178_210, q_178_212, q_178_213, q_178_214, q_178_215, q_178_216, q_178_217, q_178_220, q_178_223, q_178_224, q_178_225, q_178_228, q_178_231, q_178_232, q_178_235, q_178_236, q_178_239, q_178_240, q_178_241, q_178_242, q_178_245, q_178_247, q_178_248, q_178_249, q_178_251, q_178_253, q_178_254, q_178_255, q_178_257, q_178_258, q_178_259, q_178_260, q_178_261, q_178_264, q_178_265, q_178_268, q_178_269, q_178_272, q_178_274, q_178_275, q_178_278, q_178_279, q_178_282, q_178_284, q_178_285, q_178_288, q_178_290, q_178_291, q_178_294, q_178_295, q_178_298, q_178_299, q_178_300, q_178_303, q_178_304, q_178_306, q_178_307, q_178_308, q_178_309, q_178_312, q_178_314, q_178_315, q_178_318, q_178_319, q_178_320, q_178_321, q_178_324, q_178_325, q_178_326, q_178_329, q_178_332, q_178_335, q_178_336, q_178_339, q_178_342, q_178_343, q_178_346, q_178_347, q_178_348, q_178_351, q_178_352, og_11_60, op_11_60, og_11_61, op_11_61, og_11_48, or_11_48, ow_11_48, og_11_50, or_11_50, ow_11_50, og_11_59, or_11_59, ow_11_59, og_11_9, or_11_9, ow_11_9, og_11_51, or_11_51, ow_11_51, og_11_10, or_11_10, ow_11_10, og_11_11, or_11_11, ow_11_11, og_11_8, or_11_8, ow_11_8, o_is, o_ob, ofs_len11, ↓reduceIte, k_cr, k_ci, k_oR, k_oN, k_aR, k_aN, and_true, true_and, and_self, eq_self, Nat.reduceLT, Nat.reduceLeDiff, Nat.reduceEqDiff, Nat.reduceAdd, Nat.reduceMul, Bool.true_eq_false, Bool.false_eq_true, Nat.add_sub_cancel, Nat.not_lt_zero, Nat.zero_le, k_sub, k_sb1, k_r, k_n, k_ret, k_t1, k_t0, k_nr, k_nn, k_z0, k_z1, k_zb, x_okI, lit_nI, k_in, k_cl, k_lt, k_le, k_eq, k_neg, nI_add, nI_mul, k_clt, k_cgt, k_cle, k_cge, k_ceq, bI_0, k_sh8, ne_eq, Nat.add_eq_zero_iff, Nat.one_ne_zero, Nat.succ_ne_zero, and_false, false_and, not_false_eq_true, not_true_eq_false, ite_true, ite_false, if_true, if_false, h48, hle, g61, g0]
  | a :: B, i, S, f, k, l5, l6, l7, hV, he, hij, h48, hB, hA, hs, hk60, hO => by
    have hij : i + (B.length + 1) = j := hij
    have h0 := hB 0 a rfl
    rw [Nat.add_zero] at h0
    obtain ⟨S1, m5, m6, m7, er, f1, z1, z2⟩ := w_step d h M S (l5 := l5) (l6 := l6) (l7 := l7) hV he hr (show i < j by omega) hj h48 h0.1 h0.2 (hA a List.mem_cons_self) hs hk60 hO
    have h48' : sA S1 48 (r + 1) = nI j := by
      rw [(f1 48 (by decide)).2.2.1]
      exact h48
    rw [er]
    cases hq : evA e vw a f k with
    | inl q =>
      have ev : evF e vw (a :: B) f k = .inl q := by
        show (match evA e vw a f k with
          | .inl k => Sum.inl k
          | .inr z => evF e vw B z.1 z.2) = _
        rw [hq]
      rw [ev]
      have g61 := z2 q hq
      have hq0 : ¬ q = 0 := by
        have := evA_ne hq
        omega
      have hq8 : q < 8 := by
        have := evA_ne hq
        omega
      refine ⟨S1, ?_, f1, g61⟩
      show _ = some (some (Value.long 0), oh 11 h M S1)
      rw [q_178_18]
      by_cases hle : j ≤ i + 1
      · simp (disch := omega) only [q_178_0, q_178_1, q_178_2, q_178_5, q_178_6, q_178_7, q_178_10, q_178_11, q_178_14, q_178_15, q_178_16, q_178_20, q_178_21, q_178_24, q_178_25, q_178_26, q_178_27, q_178_28, q_178_31, q_178_32, q_178_35, q_178_38, q_178_39, q_178_42, q_178_44, q_178_45, q_178_47, q_178_49, q_178_51, q_178_54, q_178_55, q_178_58, q_178_59, q_178_62, q_178_63, q_178_64, q_178_65, q_178_68, q_178_69, q_178_72, q_178_73, q_178_74, q_178_77, q_178_78, q_178_81, q_178_82, q_178_85, q_178_86, q_178_87, q_178_88, q_178_91, q_178_92, q_178_95, q_178_96, q_178_97, q_178_98, q_178_99, q_178_100, q_178_103, q_178_105, q_178_107, q_178_110, q_178_111, q_178_112, q_178_115, q_178_116, q_178_117, q_178_120, q_178_121, q_178_124, q_178_125, q_178_128, q_178_129, q_178_130, q_178_131, q_178_133, q_178_134, q_178_137, q_178_138, q_178_141, q_178_142, q_178_143, q_178_144, q_178_145, q_178_148, q_178_149, q_178_152, q_178_153, q_178_156, q_178_157, q_178_160, q_178_162, q_178_163, q_178_166, q_178_167, q_178_168, q_178_169, q_178_172, q_178_173, q_178_174, q_178_175, q_178_178, q_178_180, q_178_181, q_178_184, q_178_186, q_178_187, q_178_190, q_178_191, q_178_194, q_178_195, q_178_196, q_178_197, q_178_199, q_178_201, q_178_202, q_178_203, q_178_206, q_178_208, q_178_209, q_178_210, q_178_212, q_178_213, q_178_214, q_178_215, q_178_216, q_178_217, q_178_220, q_178_223, q_178_224, q_178_225, q_178_228, q_178_231, q_178_232, q_178_235, q_178_236, q_178_239, q_178_240, q_178_241, q_178_242, q_178_245, q_178_247, q_178_248, q_178_249, q_178_251, q_178_253, q_178_254, q_178_255, q_178_257, q_178_258, q_178_259, q_178_260, q_178_261, q_178_264, q_178_265, q_178_268, q_178_269, q_178_272, q_178_274, q_178_275, q_178_278, q_178_279, q_178_282, q_178_284, q_178_285, q_178_288, q_178_290, q_178_291, q_178_294, q_178_295, q_178_298, q_178_299, q_178_300, q_178_303, q_178_304, q_178_306, q_178_307, q_178_308, q_178_309, q_178_312, q_178_314, q_178_315, q_178_318, q_178_319, q_178_320, q_178_321, q_178_324, q_178_325, q_178_326, q_178_329, q_178_332, q_178_335, q_178_336, q_178_339, q_178_342, q_178_343, q_178_346, q_178_347, q_178_348, q_178_351, q_178_352, og_11_60, op_11_60, og_11_61, op_11_61, og_11_48, or_11_48, ow_11_48, og_11_50, or_11_50, ow_11_50, og_11_59, or_11_59, ow_11_59, og_11_9, or_11_9, ow_11_9, og_11_51, or_11_51, ow_11_51, og_11_10, or_11_10, ow_11_10, og_11_11, or_11_11, ow_11_11, og_11_8, or_11_8, ow_11_8, o_is, o_ob, ofs_len11, ↓reduceIte, k_cr, k_ci, k_oR, k_oN, k_aR, k_aN, and_true, true_and, and_self, eq_self, Nat.reduceLT, Nat.reduceLeDiff, Nat.reduceEqDiff, Nat.reduceAdd, Nat.reduceMul, Bool.true_eq_false, Bool.false_eq_true, Nat.add_sub_cancel, Nat.not_lt_zero, Nat.zero_le, k_sub, k_sb1, k_r, k_n, k_ret, k_t1, k_t0, k_nr, k_nn, k_z0, k_z1, k_zb, x_okI, lit_nI, k_in, k_cl, k_lt, k_le, k_eq, k_neg, nI_add, nI_mul, k_clt, k_cgt, k_cle, k_cge, k_ceq, bI_0, k_sh8, ne_eq, Nat.add_eq_zero_iff, Nat.one_ne_zero, Nat.succ_ne_zero, and_false, false_and, not_false_eq_true, not_true_eq_false, ite_true, ite_false, if_true, if_false, h48', hle, g61, hq0]
      · simp (disch := omega) only [q_178_0, q_178_1, q_178_2, q_178_5, q_178_6, q_178_7, q_178_10, q_178_11, q_178_14, q_178_15, q_178_16, q_178_20, q_178_21, q_178_24, q_178_25, q_178_26, q_178_27, q_178_28, q_178_31, q_178_32, q_178_35, q_178_38, q_178_39, q_178_42, q_178_44, q_178_45, q_178_47, q_178_49, q_178_51, q_178_54, q_178_55, q_178_58, q_178_59, q_178_62, q_178_63, q_178_64, q_178_65, q_178_68, q_178_69, q_178_72, q_178_73, q_178_74, q_178_77, q_178_78, q_178_81, q_178_82, q_178_85, q_178_86, q_178_87, q_178_88, q_178_91, q_178_92, q_178_95, q_178_96, q_178_97, q_178_98, q_178_99, q_178_100, q_178_103, q_178_105, q_178_107, q_178_110, q_178_111, q_178_112, q_178_115, q_178_116, q_178_117, q_178_120, q_178_121, q_178_124, q_178_125, q_178_128, q_178_129, q_178_130, q_178_131, q_178_133, q_178_134, q_178_137, q_178_138, q_178_141, q_178_142, q_178_143, q_178_144, q_178_145, q_178_148, q_178_149, q_178_152, q_178_153, q_178_156, q_178_157, q_178_160, q_178_162, q_178_163, q_178_166, q_178_167, q_178_168, q_178_169, q_178_172, q_178_173, q_178_174, q_178_175, q_178_178, q_178_180, q_178_181, q_178_184, q_178_186, q_178_187, q_178_190, q_178_191, q_178_194, q_178_195, q_178_196, q_178_197, q_178_199, q_178_201, q_178_202, q_178_203, q_178_206, q_178_208, q_178_209, q_178_210, q_178_212, q_178_213, q_178_214, q_178_215, q_178_216, q_178_217, q_178_220, q_178_223, q_178_224, q_178_225, q_178_228, q_178_231, q_178_232, q_178_235, q_178_236, q_178_239, q_178_240, q_178_241, q_178_242, q_178_245, q_178_247, q_178_248, q_178_249, q_178_251, q_178_253, q_178_254, q_178_255, q_178_257, q_178_258, q_178_259, q_178_260, q_178_261, q_178_264, q_178_265, q_178_268, q_178_269, q_178_272, q_178_274, q_178_275, q_178_278, q_178_279, q_178_282, q_178_284, q_178_285, q_178_288, q_178_290, q_178_291, q_178_294, q_178_295, q_178_298, q_178_299, q_178_300, q_178_303, q_178_304, q_178_306, q_178_307, q_178_308, q_178_309, q_178_312, q_178_314, q_178_315, q_178_318, q_178_319, q_178_320, q_178_321, q_178_324, q_178_325, q_178_326, q_178_329, q_178_332, q_178_335, q_178_336, q_178_339, q_178_342, q_178_343, q_178_346, q_178_347, q_178_348, q_178_351, q_178_352, og_11_60, op_11_60, og_11_61, op_11_61, og_11_48, or_11_48, ow_11_48, og_11_50, or_11_50, ow_11_50, og_11_59, or_11_59, ow_11_59, og_11_9, or_11_9, ow_11_9, og_11_51, or_11_51, ow_11_51, og_11_10, or_11_10, ow_11_10, og_11_11, or_11_11, ow_11_11, og_11_8, or_11_8, ow_11_8, o_is, o_ob, ofs_len11, ↓reduceIte, k_cr, k_ci, k_oR, k_oN, k_aR, k_aN, and_true, true_and, and_self, eq_self, Nat.reduceLT, Nat.reduceLeDiff, Nat.reduceEqDiff, Nat.reduceAdd, Nat.reduceMul, Bool.true_eq_false, Bool.false_eq_true, Nat.add_sub_cancel, Nat.not_lt_zero, Nat.zero_le, k_sub, k_sb1, k_r, k_n, k_ret, k_t1, k_t0, k_nr, k_nn, k_z0, k_z1, k_zb, x_okI, lit_nI, k_in, k_cl, k_lt, k_le, k_eq, k_neg, nI_add, nI_mul, k_clt, k_cgt, k_cle, k_cge, k_ceq, bI_0, k_sh8, ne_eq, Nat.add_eq_zero_iff, Nat.one_ne_zero, Nat.succ_ne_zero, and_false, false_and, not_false_eq_true, not_true_eq_false, ite_true, ite_false, if_true, if_false, h48', hle, g61, hq0]
    | inr z =>
      have ev : evF e vw (a :: B) f k = evF e vw B z.1 z.2 := by
        show (match evA e vw a f k with
          | .inl k => Sum.inl k
          | .inr z => evF e vw B z.1 z.2) = _
        rw [hq]
      rw [ev]
      obtain ⟨S', e2, f2, g2⟩ := w_loop d h M hr hj B (i + 1) S1 z.1 z.2 m5 m6 m7 (hV.fr f1 (by decide) (by decide) (by decide) (by decide) (by decide)) (fun w => by rw [eMs_fr f1 (by decide)]; exact he w) (by omega) h48' (fun q a2 hq2 => by
        have := hB (q + 1) a2 hq2
        rw [(f1 50 (by decide)).2.2.1, (f1 51 (by decide)).2.2.2.1, show i + 1 + q = i + (q + 1) by omega]
        exact this) (fun a2 ha2 => hA a2 (List.mem_cons_of_mem _ ha2)) (z1 z hq) (evA_m hq hk60 hO) (evA_n hq hO)
      exact ⟨S', e2, f1.trans f2, g2⟩
theorem m_work (d : Nat) (h : xH) (M : Nat) (S : gS) {r b c n v i : Nat} {vw : vW} {e : kE} {B : List aT} (hV : wkV S b c n v vw) (he : ∀ w, e.1 w = eMs S b c n w) (hr : r < 699) (hj : i + B.length ≤ 700) (h48 : sA S 48 r = nI i) (h48' : sA S 48 (r + 1) = nI (i + B.length)) (hB : ∀ q a, B[q]? = some a → sA S 50 (i + q) = a.1 ∧ sL S 51 (i + q) = a.2.1) (hA : ∀ a, a ∈ B → actW e a) (hO : hOK 60 B 0 = some 1) : ∃ S', xm (d + 3) 178 [.ref M, .int (nI r), .int (nI b), .int (nI v)] (oh 11 h M S) = some (some (.long (evV (evF e vw B (fun _ => 0) 0))), oh 11 h M S') ∧ fr wkF S S' ∧ sI S' 61 = nI (evQ (evF e vw B (fun _ => 0) 0)) := by
  have f0 : fr wkF S (uI (uI S 60 (nI 0)) 61 (nI 0)) := (fr.rfl.uI (by decide)).uI (by decide)
  obtain ⟨S', e1, f1, g1⟩ := w_loop d h M hr hj B i (uI (uI S 60 (nI 0)) 61 (nI 0)) (fun _ => 0) 0 (0, .null) (0, .null) (0, .null) (hV.fr f0 (by decide) (by decide) (by decide) (by decide) (by decide)) (fun w => by rw [eMs_fr f0 (by decide)]; exact he w) rfl h48' hB hA ⟨rfl, rfl, fun q hq => absurd hq (Nat.not_lt_zero _)⟩ (Nat.zero_le _) hO
  refine ⟨S', ?_, f0.trans f1, g1⟩
  rw [← e1, E_178 _ _ _ _ _ _ rfl]
  simp (disch := omega) only [q_178_0, q_178_1, q_178_2, q_178_5, q_178_6, q_178_7, q_178_10, q_178_11, q_178_14, q_178_15, q_178_16, q_178_20, q_178_21, q_178_24, q_178_25, q_178_26, q_178_27, q_178_28, q_178_31, q_178_32, q_178_35, q_178_38, q_178_39, q_178_42, q_178_44, q_178_45, q_178_47, q_178_49, q_178_51, q_178_54, q_178_55, q_178_58, q_178_59, q_178_62, q_178_63, q_178_64, q_178_65, q_178_68, q_178_69, q_178_72, q_178_73, q_178_74, q_178_77, q_178_78, q_178_81, q_178_82, q_178_85, q_178_86, q_178_87, q_178_88, q_178_91, q_178_92, q_178_95, q_178_96, q_178_97, q_178_98, q_178_99, q_178_100, q_178_103, q_178_105, q_178_107, q_178_110, q_178_111, q_178_112, q_178_115, q_178_116, q_178_117, q_178_120, q_178_121, q_178_124, q_178_125, q_178_128, q_178_129, q_178_130, q_178_131, q_178_133, q_178_134, q_178_137, q_178_138, q_178_141, q_178_142, q_178_143, q_178_144, q_178_145, q_178_148, q_178_149, q_178_152, q_178_153, q_178_156, q_178_157, q_178_160, q_178_162, q_178_163, q_178_166, q_178_167, q_178_168, q_178_169, q_178_172, q_178_173, q_178_174, q_178_175, q_178_178, q_178_180, q_178_181, q_178_184, q_178_186, q_178_187, q_178_190, q_178_191, q_178_194, q_178_195, q_178_196, q_178_197, q_178_199, q_178_201, q_178_202, q_178_203, q_178_206, q_178_208, q_178_209, q_178_210, q_178_212, q_178_213, q_178_214, q_178_215, q_178_216, q_178_217, q_178_220, q_178_223, q_178_224, q_178_225, q_178_228, q_178_231, q_178_232, q_178_235, q_178_236, q_178_239, q_178_240, q_178_241, q_178_242, q_178_245, q_178_247, q_178_248, q_178_249, q_178_251, q_178_253, q_178_254, q_178_255, q_178_257, q_178_258, q_178_259, q_178_260, q_178_261, q_178_264, q_178_265, q_178_268, q_178_269, q_178_272, q_178_274, q_178_275, q_178_278, q_178_279, q_178_282, q_178_284, q_178_285, q_178_288, q_178_290, q_178_291, q_178_294, q_178_295, q_178_298, q_178_299, q_178_300, q_178_303, q_178_304, q_178_306, q_178_307, q_178_308, q_178_309, q_178_312, q_178_314, q_178_315, q_178_318, q_178_319, q_178_320, q_178_321, q_178_324, q_178_325, q_178_326, q_178_329, q_178_332, q_178_335, q_178_336, q_178_339, q_178_342, q_178_343, q_178_346, q_178_347, q_178_348, q_178_351, q_178_352, og_11_60, op_11_60, og_11_61, op_11_61, og_11_48, or_11_48, ow_11_48, og_11_50, or_11_50, ow_11_50, og_11_59, or_11_59, ow_11_59, og_11_9, or_11_9, ow_11_9, og_11_51, or_11_51, ow_11_51, og_11_10, or_11_10, ow_11_10, og_11_11, or_11_11, ow_11_11, og_11_8, or_11_8, ow_11_8, o_is, o_ob, ofs_len11, ↓reduceIte, k_cr, k_ci, k_oR, k_oN, k_aR, k_aN, and_true, true_and, and_self, eq_self, Nat.reduceLT, Nat.reduceLeDiff, Nat.reduceEqDiff, Nat.reduceAdd, Nat.reduceMul, Bool.true_eq_false, Bool.false_eq_true, Nat.add_sub_cancel, Nat.not_lt_zero, Nat.zero_le, k_sub, k_sb1, k_r, k_n, k_ret, k_t1, k_t0, k_nr, k_nn, k_z0, k_z1, k_zb, x_okI, lit_nI, k_in, k_cl, k_lt, k_le, k_eq, k_neg, nI_add, nI_mul, k_clt, k_cgt, k_cle, k_cge, k_ceq, bI_0, k_sh8, ne_eq, Nat.add_eq_zero_iff, Nat.one_ne_zero, Nat.succ_ne_zero, and_false, false_and, not_false_eq_true, not_true_eq_false, ite_true, ite_false, if_true, if_false, sI_uI, sJ_uI, sA_uI, sL_uI, sR_uI, sQ_uI, sI_uJ, sJ_uJ, sA_uJ, sL_uJ, sR_uJ, sQ_uJ, sI_uA, sJ_uA, sA_uA, sL_uA, sR_uA, sQ_uA, sI_uL, sJ_uL, sA_uL, sL_uL, sR_uL, sQ_uL, sI_uR, sJ_uR, sA_uR, sL_uR, sR_uR, sQ_uR, sI_uQ, sJ_uQ, sA_uQ, sL_uQ, sR_uQ, sQ_uQ, h48]
theorem evF_ne {e : kE} {v : vW} : ∀ {B : List aT} {f : Nat → Int64} {n q : Nat}, evF e v B f n = .inl q → q = 2 ∨ q = 4 ∨ q = 5
  | [], f, n, q, h => by cases h
  | a :: B, f, n, q, h => by
    have h : (match evA e v a f n with
      | .inl k => Sum.inl k
      | .inr z => evF e v B z.1 z.2) = Sum.inl q := h
    split at h
    · rename_i k hk
      cases h
      exact evA_ne hk
    · exact evF_ne h
