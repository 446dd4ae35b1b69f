/-! The class works out an E. -/
/-- a lone array of ints -/
def laI (h : xH) (a n : Nat) (f : Nat → Int32) : Prop := h.1 a = some (.inl (0, n, fun q => .int (f q)))
theorem laI.frame {h : xH} {a n ci b : Nat} {f : Nat → Int32} {S : gS} (H : laI h a n f) (ho : ofp ci b a = false) : laI (oh ci h b S) a n f := (oh_same ho).trans H
theorem laI.rd {α : Type} {h : xH} {a n i : Nat} {f : Nat → Int32} (H : laI h a n f) (hi : i < n) (hn : n < 2147483648) (F : Value → Option α) : xrd h a (nI i) 0 1 F = F (.int (f i)) := by
  unfold xrd xar
  rw [H]
  show (if (0 = 0 ∨ 0 = 1) ∧ xIn (nI i) n then F (.int (f (nI i).toNatClampNeg)) else none) = _
  rw [if_pos ⟨Or.inl rfl, nI_in hi hn⟩, nI_clamp (by omega)]
theorem laI.ar {α : Type} {h : xH} {a n : Nat} {f : Nat → Int32} (H : laI h a n f) (F : Nat → Nat → (Nat → Value) → Option α) : xar h a F = F 0 n (fun q => .int (f q)) := by
  unfold xar
  rw [H]
theorem xan0 : (0 < x_an) = True := eq_true (by decide)
theorem of_nI (n : Nat) : Int32.ofNat n = nI n := rfl
theorem ovS_0 (x : Int64) : ovS 0 x = decide (x = -9223372036854775808) ∧ 0 - x = -x := by
  have e0 : (0 : Int64) - x = -x := Int64.zero_sub x
  refine ⟨?_, e0⟩
  unfold ovS
  rw [Int64.zero_xor, Int64.zero_xor, e0, ← Bool.decide_and]
  apply decide_eq_decide.mpr
  rw [neg_iff, neg_iff, un_neg]
  have h := un_lt x
  constructor
  · rintro ⟨h1, h2⟩
    apply un_inj
    rw [show un (-9223372036854775808) = 9223372036854775808 by decide]
    omega
  · intro h1
    rw [h1]
    decide
def ckS (T : gS) (f : Nat → Int64) (n : Nat) : Prop := sI T 1 = nI n ∧ sI T 2 = nI 0 ∧ ∀ q, q < n → sL T 0 q = f q
def ckF (k : Nat) : Bool := decide (k = 0) || decide (k = 1) || decide (k = 2)
/-- VALUE V of the class -/
def ckV (n : Nat) (SV : gS) (w : vW) : Prop := sJ SV 2 = w.1 ∧ (∀ m, m < n → sA SV 0 m = nI (w.2.1 m) ∧ w.2.1 m ≤ 8) ∧ ∀ m k, m < n → k < w.2.1 m → sL SV 1 (8 * m + k) = w.2.2 m k
theorem c_picked (d : Nat) (h : xH) {R V m nv : Nat} {T SV : gS} {vw : vW} {i : Int64} (HV : isB 9 h V SV) (hd : dj 5 R 9 V) (hv : ckV nv SV vw) (hm : m < nv) (hn8 : nv ≤ 8) : xm (d + 2) 89 [.ref R, .long i, .int (nI m), .ref V] (oh 5 h R T) = if 0 ≤ i ∧ i < lN (vw.2.1 m) then some (some (.long (vw.2.2 m (un i))), oh 5 h R T) else some (some (.long 0), oh 5 h R (uI T 2 (nI 5))) := by
  have H : isB 9 (oh 5 h R T) V SV := HV.frame hd
  have e1 := c_countOf d (oh 5 h R T) V m SV H (by omega)
  rw [if_pos (by omega), (hv.2.1 m hm).1] at e1
  have h8 := (hv.2.1 m hm).2
  rw [E_89 _ _ _ _ _ _ rfl rfl]
  have hl := nI_l (show vw.2.1 m < 2147483648 by omega)
  by_cases c1 : i < 0
  · have c2 : ¬ (0 ≤ i ∧ i < lN (vw.2.1 m)) := fun z => absurd c1 (Int64.not_lt.mpr z.1)
    rw [if_neg c2]
    simp (disch := omega) only [q_89_0, q_89_1, q_89_2, q_89_3, q_89_6, q_89_7, q_89_9, q_89_10, q_89_13, q_89_14, q_89_15, q_89_18, q_89_19, q_89_20, q_89_23, q_89_24, q_89_25, q_89_27, q_89_28, q_89_29, q_89_30, q_89_33, og_5_2, op_5_2, o_is, o_ob, ofs_len5, ↓reduceIte, k_cr, k_ci, k_oR, k_oN, k_aR, k_aN, and_true, true_and, and_self, eq_self, Nat.reduceLT, Nat.reduceLeDiff, Nat.reduceEqDiff, Nat.reduceAdd, Nat.reduceMul, Bool.true_eq_false, Bool.false_eq_true, Nat.add_sub_cancel, Nat.not_lt_zero, Nat.zero_le, k_sub, k_sb1, k_r, k_n, k_ret, k_t1, k_t0, k_nr, k_nn, k_z0, k_z1, k_zb, x_okI, lit_nI, k_in, k_cl, k_lt, k_le, k_eq, k_neg, nI_add, nI_mul, k_clt, k_cgt, k_cle, k_cge, k_ceq, bI_0, k_sh8, ne_eq, Nat.add_eq_zero_iff, Nat.one_ne_zero, Nat.succ_ne_zero, and_false, false_and, not_false_eq_true, not_true_eq_false, ite_true, ite_false, if_true, if_false, h_is H, c1]
  · have c0 := Int64.not_lt.mp c1
    by_cases c2 : i < lN (vw.2.1 m)
    · rw [if_pos ⟨c0, c2⟩]
      obtain ⟨u1, u2⟩ := ix_un h8 ⟨c0, c2⟩
      have e2 := c_bitsAt d (oh 5 h R T) V m (un i) (vw.2.1 m) SV H (by omega) (by omega) (fun _ => (hv.2.1 m hm).1) h8
      rw [if_pos ⟨by omega, u1⟩, hv.2.2 m _ hm u1] at e2
      simp (disch := omega) only [q_89_0, q_89_1, q_89_2, q_89_3, q_89_6, q_89_7, q_89_9, q_89_10, q_89_13, q_89_14, q_89_15, q_89_18, q_89_19, q_89_20, q_89_23, q_89_24, q_89_25, q_89_27, q_89_28, q_89_29, q_89_30, q_89_33, og_5_2, op_5_2, o_is, o_ob, ofs_len5, ↓reduceIte, k_cr, k_ci, k_oR, k_oN, k_aR, k_aN, and_true, true_and, and_self, eq_self, Nat.reduceLT, Nat.reduceLeDiff, Nat.reduceEqDiff, Nat.reduceAdd, Nat.reduceMul, Bool.true_eq_false, Bool.false_eq_true, Nat.add_sub_cancel, Nat.not_lt_zero, Nat.zero_le, k_sub, k_sb1, k_r, k_n, k_ret, k_t1, k_t0, k_nr, k_nn, k_z0, k_z1, k_zb, x_okI, lit_nI, k_in, k_cl, k_lt, k_le, k_eq, k_neg, nI_add, nI_mul, k_clt, k_cgt, k_cle, k_cge, k_ceq, bI_0, k_sh8, ne_eq, Nat.add_eq_zero_iff, Nat.one_ne_zero, Nat.succ_ne_zero, and_false, false_and, not_false_eq_true, not_true_eq_false, ite_true, ite_false, if_true, if_false, h_is H, c1, e1, hl, c2, u2, e2]
    · rw [if_neg (fun z => c2 z.2)]
      simp (disch := omega) only [q_89_0, q_89_1, q_89_2, q_89_3, q_89_6, q_89_7, q_89_9, q_89_10, q_89_13, q_89_14, q_89_15, q_89_18, q_89_19, q_89_20, q_89_23, q_89_24, q_89_25, q_89_27, q_89_28, q_89_29, q_89_30, q_89_33, og_5_2, op_5_2, o_is, o_ob, ofs_len5, ↓reduceIte, k_cr, k_ci, k_oR, k_oN, k_aR, k_aN, and_true, true_and, and_self, eq_self, Nat.reduceLT, Nat.reduceLeDiff, Nat.reduceEqDiff, Nat.reduceAdd, Nat.reduceMul, Bool.true_eq_false, Bool.false_eq_true, Nat.add_sub_cancel, Nat.not_lt_zero, Nat.zero_le, k_sub, k_sb1, k_r, k_n, k_ret, k_t1, k_t0, k_nr, k_nn, k_z0, k_z1, k_zb, x_okI, lit_nI, k_in, k_cl, k_lt, k_le, k_eq, k_neg, nI_add, nI_mul, k_clt, k_cgt, k_cle, k_cge, k_ceq, bI_0, k_sh8, ne_eq, Nat.add_eq_zero_iff, Nat.one_ne_zero, Nat.succ_ne_zero, and_false, false_and, not_false_eq_true, not_true_eq_false, ite_true, ite_false, if_true, if_false, h_is H, c1, e1, hl, c2]
theorem ck_rk (d : Nat) (h : xH) (R : Nat) (T : gS) (a b : Int64) (w c : Int32) (hw : w = nI 7 ∧ c = nI 43 ∨ w = nI 8 ∧ c = nI 45 ∨ w = nI 9 ∧ c = nI 42 ∨ w = nI 10 ∧ c = nI 47 ∨ w = nI 11 ∧ c = nI 37) : ∃ x T2, xm (d + 2) 91 [.ref R, .int c, .long a, .long b] (oh 5 h R T) = some (some (.long x), oh 5 h R T2) ∧ (∀ y, rk w a b = .inr y → x = y ∧ T2 = T) ∧ ∀ k, rk w a b = .inl k → T2 = uI T 2 (nI k) := by
  have H : isB 5 (oh 5 h R T) R T := isB_oh _ _ _ _
  rcases hw with ⟨rfl, rfl⟩ | ⟨rfl, rfl⟩ | ⟨rfl, rfl⟩ | ⟨rfl, rfl⟩ | ⟨rfl, rfl⟩
  · have e := c_total d (oh 5 h R T) R T a b H
    rw [oh_oh] at e
    refine ⟨_, _, c_comb d _ _ R T a b _ 92 _ H (Or.inl ⟨rfl, rfl⟩) e, ?_⟩
    rw [show rk (nI 7) a b = (if ovA a b = true then .inl 2 else .inr (a + b)) from rfl]
    split
    · exact ⟨fun y q => (by cases q), fun k q => by cases q; rfl⟩
    · exact ⟨fun y q => by cases q; exact ⟨rfl, rfl⟩, fun k q => by cases q⟩
  · have e := c_difference d (oh 5 h R T) R T a b H
    rw [oh_oh] at e
    refine ⟨_, _, c_comb d _ _ R T a b _ 90 _ H (Or.inr (Or.inl ⟨rfl, rfl⟩)) e, ?_⟩
    rw [show rk (nI 8) a b = (if ovS a b = true then .inl 2 else .inr (a - b)) from rfl]
    split
    · exact ⟨fun y q => (by cases q), fun k q => by cases q; rfl⟩
    · exact ⟨fun y q => by cases q; exact ⟨rfl, rfl⟩, fun k q => by cases q⟩
  · have e := c_product d (oh 5 h R T) R T a b H
    rw [oh_oh, prW_iff] at e
    refine ⟨_, _, c_comb d _ _ R T a b _ 93 _ H (Or.inr (Or.inr (Or.inl ⟨rfl, rfl⟩))) e, ?_⟩
    rw [show rk (nI 9) a b = (if (a * b).toInt = a.toInt * b.toInt then .inr (a * b) else .inl 2) from rfl]
    split
    · exact ⟨fun y q => by cases q; exact ⟨rfl, rfl⟩, fun k q => by cases q⟩
    · exact ⟨fun y q => (by cases q), fun k q => by cases q; rfl⟩
  · have e := c_quotient d (oh 5 h R T) R T a b H
    rw [oh_oh] at e
    refine ⟨_, _, c_comb d _ _ R T a b _ 94 _ H (Or.inr (Or.inr (Or.inr (Or.inl ⟨rfl, rfl⟩)))) e, ?_⟩
    rw [show rk (nI 10) a b = (match quW a b with
      | some k => .inl k
      | none => .inr (quV a b)) from rfl]
    cases hq : quW a b with
    | none => exact ⟨fun y q => by cases q; exact ⟨rfl, rfl⟩, fun k q => by cases q⟩
    | some k => exact ⟨fun y q => (by cases q), fun j q => by cases q; rfl⟩
  · have e := c_remainder d (oh 5 h R T) R T a b H
    rw [oh_oh] at e
    refine ⟨_, _, c_comb d _ _ R T a b _ 95 _ H (Or.inr (Or.inr (Or.inr (Or.inr ⟨rfl, rfl⟩)))) e, ?_⟩
    rw [show rk (nI 11) a b = (match reW b with
      | some k => .inl k
      | none => .inr (reV a b)) from rfl]
    cases hq : reW b with
    | none => exact ⟨fun y q => by cases q; exact ⟨rfl, rfl⟩, fun k q => by cases q⟩
    | some k => exact ⟨fun y q => (by cases q), fun j q => by cases q; rfl⟩
theorem ckS.push {S : gS} {f : Nat → Int64} {n : Nat} (h : ckS S f n) (x : Int64) : ckS (uI (uL S 0 n x) 1 (nI (n + 1))) (up f n x) (n + 1) := by
  refine ⟨rfl, h.2.1, fun q hq => ?_⟩
  show sL (uL S 0 n x) 0 q = up f n x q
  unfold up
  rw [sL_uL]
  by_cases c : q = n
  · rw [if_pos ⟨rfl, c⟩, if_pos c]
  · rw [if_neg (fun z => c z.2), if_neg c]
    exact h.2.2 q (by omega)
theorem ckS.low {S : gS} {f : Nat → Int64} {n m : Nat} (h : ckS S f n) (hm : m ≤ n) : ckS (uI S 1 (nI m)) f m := ⟨rfl, h.2.1, fun q hq => h.2.2 q (by omega)⟩
/-- an act and the VALUE -/
def actV (e : kE) (w : vW) (a : aT) : Prop := (a.1 = nI 1 → a.2.1.toInt32.toInt64 = a.2.1) ∧ (a.1 = nI 3 → ∀ m, e.1 a.2.1 = some m → 0 < w.2.1 m)
/-- what reckon leans on -/
def rkH (h : xH) (R ρ A V C1 C2 N : Nat) (SR TM SV : gS) (f1 f2 : Nat → Int32) : Prop := isB 10 h ρ SR ∧ isB 3 h A TM ∧ isB 9 h V SV ∧ sR SR 1 = .ref C1 ∧ sR SR 2 = .ref C2 ∧ laI h C1 N f1 ∧ laI h C2 N f2 ∧ N < 2147483648 ∧ dj 5 R 10 ρ ∧ dj 5 R 3 A ∧ dj 5 R 9 V ∧ ofp 5 R C1 = false ∧ ofp 5 R C2 = false
theorem k_step (d : Nat) (h : xH) {R ρ A V C1 C2 N s E i k k2 nv : Nat} {SR TM SV T : gS} {f1 f2 : Nat → Int32} {vw : vW} {e : kE} {a : aT} {B : List aT} {f : Nat → Int64} {l7 l8 l9 : Nat × Value} (hh : rkH h R ρ A V C1 C2 N SR TM SV f1 f2) (hv : ckV nv SV vw) (hn8 : nv ≤ 8) (hEn : ∀ w m, e.1 w = some m → m < nv) (hE : E ≤ N) (hi : i < E) (h1 : f1 i = (cod e a).1) (h2 : f2 i = (cod e a).2) (hW : actW e a) (hA : actV e vw a) (hs : ckS T f k) (hk48 : k ≤ 48) (hO : hOK 48 (a :: B) k = some k2) : ∃ T1 m7 m8 m9, xrun (d + 2) 84 46 [(1, .ref R), (1, .ref ρ), (1, .ref A), (1, .int (nI s)), (1, .ref V), (1, .int (nI E)), (1, .int (nI i)), l7, l8, l9, (0, .null)] [] (oh 5 h R T) = xrun (d + 2) 84 46 [(1, .ref R), (1, .ref ρ), (1, .ref A), (1, .int (nI s)), (1, .ref V), (1, .int (nI E)), (1, .int (nI (i + 1))), m7, m8, m9, (0, .null)] [] (oh 5 h R T1) ∧ fr ckF T T1 ∧ (∀ z, evA e vw a f k = .inr z → ckS T1 z.1 z.2) ∧ ∀ q, evA e vw a f k = .inl q → sI T1 2 = nI q ∧ ∃ n, n ≤ 48 ∧ sI T1 1 = nI n := by
  obtain ⟨HR, HM, HV, r1, r2, a1, a2, hN, d10, d3, d9, o1, o2⟩ := hh
  obtain ⟨g1, g2, g0⟩ := hs
  have hs : ckS T f k := ⟨g1, g2, g0⟩
  have HR' : isB 10 (oh 5 h R T) ρ SR := HR.frame d10
  have iV : ∀ (T : gS) {α : Type} (F : Option α), xis (oh 5 h R T) V 9 F = F := fun T _ F => h_is (HV.frame d9) F
  have c1 : ∀ F : Value → Option xR, xrd (oh 5 h R T) C1 (nI i) 0 1 F = F (.int (f1 i)) := fun F => (a1.frame o1).rd (by omega) hN F
  have c2 : ∀ F : Value → Option xR, xrd (oh 5 h R T) C2 (nI i) 0 1 F = F (.int (f2 i)) := fun F => (a2.frame o2).rd (by omega) hN F
  have hiE : ¬ E ≤ i := by omega
  have hO2 : (if isPu a.1 = true then (if k < 48 then hOK 48 B (k + 1) else none) else if isOn a.1 = true then (if 1 ≤ k then hOK 48 B k else none) else (if 2 ≤ k then hOK 48 B (k - 1) else none)) = some k2 := hO
  have ePu : ∀ (T : gS) (n : Nat) (x : Int64), sI T 1 = nI n → n < 48 → xm (d + 2) 87 [.ref R, .long x] (oh 5 h R T) = some (none, oh 5 h R (uI (uL T 0 n x) 1 (nI (n + 1)))) := fun T n x hn h48 => by
    have := c_push (d + 1) (oh 5 h R T) R n T x (isB_oh _ _ _ _) hn h48
    rw [oh_oh] at this
    exact this
  have ePo : ∀ (T : gS) (n : Nat), sI T 1 = nI (n + 1) → n < 48 → xm (d + 2) 88 [.ref R] (oh 5 h R T) = some (some (.long (sL T 0 n)), oh 5 h R (uI T 1 (nI n))) := fun T n hn h48 => by
    have := c_pop (d + 1) (oh 5 h R T) R n T (isB_oh _ _ _ _) hn h48
    rw [oh_oh] at this
    exact this
  -- what is pushed
  have pu : ∀ (x : Int64) (cc : Nat) (oo : Int32), isPu a.1 = true → evM e vw a.1 a.2.1 = x → f1 i = nI cc → f2 i = oo → cc ≤ 4 → xm (d + 2) 85 [.int (nI cc), .int oo, .ref V] (oh 5 h R T) = some (some (.long x), oh 5 h R T) → ∃ T1 m7 m8 m9, xrun (d + 2) 84 46 [(1, .ref R), (1, .ref ρ), (1, .ref A), (1, .int (nI s)), (1, .ref V), (1, .int (nI E)), (1, .int (nI i)), l7, l8, l9, (0, .null)] [] (oh 5 h R T) = xrun (d + 2) 84 46 [(1, .ref R), (1, .ref ρ), (1, .ref A), (1, .int (nI s)), (1, .ref V), (1, .int (nI E)), (1, .int (nI (i + 1))), m7, m8, m9, (0, .null)] [] (oh 5 h R T1) ∧ fr ckF T T1 ∧ (∀ z, evA e vw a f k = .inr z → ckS T1 z.1 z.2) ∧ ∀ q, evA e vw a f k = .inl q → sI T1 2 = nI q ∧ ∃ n, n ≤ 48 ∧ sI T1 1 = nI n := by
    intro x cc oo hp hx hc ho h4 eL
    rw [if_pos hp] at hO2
    have hk : k < 48 := by
      by_cases c : k < 48
      · exact c
      · rw [if_neg c] at hO2
        cases hO2
    have eP := ePu T k x g1 hk
    refine ⟨uI (uL T 0 k x) 1 (nI (k + 1)), (1, .int (nI cc)), (1, .int oo), l9, ?_, (fr.rfl.uL (by decide)).uI (by decide), fun z hz => ?_, fun q hq => ?_⟩
    · have h4' : ¬ 4 < cc := by omega
      rw [q_84_46]
      simp (disch := omega) only [q_84_0, q_84_1, q_84_2, q_84_5, q_84_6, q_84_7, q_84_10, q_84_11, q_84_14, q_84_15, q_84_16, q_84_17, q_84_20, q_84_21, q_84_22, q_84_25, q_84_26, q_84_29, q_84_32, q_84_34, q_84_35, q_84_38, q_84_39, q_84_40, q_84_41, q_84_44, q_84_48, q_84_50, q_84_53, q_84_54, q_84_57, q_84_60, q_84_61, q_84_64, q_84_66, q_84_67, q_84_69, q_84_70, q_84_73, q_84_75, q_84_76, q_84_78, q_84_80, q_84_81, q_84_84, q_84_85, q_84_87, q_84_89, q_84_91, q_84_94, q_84_97, q_84_100, q_84_102, q_84_103, q_84_106, q_84_107, q_84_108, q_84_109, q_84_112, q_84_114, q_84_116, q_84_119, q_84_122, q_84_125, q_84_127, q_84_129, q_84_132, q_84_133, q_84_134, q_84_135, q_84_136, q_84_139, q_84_142, q_84_145, q_84_148, q_84_149, q_84_152, q_84_154, q_84_155, q_84_156, q_84_158, q_84_159, q_84_162, q_84_164, q_84_167, q_84_170, q_84_173, q_84_176, q_84_177, q_84_178, q_84_181, q_84_184, q_84_185, q_84_188, q_84_191, q_84_192, q_84_195, q_84_196, og_5_1, op_5_1, og_5_2, op_5_2, og_3_3, or_3_3, ow_3_3, og_10_1, og_10_2, og_3_2, or_3_2, ow_3_2, og_5_3, op_5_3, o_is, o_ob, ofs_len3, ofs_len5, ofs_len10, q_84_0, q_84_1, q_84_2, q_84_5, q_84_6, q_84_7, q_84_10, q_84_11, q_84_14, q_84_15, q_84_16, q_84_17, q_84_20, q_84_21, q_84_22, q_84_25, q_84_26, q_84_29, q_84_32, q_84_34, q_84_35, q_84_38, q_84_39, q_84_40, q_84_41, q_84_44, q_84_48, q_84_50, q_84_53, q_84_54, q_84_57, q_84_60, q_84_61, q_84_64, q_84_66, q_84_67, q_84_69, q_84_70, q_84_73, q_84_75, q_84_76, q_84_78, q_84_80, q_84_81, q_84_84, q_84_85, q_84_87, q_84_89, q_84_91, q_84_94, q_84_97, q_84_100, q_84_102, q_84_103, q_84_106, q_84_107, q_84_108, q_84_109, q_84_112, q_84_114, q_84_116, q_84_119, q_84_122, q_84_125, q_84_127, q_84_129, q_84_132, q_84_133, q_84_134, q_84_135, q_84_136, q_84_139, q_84_142, q_84_145, q_84_148, q_84_149, q_84_152, q_84_154, q_84_155, q_84_156, q_84_158, q_84_159, q_84_162, q_84_164, q_84_167, q_84_170, q_84_173, q_84_176, q_84_177, q_84_178, q_84_181, q_84_184, q_84_185, q_84_188, q_84_191, q_84_192, q_84_195, q_84_196, hg_10_1 HR', hg_10_2 HR', h_is HR', h_ob HR', ofs_len10, ↓reduceIte, k_cr, k_ci, k_oR, k_oN, k_aR, k_aN, and_true, true_and, and_self, eq_self, Nat.reduceLT, Nat.reduceLeDiff, Nat.reduceEqDiff, Nat.reduceAdd, Nat.reduceMul, Bool.true_eq_false, Bool.false_eq_true, Nat.add_sub_cancel, Nat.not_lt_zero, Nat.zero_le, k_sub, k_sb1, k_r, k_n, k_ret, k_t1, k_t0, k_nr, k_nn, k_z0, k_z1, k_zb, x_okI, lit_nI, k_in, k_cl, k_lt, k_le, k_eq, k_neg, nI_add, nI_mul, k_clt, k_cgt, k_cle, k_cge, k_ceq, bI_0, k_sh8, ne_eq, Nat.add_eq_zero_iff, Nat.one_ne_zero, Nat.succ_ne_zero, and_false, false_and, not_false_eq_true, not_true_eq_false, ite_true, ite_false, if_true, if_false, iV, c1, c2, r1, r2, hiE, g2, hc, ho, h4', eL, eP]
    · unfold evA at hz
      rw [if_pos hp, hx] at hz
      cases hz
      exact hs.push x
    · unfold evA at hq
      rw [if_pos hp] at hq
      cases hq
  have HV' : isB 9 (oh 5 h R T) V SV := HV.frame d9
  have one : isPu a.1 = false → isOn a.1 = true → ∃ y, k = y + 1 := by
    intro hp ho
    rw [if_neg (by rw [hp]; decide), if_pos ho] at hO2
    have hk : 1 ≤ k := by
      by_cases c : 1 ≤ k
      · exact c
      · rw [if_neg c] at hO2
        cases hO2
    exact ⟨k - 1, by omega⟩
  rcases hW with (w | w | w | w) | ⟨w, m, hm, hm8⟩
  · have ec : cod e a = (nI 1, a.2.1.toInt32) := by
      unfold cod
      rw [if_pos w]
    rw [ec] at h1 h2
    have eL := c_loaded_n d (oh 5 h R T) a.2.1.toInt32 (.ref V) rfl
    rw [hA.1 w] at eL
    exact pu a.2.1 1 _ (by rw [w]; decide) (by unfold evM; rw [if_pos w]) h1 h2 (by omega) eL
  · have ec : cod e a = (nI 2, nI 0) := by
      unfold cod
      rw [w]
      rfl
    rw [ec] at h1 h2
    have eL := c_loaded_k d (oh 5 h R T) V SV (nI 0) HV'
    rw [hv.1] at eL
    exact pu vw.1 2 _ (by rw [w]; decide) (by unfold evM; rw [w, if_neg (by decide), if_pos rfl]) h1 h2 (by omega) eL
  · -- minus
    have hp : isPu a.1 = false := by
      rw [w]
      decide
    have ho : isOn a.1 = true := by
      rw [w]
      decide
    have ec : cod e a = (nI 6, nI 0) := by
      unfold cod
      rw [w]
      rfl
    rw [ec] at h1 h2
    have h1 : f1 i = nI 6 := h1
    have h2 : f2 i = nI 0 := h2
    obtain ⟨y, rfl⟩ := one hp ho
    have gy := g0 y (by omega)
    have ev : evA e vw a f (y + 1) = (match evO e vw a (f y) with
      | .inl k => .inl k
      | .inr x => .inr (up f y x, y + 1)) := by
      unfold evA
      rw [if_neg (by rw [hp]; decide), if_pos ho]
      rfl
    have eo : evO e vw a (f y) = if f y = -9223372036854775808 then .inl 2 else .inr (-f y) := by
      unfold evO
      rw [w, if_neg (by decide)]
    have eQ := ePo T y g1 (by omega)
    rw [gy] at eQ
    have eD := c_difference (d + 1) (oh 5 h R (uI T 1 (nI y))) R (uI T 1 (nI y)) 0 (f y) (isB_oh _ _ _ _)
    rw [oh_oh, (ovS_0 (f y)).1, (ovS_0 (f y)).2] at eD
    have eD : xm (d + 2) 90 [.ref R, .long 0, .long (f y)] (oh 5 h R (uI T 1 (nI y))) = _ := eD
    rw [ev, eo]
    by_cases c : f y = -9223372036854775808
    · rw [if_pos (decide_eq_true c)] at eD
      rw [if_pos c]
      have eP := ePu (uI (uI T 1 (nI y)) 2 (nI 2)) y (-f y) rfl (by omega)
      refine ⟨uI (uL (uI (uI T 1 (nI y)) 2 (nI 2)) 0 y (-f y)) 1 (nI (y + 1)), (1, .int (nI 6)), (1, .int (nI 0)), l9, ?_, (((fr.rfl.uI (by decide)).uI (by decide)).uL (by decide)).uI (by decide), fun z hz => (by cases hz), fun q hq => by cases hq; exact ⟨rfl, y + 1, by omega, rfl⟩⟩
      rw [q_84_46]
      generalize f y = fy at *
      simp (disch := omega) only [q_84_0, q_84_1, q_84_2, q_84_5, q_84_6, q_84_7, q_84_10, q_84_11, q_84_14, q_84_15, q_84_16, q_84_17, q_84_20, q_84_21, q_84_22, q_84_25, q_84_26, q_84_29, q_84_32, q_84_34, q_84_35, q_84_38, q_84_39, q_84_40, q_84_41, q_84_44, q_84_48, q_84_50, q_84_53, q_84_54, q_84_57, q_84_60, q_84_61, q_84_64, q_84_66, q_84_67, q_84_69, q_84_70, q_84_73, q_84_75, q_84_76, q_84_78, q_84_80, q_84_81, q_84_84, q_84_85, q_84_87, q_84_89, q_84_91, q_84_94, q_84_97, q_84_100, q_84_102, q_84_103, q_84_106, q_84_107, q_84_108, q_84_109, q_84_112, q_84_114, q_84_116, q_84_119, q_84_122, q_84_125, q_84_127, q_84_129, q_84_132, q_84_133, q_84_134, q_84_135, q_84_136, q_84_139, q_84_142, q_84_145, q_84_148, q_84_149, q_84_152, q_84_154, q_84_155, q_84_156, q_84_158, q_84_159, q_84_162, q_84_164, q_84_167, q_84_170, q_84_173, q_84_176, q_84_177, q_84_178, q_84_181, q_84_184, q_84_185, q_84_188, q_84_191, q_84_192, q_84_195, q_84_196, og_5_1, op_5_1, og_5_2, op_5_2, og_3_3, or_3_3, ow_3_3, og_10_1, og_10_2, og_3_2, or_3_2, ow_3_2, og_5_3, op_5_3, o_is, o_ob, ofs_len3, ofs_len5, ofs_len10, q_84_0, q_84_1, q_84_2, q_84_5, q_84_6, q_84_7, q_84_10, q_84_11, q_84_14, q_84_15, q_84_16, q_84_17, q_84_20, q_84_21, q_84_22, q_84_25, q_84_26, q_84_29, q_84_32, q_84_34, q_84_35, q_84_38, q_84_39, q_84_40, q_84_41, q_84_44, q_84_48, q_84_50, q_84_53, q_84_54, q_84_57, q_84_60, q_84_61, q_84_64, q_84_66, q_84_67, q_84_69, q_84_70, q_84_73, q_84_75, q_84_76, q_84_78, q_84_80, q_84_81, q_84_84, q_84_85, q_84_87, q_84_89, q_84_91, q_84_94, q_84_97, q_84_100, q_84_102, q_84_103, q_84_106, q_84_107, q_84_108, q_84_109, q_84_112, q_84_114, q_84_116, q_84_119, q_84_122, q_84_125, q_84_127, q_84_129, q_84_132, q_84_133, q_84_134, q_84_135, q_84_136, q_84_139, q_84_142, q_84_145, q_84_148, q_84_149, q_84_152, q_84_154, q_84_155, q_84_156, q_84_158, q_84_159, q_84_162, q_84_164, q_84_167, q_84_170, q_84_173, q_84_176, q_84_177, q_84_178, q_84_181, q_84_184, q_84_185, q_84_188, q_84_191, q_84_192, q_84_195, q_84_196, hg_10_1 HR', hg_10_2 HR', h_is HR', h_ob HR', ofs_len10, ↓reduceIte, k_cr, k_ci, k_oR, k_oN, k_aR, k_aN, and_true, true_and, and_self, eq_self, Nat.reduceLT, Nat.reduceLeDiff, Nat.reduceEqDiff, Nat.reduceAdd, Nat.reduceMul, Bool.true_eq_false, Bool.false_eq_true, Nat.add_sub_cancel, Nat.not_lt_zero, Nat.zero_le, k_sub, k_sb1, k_r, k_n, k_ret, k_t1, k_t0, k_nr, k_nn, k_z0, k_z1, k_zb, x_okI, lit_nI, k_in, k_cl, k_lt, k_le, k_eq, k_neg, nI_add, nI_mul, k_clt, k_cgt, k_cle, k_cge, k_ceq, bI_0, k_sh8, ne_eq, Nat.add_eq_zero_iff, Nat.one_ne_zero, Nat.succ_ne_zero, and_false, false_and, not_false_eq_true, not_true_eq_false, ite_true, ite_false, if_true, if_false, iV, c1, c2, r1, r2, hiE, g2, h1, h2, eQ, eD, eP]
    · rw [if_neg (by rw [decide_eq_false c]; decide)] at eD
      rw [if_neg c]
      have eP := ePu (uI T 1 (nI y)) y (-f y) rfl (by omega)
      refine ⟨uI (uL (uI T 1 (nI y)) 0 y (-f y)) 1 (nI (y + 1)), (1, .int (nI 6)), (1, .int (nI 0)), l9, ?_, ((fr.rfl.uI (by decide)).uL (by decide)).uI (by decide), fun z hz => ?_, fun q hq => by cases hq⟩
      · rw [q_84_46]
        generalize f y = fy at *
        simp (disch := omega) only [q_84_0, q_84_1, q_84_2, q_84_5, q_84_6, q_84_7, q_84_10, q_84_11, q_84_14, q_84_15, q_84_16, q_84_17, q_84_20, q_84_21, q_84_22, q_84_25, q_84_26, q_84_29, q_84_32, q_84_34, q_84_35, q_84_38, q_84_39, q_84_40, q_84_41, q_84_44, q_84_48, q_84_50, q_84_53, q_84_54, q_84_57, q_84_60, q_84_61, q_84_64, q_84_66, q_84_67, q_84_69, q_84_70, q_84_73, q_84_75, q_84_76, q_84_78, q_84_80, q_84_81, q_84_84, q_84_85, q_84_87, q_84_89, q_84_91, q_84_94, q_84_97, q_84_100, q_84_102, q_84_103, q_84_106, q_84_107, q_84_108, q_84_109, q_84_112, q_84_114, q_84_116, q_84_119, q_84_122, q_84_125, q_84_127, q_84_129, q_84_132, q_84_133, q_84_134, q_84_135, q_84_136, q_84_139, q_84_142, q_84_145, q_84_148, q_84_149, q_84_152, q_84_154, q_84_155, q_84_156, q_84_158, q_84_159, q_84_162, q_84_164, q_84_167, q_84_170, q_84_173, q_84_176, q_84_177, q_84_178, q_84_181, q_84_184, q_84_185, q_84_188, q_84_191, q_84_192, q_84_195, q_84_196, og_5_1, op_5_1, og_5_2, op_5_2, og_3_3, or_3_3, ow_3_3, og_10_1, og_10_2, og_3_2, or_3_2, ow_3_2, og_5_3, op_5_3, o_is, o_ob, ofs_len3, ofs_len5, ofs_len10, q_84_0, q_84_1, q_84_2, q_84_5, q_84_6, q_84_7, q_84_10, q_84_11, q_84_14, q_84_15, q_84_16, q_84_17, q_84_20, q_84_21, q_84_22, q_84_25, q_84_26, q_84_29, q_84_32, q_84_34, q_84_35, q_84_38, q_84_39, q_84_40, q_84_41, q_84_44, q_84_48, q_84_50, q_84_53, q_84_54, q_84_57, q_84_60, q_84_61, q_84_64, q_84_66, q_84_67, q_84_69, q_84_70, q_84_73, q_84_75, q_84_76, q_84_78, q_84_80, q_84_81, q_84_84, q_84_85, q_84_87, q_84_89, q_84_91, q_84_94, q_84_97, q_84_100, q_84_102, q_84_103, q_84_106, q_84_107, q_84_108, q_84_109, q_84_112, q_84_114, q_84_116, q_84_119, q_84_122, q_84_125, q_84_127, q_84_129, q_84_132, q_84_133, q_84_134, q_84_135, q_84_136, q_84_139, q_84_142, q_84_145, q_84_148, q_84_149, q_84_152, q_84_154, q_84_155, q_84_156, q_84_158, q_84_159, q_84_162, q_84_164, q_84_167, q_84_170, q_84_173, q_84_176, q_84_177, q_84_178, q_84_181, q_84_184, q_84_185, q_84_188, q_84_191, q_84_192, q_84_195, q_84_196, hg_10_1 HR', hg_10_2 HR', h_is HR', h_ob HR', ofs_len10, ↓reduceIte, k_cr, k_ci, k_oR, k_oN, k_aR, k_aN, and_true, true_and, and_self, eq_self, Nat.reduceLT, Nat.reduceLeDiff, Nat.reduceEqDiff, Nat.reduceAdd, Nat.reduceMul, Bool.true_eq_false, Bool.false_eq_true, Nat.add_sub_cancel, Nat.not_lt_zero, Nat.zero_le, k_sub, k_sb1, k_r, k_n, k_ret, k_t1, k_t0, k_nr, k_nn, k_z0, k_z1, k_zb, x_okI, lit_nI, k_in, k_cl, k_lt, k_le, k_eq, k_neg, nI_add, nI_mul, k_clt, k_cgt, k_cle, k_cge, k_ceq, bI_0, k_sh8, ne_eq, Nat.add_eq_zero_iff, Nat.one_ne_zero, Nat.succ_ne_zero, and_false, false_and, not_false_eq_true, not_true_eq_false, ite_true, ite_false, if_true, if_false, iV, c1, c2, r1, r2, hiE, g2, h1, h2, eQ, eD, eP]
      · cases hz
        exact (hs.low (show y ≤ y + 1 by omega)).push (-f y)
  · -- two
    have hp : isPu a.1 = false ∧ isOn a.1 = false := by
      rcases w with w | w | w | w | w <;> rw [w] <;> decide
    rw [if_neg (by rw [hp.1]; decide), if_neg (by rw [hp.2]; decide)] at hO2
    have hk : 2 ≤ k := by
      by_cases c : 2 ≤ k
      · exact c
      · rw [if_neg c] at hO2
        cases hO2
    obtain ⟨y, rfl⟩ : ∃ y, k = y + 2 := ⟨k - 2, by omega⟩
    have gy := g0 y (by omega)
    have gy1 := g0 (y + 1) (by omega)
    have hw2 : ∃ cc : Nat, 6 < cc ∧ cc < 100 ∧ cod e a = (nI cc, nI 0) ∧ (a.1 = nI 7 ∧ nI cc = nI 43 ∨ a.1 = nI 8 ∧ nI cc = nI 45 ∨ a.1 = nI 9 ∧ nI cc = nI 42 ∨ a.1 = nI 10 ∧ nI cc = nI 47 ∨ a.1 = nI 11 ∧ nI cc = nI 37) := by
      rcases w with w | w | w | w | w
      · exact ⟨43, by omega, by omega, by unfold cod; rw [w]; rfl, Or.inl ⟨w, rfl⟩⟩
      · exact ⟨45, by omega, by omega, by unfold cod; rw [w]; rfl, Or.inr (Or.inl ⟨w, rfl⟩)⟩
      · exact ⟨42, by omega, by omega, by unfold cod; rw [w]; rfl, Or.inr (Or.inr (Or.inl ⟨w, rfl⟩))⟩
      · exact ⟨47, by omega, by omega, by unfold cod; rw [w]; rfl, Or.inr (Or.inr (Or.inr (Or.inl ⟨w, rfl⟩)))⟩
      · exact ⟨37, by omega, by omega, by unfold cod; rw [w]; rfl, Or.inr (Or.inr (Or.inr (Or.inr ⟨w, rfl⟩)))⟩
    obtain ⟨cc, hc1, hc2, ec, hcc⟩ := hw2
    rw [ec] at h1 h2
    have h1 : f1 i = nI cc := h1
    have h2 : f2 i = nI 0 := h2
    have n4 : 4 < cc := by omega
    have n5 : ¬ cc = 5 := by omega
    have n6 : ¬ cc = 6 := by omega
    have eQ := ePo T (y + 1) g1 (by omega)
    rw [gy1] at eQ
    have eQ2 := ePo (uI T 1 (nI (y + 1))) y rfl (by omega)
    rw [uI_uI, show sL (uI T 1 (nI (y + 1))) 0 y = f y from gy] at eQ2
    obtain ⟨x, T2, ex, x1, x2⟩ := ck_rk d h R (uI T 1 (nI y)) (f y) (f (y + 1)) a.1 (nI cc) hcc
    have ev : evA e vw a f (y + 2) = (match rk a.1 (f y) (f (y + 1)) with
      | .inl k => .inl k
      | .inr x => .inr (up f y x, y + 1)) := by
      unfold evA
      rw [if_neg (by rw [hp.1]; decide), if_neg (by rw [hp.2]; decide)]
      rfl
    rw [ev]
    cases hq : rk a.1 (f y) (f (y + 1)) with
    | inl q =>
      have e2 := x2 q hq
      subst e2
      have eP := ePu (uI (uI T 1 (nI y)) 2 (nI q)) y x rfl (by omega)
      refine ⟨uI (uL (uI (uI T 1 (nI y)) 2 (nI q)) 0 y x) 1 (nI (y + 1)), (1, .int (nI cc)), (1, .int (nI 0)), (2, .long (f (y + 1))), ?_, (((fr.rfl.uI (by decide)).uI (by decide)).uL (by decide)).uI (by decide), fun z hz => (by cases hz), fun q2 hq2 => by cases hq2; exact ⟨rfl, y + 1, by omega, rfl⟩⟩
      rw [q_84_46]
      simp (disch := omega) only [q_84_0, q_84_1, q_84_2, q_84_5, q_84_6, q_84_7, q_84_10, q_84_11, q_84_14, q_84_15, q_84_16, q_84_17, q_84_20, q_84_21, q_84_22, q_84_25, q_84_26, q_84_29, q_84_32, q_84_34, q_84_35, q_84_38, q_84_39, q_84_40, q_84_41, q_84_44, q_84_48, q_84_50, q_84_53, q_84_54, q_84_57, q_84_60, q_84_61, q_84_64, q_84_66, q_84_67, q_84_69, q_84_70, q_84_73, q_84_75, q_84_76, q_84_78, q_84_80, q_84_81, q_84_84, q_84_85, q_84_87, q_84_89, q_84_91, q_84_94, q_84_97, q_84_100, q_84_102, q_84_103, q_84_106, q_84_107, q_84_108, q_84_109, q_84_112, q_84_114, q_84_116, q_84_119, q_84_122, q_84_125, q_84_127, q_84_129, q_84_132, q_84_133, q_84_134, q_84_135, q_84_136, q_84_139, q_84_142, q_84_145, q_84_148, q_84_149, q_84_152, q_84_154, q_84_155, q_84_156, q_84_158, q_84_159, q_84_162, q_84_164, q_84_167, q_84_170, q_84_173, q_84_176, q_84_177, q_84_178, q_84_181, q_84_184, q_84_185, q_84_188, q_84_191, q_84_192, q_84_195, q_84_196, og_5_1, op_5_1, og_5_2, op_5_2, og_3_3, or_3_3, ow_3_3, og_10_1, og_10_2, og_3_2, or_3_2, ow_3_2, og_5_3, op_5_3, o_is, o_ob, ofs_len3, ofs_len5, ofs_len10, q_84_0, q_84_1, q_84_2, q_84_5, q_84_6, q_84_7, q_84_10, q_84_11, q_84_14, q_84_15, q_84_16, q_84_17, q_84_20, q_84_21, q_84_22, q_84_25, q_84_26, q_84_29, q_84_32, q_84_34, q_84_35, q_84_38, q_84_39, q_84_40, q_84_41, q_84_44, q_84_48, q_84_50, q_84_53, q_84_54, q_84_57, q_84_60, q_84_61, q_84_64, q_84_66, q_84_67, q_84_69, q_84_70, q_84_73, q_84_75, q_84_76, q_84_78, q_84_80, q_84_81, q_84_84, q_84_85, q_84_87, q_84_89, q_84_91, q_84_94, q_84_97, q_84_100, q_84_102, q_84_103, q_84_106, q_84_107, q_84_108, q_84_109, q_84_112, q_84_114, q_84_116, q_84_119, q_84_122, q_84_125, q_84_127, q_84_129, q_84_132, q_84_133, q_84_134, q_84_135, q_84_136, q_84_139, q_84_142, q_84_145, q_84_148, q_84_149, q_84_152, q_84_154, q_84_155, q_84_156, q_84_158, q_84_159, q_84_162, q_84_164, q_84_167, q_84_170, q_84_173, q_84_176, q_84_177, q_84_178, q_84_181, q_84_184, q_84_185, q_84_188, q_84_191, q_84_192, q_84_195, q_84_196, hg_10_1 HR', hg_10_2 HR', h_is HR', h_ob HR', ofs_len10, ↓reduceIte, k_cr, k_ci, k_oR, k_oN, k_aR, k_aN, and_true, true_and, and_self, eq_self, Nat.reduceLT, Nat.reduceLeDiff, Nat.reduceEqDiff, Nat.reduceAdd, Nat.reduceMul, Bool.true_eq_false, Bool.false_eq_true, Nat.add_sub_cancel, Nat.not_lt_zero, Nat.zero_le, k_sub, k_sb1, k_r, k_n, k_ret, k_t1, k_t0, k_nr, k_nn, k_z0, k_z1, k_zb, x_okI, lit_nI, k_in, k_cl, k_lt, k_le, k_eq, k_neg, nI_add, nI_mul, k_clt, k_cgt, k_cle, k_cge, k_ceq, bI_0, k_sh8, ne_eq, Nat.add_eq_zero_iff, Nat.one_ne_zero, Nat.succ_ne_zero, and_false, false_and, not_false_eq_true, not_true_eq_false, ite_true, ite_false, if_true, if_false, iV, c1, c2, r1, r2, hiE, g2, h1, h2, n4, n5, n6, eQ, eQ2, ex, eP]
    | inr t =>
      obtain ⟨e1, e2⟩ := x1 t hq
      subst e1
      subst e2
      have eP := ePu (uI T 1 (nI y)) y x rfl (by omega)
      refine ⟨uI (uL (uI T 1 (nI y)) 0 y x) 1 (nI (y + 1)), (1, .int (nI cc)), (1, .int (nI 0)), (2, .long (f (y + 1))), ?_, ((fr.rfl.uI (by decide)).uL (by decide)).uI (by decide), fun z hz => ?_, fun q2 hq2 => by cases hq2⟩
      · rw [q_84_46]
        simp (disch := omega) only [q_84_0, q_84_1, q_84_2, q_84_5, q_84_6, q_84_7, q_84_10, q_84_11, q_84_14, q_84_15, q_84_16, q_84_17, q_84_20, q_84_21, q_84_22, q_84_25, q_84_26, q_84_29, q_84_32, q_84_34, q_84_35, q_84_38, q_84_39, q_84_40, q_84_41, q_84_44, q_84_48, q_84_50, q_84_53, q_84_54, q_84_57, q_84_60, q_84_61, q_84_64, q_84_66, q_84_67, q_84_69, q_84_70, q_84_73, q_84_75, q_84_76, q_84_78, q_84_80, q_84_81, q_84_84, q_84_85, q_84_87, q_84_89, q_84_91, q_84_94, q_84_97, q_84_100, q_84_102, q_84_103, q_84_106, q_84_107, q_84_108, q_84_109, q_84_112, q_84_114, q_84_116, q_84_119, q_84_122, q_84_125, q_84_127, q_84_129, q_84_132, q_84_133, q_84_134, q_84_135, q_84_136, q_84_139, q_84_142, q_84_145, q_84_148, q_84_149, q_84_152, q_84_154, q_84_155, q_84_156, q_84_158, q_84_159, q_84_162, q_84_164, q_84_167, q_84_170, q_84_173, q_84_176, q_84_177, q_84_178, q_84_181, q_84_184, q_84_185, q_84_188, q_84_191, q_84_192, q_84_195, q_84_196, og_5_1, op_5_1, og_5_2, op_5_2, og_3_3, or_3_3, ow_3_3, og_10_1, og_10_2, og_3_2, or_3_2, ow_3_2, og_5_3, op_5_3, o_is, o_ob, ofs_len3, ofs_len5, ofs_len10, q_84_0, q_84_1, q_84_2, q_84_5, q_84_6, q_84_7, q_84_10, q_84_11, q_84_14, q_84_15, q_84_16, q_84_17, q_84_20, q_84_21, q_84_22, q_84_25, q_84_26, q_84_29, q_84_32, q_84_34, q_84_35, q_84_38, q_84_39, q_84_40, q_84_41, q_84_44, q_84_48, q_84_50, q_84_53, q_84_54, q_84_57, q_84_60, q_84_61, q_84_64, q_84_66, q_84_67, q_84_69, q_84_70, q_84_73, q_84_75, q_84_76, q_84_78, q_84_80, q_84_81, q_84_84, q_84_85, q_84_87, q_84_89, q_84_91, q_84_94, q_84_97, q_84_100, q_84_102, q_84_103, q_84_106, q_84_107, q_84_108, q_84_109, q_84_112, q_84_114, q_84_116, q_84_119, q_84_122, q_84_125, q_84_127, q_84_129, q_84_132, q_84_133, q_84_134, q_84_135, q_84_136, q_84_139, q_84_142, q_84_145, q_84_148, q_84_149, q_84_152, q_84_154, q_84_155, q_84_156, q_84_158, q_84_159, q_84_162, q_84_164, q_84_167, q_84_170, q_84_173, q_84_176, q_84_177, q_84_178, q_84_181, q_84_184, q_84_185, q_84_188, q_84_191, q_84_192, q_84_195, q_84_196, hg_10_1 HR', hg_10_2 HR', h_is HR', h_ob HR', ofs_len10, ↓reduceIte, k_cr, k_ci, k_oR, k_oN, k_aR, k_aN, and_true, true_and, and_self, eq_self, Nat.reduceLT, Nat.reduceLeDiff, Nat.reduceEqDiff, Nat.reduceAdd, Nat.reduceMul, Bool.true_eq_false, Bool.false_eq_true, Nat.add_sub_cancel, Nat.not_lt_zero, Nat.zero_le, k_sub, k_sb1, k_r, k_n, k_ret, k_t1, k_t0, k_nr, k_nn, k_z0, k_z1, k_zb, x_okI, lit_nI, k_in, k_cl, k_lt, k_le, k_eq, k_neg, nI_add, nI_mul, k_clt, k_cgt, k_cle, k_cge, k_ceq, bI_0, k_sh8, ne_eq, Nat.add_eq_zero_iff, Nat.one_ne_zero, Nat.succ_ne_zero, and_false, false_and, not_false_eq_true, not_true_eq_false, ite_true, ite_false, if_true, if_false, iV, c1, c2, r1, r2, hiE, g2, h1, h2, n4, n5, n6, eQ, eQ2, ex, eP]
      · cases hz
        exact (hs.low (show y ≤ y + 2 by omega)).push x
  · have en : ∀ m', e.1 a.2.1 = some m' → oI (e.1 a.2.1) = nI m' := fun m' q => by rw [q]; rfl
    rcases w with w | w | w
    · have ec : cod e a = (nI 3, nI m) := by
        unfold cod
        rw [w, hm]
        rfl
      rw [ec] at h1 h2
      have hc := hv.2.1 m (hEn _ _ hm)
      have hpos := hA.2 w m hm
      have eL := c_loaded_m d (oh 5 h R T) V m (vw.2.1 m) SV HV' hm8 hc.1 hc.2
      have h0 := hv.2.2 m 0 (hEn _ _ hm) hpos
      rw [Nat.add_zero] at h0
      rw [if_pos hpos, h0] at eL
      exact pu (vw.2.2 m 0) 3 _ (by rw [w]; decide) (by unfold evM; rw [w, if_neg (by decide), if_neg (by decide), hm]; exact if_pos rfl) h1 h2 (by omega) eL
    · -- an element
      have hp : isPu a.1 = false := by
        rw [w]
        decide
      have ho : isOn a.1 = true := by
        rw [w]
        decide
      have ec : cod e a = (nI 5, nI m) := by
        unfold cod
        rw [w, hm]
        rfl
      rw [ec] at h1 h2
      have h1 : f1 i = nI 5 := h1
      have h2 : f2 i = nI m := h2
      obtain ⟨y, rfl⟩ := one hp ho
      have gy := g0 y (by omega)
      have ev : evA e vw a f (y + 1) = (match evO e vw a (f y) with
        | .inl k => .inl k
        | .inr x => .inr (up f y x, y + 1)) := by
        unfold evA
        rw [if_neg (by rw [hp]; decide), if_pos ho]
        rfl
      have eo : evO e vw a (f y) = if 0 ≤ f y ∧ f y < lN (vw.2.1 m) then .inr (vw.2.2 m (un (f y))) else .inl 5 := by
        unfold evO evI
        rw [w, if_pos rfl, hm]
        rfl
      have eQ := ePo T y g1 (by omega)
      rw [gy] at eQ
      have eK := c_picked d h (T := uI T 1 (nI y)) (i := f y) HV d9 hv (hEn _ _ hm) hn8
      rw [ev, eo]
      by_cases c0 : 0 ≤ f y ∧ f y < lN (vw.2.1 m)
      · rw [if_pos c0]
        rw [if_pos c0] at eK
        have eP := ePu (uI T 1 (nI y)) y (vw.2.2 m (un (f y))) rfl (by omega)
        refine ⟨uI (uL (uI T 1 (nI y)) 0 y (vw.2.2 m (un (f y)))) 1 (nI (y + 1)), (1, .int (nI 5)), (1, .int (nI m)), l9, ?_, ((fr.rfl.uI (by decide)).uL (by decide)).uI (by decide), fun z hz => ?_, fun q hq => by cases hq⟩
        · rw [q_84_46]
          simp (disch := omega) only [q_84_0, q_84_1, q_84_2, q_84_5, q_84_6, q_84_7, q_84_10, q_84_11, q_84_14, q_84_15, q_84_16, q_84_17, q_84_20, q_84_21, q_84_22, q_84_25, q_84_26, q_84_29, q_84_32, q_84_34, q_84_35, q_84_38, q_84_39, q_84_40, q_84_41, q_84_44, q_84_48, q_84_50, q_84_53, q_84_54, q_84_57, q_84_60, q_84_61, q_84_64, q_84_66, q_84_67, q_84_69, q_84_70, q_84_73, q_84_75, q_84_76, q_84_78, q_84_80, q_84_81, q_84_84, q_84_85, q_84_87, q_84_89, q_84_91, q_84_94, q_84_97, q_84_100, q_84_102, q_84_103, q_84_106, q_84_107, q_84_108, q_84_109, q_84_112, q_84_114, q_84_116, q_84_119, q_84_122, q_84_125, q_84_127, q_84_129, q_84_132, q_84_133, q_84_134, q_84_135, q_84_136, q_84_139, q_84_142, q_84_145, q_84_148, q_84_149, q_84_152, q_84_154, q_84_155, q_84_156, q_84_158, q_84_159, q_84_162, q_84_164, q_84_167, q_84_170, q_84_173, q_84_176, q_84_177, q_84_178, q_84_181, q_84_184, q_84_185, q_84_188, q_84_191, q_84_192, q_84_195, q_84_196, og_5_1, op_5_1, og_5_2, op_5_2, og_3_3, or_3_3, ow_3_3, og_10_1, og_10_2, og_3_2, or_3_2, ow_3_2, og_5_3, op_5_3, o_is, o_ob, ofs_len3, ofs_len5, ofs_len10, q_84_0, q_84_1, q_84_2, q_84_5, q_84_6, q_84_7, q_84_10, q_84_11, q_84_14, q_84_15, q_84_16, q_84_17, q_84_20, q_84_21, q_84_22, q_84_25, q_84_26, q_84_29, q_84_32, q_84_34, q_84_35, q_84_38, q_84_39, q_84_40, q_84_41, q_84_44, q_84_48, q_84_50, q_84_53, q_84_54, q_84_57, q_84_60, q_84_61, q_84_64, q_84_66, q_84_67, q_84_69, q_84_70, q_84_73, q_84_75, q_84_76, q_84_78, q_84_80, q_84_81, q_84_84, q_84_85, q_84_87, q_84_89, q_84_91, q_84_94, q_84_97, q_84_100, q_84_102, q_84_103, q_84_106, q_84_107, q_84_108, q_84_109, q_84_112, q_84_114, q_84_116, q_84_119, q_84_122, q_84_125, q_84_127, q_84_129, q_84_132, q_84_133, q_84_134, q_84_135, q_84_136, q_84_139, q_84_142, q_84_145, q_84_148, q_84_149, q_84_152, q_84_154, q_84_155, q_84_156, q_84_158, q_84_159, q_84_162, q_84_164, q_84_167, q_84_170, q_84_173, q_84_176, q_84_177, q_84_178, q_84_181, q_84_184, q_84_185, q_84_188, q_84_191, q_84_192, q_84_195, q_84_196, hg_10_1 HR', hg_10_2 HR', h_is HR', h_ob HR', ofs_len10, ↓reduceIte, k_cr, k_ci, k_oR, k_oN, k_aR, k_aN, and_true, true_and, and_self, eq_self, Nat.reduceLT, Nat.reduceLeDiff, Nat.reduceEqDiff, Nat.reduceAdd, Nat.reduceMul, Bool.true_eq_false, Bool.false_eq_true, Nat.add_sub_cancel, Nat.not_lt_zero, Nat.zero_le, k_sub, k_sb1, k_r, k_n, k_ret, k_t1, k_t0, k_nr, k_nn, k_z0, k_z1, k_zb, x_okI, lit_nI, k_in, k_cl, k_lt, k_le, k_eq, k_neg, nI_add, nI_mul, k_clt, k_cgt, k_cle, k_cge, k_ceq, bI_0, k_sh8, ne_eq, Nat.add_eq_zero_iff, Nat.one_ne_zero, Nat.succ_ne_zero, and_false, false_and, not_false_eq_true, not_true_eq_false, ite_true, ite_false, if_true, if_false, iV, c1, c2, r1, r2, hiE, g2, h1, h2, eQ, eK, eP]
        · cases hz
          exact (hs.low (show y ≤ y + 1 by omega)).push _
      · rw [if_neg c0]
        rw [if_neg c0] at eK
        have eP := ePu (uI (uI T 1 (nI y)) 2 (nI 5)) y 0 rfl (by omega)
        refine ⟨uI (uL (uI (uI T 1 (nI y)) 2 (nI 5)) 0 y 0) 1 (nI (y + 1)), (1, .int (nI 5)), (1, .int (nI m)), l9, ?_, (((fr.rfl.uI (by decide)).uI (by decide)).uL (by decide)).uI (by decide), fun z hz => (by cases hz), fun q hq => by cases hq; exact ⟨rfl, y + 1, by omega, rfl⟩⟩
        rw [q_84_46]
        simp (disch := omega) only [q_84_0, q_84_1, q_84_2, q_84_5, q_84_6, q_84_7, q_84_10, q_84_11, q_84_14, q_84_15, q_84_16, q_84_17, q_84_20, q_84_21, q_84_22, q_84_25, q_84_26, q_84_29, q_84_32, q_84_34, q_84_35, q_84_38, q_84_39, q_84_40, q_84_41, q_84_44, q_84_48, q_84_50, q_84_53, q_84_54, q_84_57, q_84_60, q_84_61, q_84_64, q_84_66, q_84_67, q_84_69, q_84_70, q_84_73, q_84_75, q_84_76, q_84_78, q_84_80, q_84_81, q_84_84, q_84_85, q_84_87, q_84_89, q_84_91, q_84_94, q_84_97, q_84_100, q_84_102, q_84_103, q_84_106, q_84_107, q_84_108, q_84_109, q_84_112, q_84_114, q_84_116, q_84_119, q_84_122, q_84_125, q_84_127, q_84_129, q_84_132, q_84_133, q_84_134, q_84_135, q_84_136, q_84_139, q_84_142, q_84_145, q_84_148, q_84_149, q_84_152, q_84_154, q_84_155, q_84_156, q_84_158, q_84_159, q_84_162, q_84_164, q_84_167, q_84_170, q_84_173, q_84_176, q_84_177, q_84_178, q_84_181, q_84_184, q_84_185, q_84_188, q_84_191, q_84_192, q_84_195, q_84_196, og_5_1, op_5_1, og_5_2, op_5_2, og_3_3, or_3_3, ow_3_3, og_10_1, og_10_2, og_3_2, or_3_2, ow_3_2, og_5_3, op_5_3, o_is, o_ob, ofs_len3, ofs_len5, ofs_len10, q_84_0, q_84_1, q_84_2, q_84_5, q_84_6, q_84_7, q_84_10, q_84_11, q_84_14, q_84_15, q_84_16, q_84_17, q_84_20, q_84_21, q_84_22, q_84_25, q_84_26, q_84_29, q_84_32, q_84_34, q_84_35, q_84_38, q_84_39, q_84_40, q_84_41, q_84_44, q_84_48, q_84_50, q_84_53, q_84_54, q_84_57, q_84_60, q_84_61, q_84_64, q_84_66, q_84_67, q_84_69, q_84_70, q_84_73, q_84_75, q_84_76, q_84_78, q_84_80, q_84_81, q_84_84, q_84_85, q_84_87, q_84_89, q_84_91, q_84_94, q_84_97, q_84_100, q_84_102, q_84_103, q_84_106, q_84_107, q_84_108, q_84_109, q_84_112, q_84_114, q_84_116, q_84_119, q_84_122, q_84_125, q_84_127, q_84_129, q_84_132, q_84_133, q_84_134, q_84_135, q_84_136, q_84_139, q_84_142, q_84_145, q_84_148, q_84_149, q_84_152, q_84_154, q_84_155, q_84_156, q_84_158, q_84_159, q_84_162, q_84_164, q_84_167, q_84_170, q_84_173, q_84_176, q_84_177, q_84_178, q_84_181, q_84_184, q_84_185, q_84_188, q_84_191, q_84_192, q_84_195, q_84_196, hg_10_1 HR', hg_10_2 HR', h_is HR', h_ob HR', ofs_len10, ↓reduceIte, k_cr, k_ci, k_oR, k_oN, k_aR, k_aN, and_true, true_and, and_self, eq_self, Nat.reduceLT, Nat.reduceLeDiff, Nat.reduceEqDiff, Nat.reduceAdd, Nat.reduceMul, Bool.true_eq_false, Bool.false_eq_true, Nat.add_sub_cancel, Nat.not_lt_zero, Nat.zero_le, k_sub, k_sb1, k_r, k_n, k_ret, k_t1, k_t0, k_nr, k_nn, k_z0, k_z1, k_zb, x_okI, lit_nI, k_in, k_cl, k_lt, k_le, k_eq, k_neg, nI_add, nI_mul, k_clt, k_cgt, k_cle, k_cge, k_ceq, bI_0, k_sh8, ne_eq, Nat.add_eq_zero_iff, Nat.one_ne_zero, Nat.succ_ne_zero, and_false, false_and, not_false_eq_true, not_true_eq_false, ite_true, ite_false, if_true, if_false, iV, c1, c2, r1, r2, hiE, g2, h1, h2, eQ, eK, eP]
    · have ec : cod e a = (nI 4, nI m) := by
        unfold cod
        rw [w, hm]
        rfl
      rw [ec] at h1 h2
      have hc := hv.2.1 m (hEn _ _ hm)
      have eL := c_loaded_c d (oh 5 h R T) V m (vw.2.1 m) SV HV' hm8 hc.1
      rw [nI_l (show vw.2.1 m < 2147483648 by omega)] at eL
      exact pu (lN (vw.2.1 m)) 4 _ (by rw [w]; decide) (by unfold evM; rw [w, if_neg (by decide), if_neg (by decide), hm]; exact if_neg (by decide)) h1 h2 (by omega) eL
def ckF3 (k : Nat) : Bool := decide (k = 0) || decide (k = 1) || decide (k = 2) || decide (k = 3)
theorem fr.mono {P Q : Nat → Bool} {S T : gS} (h : fr P S T) (hPQ : ∀ k, Q k = false → P k = false) : fr Q S T := fun k hk => h k (hPQ k hk)
/-- whether it came to something -/
def evB : Nat ⊕ ((Nat → Int64) × Nat) → Bool
  | .inl _ => false
  | .inr _ => true
def rkR (r : Nat ⊕ ((Nat → Int64) × Nat)) (T : gS) : Prop := sI T 2 = nI (evQ r) ∧ (evB r = true → sJ T 3 = evV r)
/-- the end of reckon -/
theorem k_end (d : Nat) (h : xH) {R n q : Nat} {T : gS} {l1 l2 l4 : Value} {l3 l5 l6 : Int32} {l7 l8 l9 : Nat × Value} (hn : n ≤ 48) (h1 : sI T 1 = nI n) (h2 : sI T 2 = nI q) (hq : q < 8) : ∃ T', xrun (d + 2) 84 176 [(1, .ref R), (1, l1), (1, l2), (1, .int l3), (1, l4), (1, .int l5), (1, .int l6), l7, l8, l9, (0, .null)] [] (oh 5 h R T) = some (some (.int (bI (decide (q = 0)))), oh 5 h R T') ∧ fr ckF3 T T' ∧ sI T' 2 = nI q ∧ (0 < n → sJ T' 3 = sL T 0 (n - 1)) := by
  cases n with
  | zero =>
    have e := c_pop_0 (d + 1) (oh 5 h R T) R T (isB_oh _ _ _ _) h1
    have e : xm (d + 2) 88 [.ref R] (oh 5 h R T) = _ := e
    refine ⟨uJ T 3 0, ?_, fr.rfl.uJ (by decide), h2, fun z => absurd z (Nat.lt_irrefl _)⟩
    by_cases c : q = 0
    · rw [decide_eq_true c, bI_t]
      simp (disch := omega) only [q_84_176, q_84_177, q_84_178, q_84_181, q_84_184, q_84_185, q_84_188, q_84_191, q_84_192, q_84_195, q_84_196, og_5_1, op_5_1, og_5_2, op_5_2, og_3_3, or_3_3, ow_3_3, og_10_1, og_10_2, og_3_2, or_3_2, ow_3_2, og_5_3, op_5_3, o_is, o_ob, ofs_len3, ofs_len5, ofs_len10, ↓reduceIte, k_cr, k_ci, k_oR, k_oN, k_aR, k_aN, and_true, true_and, and_self, eq_self, Nat.reduceLT, Nat.reduceLeDiff, Nat.reduceEqDiff, Nat.reduceAdd, Nat.reduceMul, Bool.true_eq_false, Bool.false_eq_true, Nat.add_sub_cancel, Nat.not_lt_zero, Nat.zero_le, k_sub, k_sb1, k_r, k_n, k_ret, k_t1, k_t0, k_nr, k_nn, k_z0, k_z1, k_zb, x_okI, lit_nI, k_in, k_cl, k_lt, k_le, k_eq, k_neg, nI_add, nI_mul, k_clt, k_cgt, k_cle, k_cge, k_ceq, bI_0, k_sh8, ne_eq, Nat.add_eq_zero_iff, Nat.one_ne_zero, Nat.succ_ne_zero, and_false, false_and, not_false_eq_true, not_true_eq_false, ite_true, ite_false, if_true, if_false, sI_uI, sJ_uI, sA_uI, sL_uI, sR_uI, sQ_uI, sI_uJ, sJ_uJ, sA_uJ, sL_uJ, sR_uJ, sQ_uJ, sI_uA, sJ_uA, sA_uA, sL_uA, sR_uA, sQ_uA, sI_uL, sJ_uL, sA_uL, sL_uL, sR_uL, sQ_uL, sI_uR, sJ_uR, sA_uR, sL_uR, sR_uR, sQ_uR, sI_uQ, sJ_uQ, sA_uQ, sL_uQ, sR_uQ, sQ_uQ, x_okJ, e, h2, c]
    · rw [decide_eq_false c, bI_f]
      simp (disch := omega) only [q_84_176, q_84_177, q_84_178, q_84_181, q_84_184, q_84_185, q_84_188, q_84_191, q_84_192, q_84_195, q_84_196, og_5_1, op_5_1, og_5_2, op_5_2, og_3_3, or_3_3, ow_3_3, og_10_1, og_10_2, og_3_2, or_3_2, ow_3_2, og_5_3, op_5_3, o_is, o_ob, ofs_len3, ofs_len5, ofs_len10, ↓reduceIte, k_cr, k_ci, k_oR, k_oN, k_aR, k_aN, and_true, true_and, and_self, eq_self, Nat.reduceLT, Nat.reduceLeDiff, Nat.reduceEqDiff, Nat.reduceAdd, Nat.reduceMul, Bool.true_eq_false, Bool.false_eq_true, Nat.add_sub_cancel, Nat.not_lt_zero, Nat.zero_le, k_sub, k_sb1, k_r, k_n, k_ret, k_t1, k_t0, k_nr, k_nn, k_z0, k_z1, k_zb, x_okI, lit_nI, k_in, k_cl, k_lt, k_le, k_eq, k_neg, nI_add, nI_mul, k_clt, k_cgt, k_cle, k_cge, k_ceq, bI_0, k_sh8, ne_eq, Nat.add_eq_zero_iff, Nat.one_ne_zero, Nat.succ_ne_zero, and_false, false_and, not_false_eq_true, not_true_eq_false, ite_true, ite_false, if_true, if_false, sI_uI, sJ_uI, sA_uI, sL_uI, sR_uI, sQ_uI, sI_uJ, sJ_uJ, sA_uJ, sL_uJ, sR_uJ, sQ_uJ, sI_uA, sJ_uA, sA_uA, sL_uA, sR_uA, sQ_uA, sI_uL, sJ_uL, sA_uL, sL_uL, sR_uL, sQ_uL, sI_uR, sJ_uR, sA_uR, sL_uR, sR_uR, sQ_uR, sI_uQ, sJ_uQ, sA_uQ, sL_uQ, sR_uQ, sQ_uQ, x_okJ, e, h2, c]
  | succ n =>
    have e := c_pop (d + 1) (oh 5 h R T) R n T (isB_oh _ _ _ _) h1 (by omega)
    rw [oh_oh] at e
    have e : xm (d + 2) 88 [.ref R] (oh 5 h R T) = _ := e
    refine ⟨uJ (uI T 1 (nI n)) 3 (sL T 0 n), ?_, (fr.rfl.uI (by decide)).uJ (by decide), h2, fun _ => rfl⟩
    by_cases c : q = 0
    · rw [decide_eq_true c, bI_t]
      simp (disch := omega) only [q_84_176, q_84_177, q_84_178, q_84_181, q_84_184, q_84_185, q_84_188, q_84_191, q_84_192, q_84_195, q_84_196, og_5_1, op_5_1, og_5_2, op_5_2, og_3_3, or_3_3, ow_3_3, og_10_1, og_10_2, og_3_2, or_3_2, ow_3_2, og_5_3, op_5_3, o_is, o_ob, ofs_len3, ofs_len5, ofs_len10, ↓reduceIte, k_cr, k_ci, k_oR, k_oN, k_aR, k_aN, and_true, true_and, and_self, eq_self, Nat.reduceLT, Nat.reduceLeDiff, Nat.reduceEqDiff, Nat.reduceAdd, Nat.reduceMul, Bool.true_eq_false, Bool.false_eq_true, Nat.add_sub_cancel, Nat.not_lt_zero, Nat.zero_le, k_sub, k_sb1, k_r, k_n, k_ret, k_t1, k_t0, k_nr, k_nn, k_z0, k_z1, k_zb, x_okI, lit_nI, k_in, k_cl, k_lt, k_le, k_eq, k_neg, nI_add, nI_mul, k_clt, k_cgt, k_cle, k_cge, k_ceq, bI_0, k_sh8, ne_eq, Nat.add_eq_zero_iff, Nat.one_ne_zero, Nat.succ_ne_zero, and_false, false_and, not_false_eq_true, not_true_eq_false, ite_true, ite_false, if_true, if_false, sI_uI, sJ_uI, sA_uI, sL_uI, sR_uI, sQ_uI, sI_uJ, sJ_uJ, sA_uJ, sL_uJ, sR_uJ, sQ_uJ, sI_uA, sJ_uA, sA_uA, sL_uA, sR_uA, sQ_uA, sI_uL, sJ_uL, sA_uL, sL_uL, sR_uL, sQ_uL, sI_uR, sJ_uR, sA_uR, sL_uR, sR_uR, sQ_uR, sI_uQ, sJ_uQ, sA_uQ, sL_uQ, sR_uQ, sQ_uQ, x_okJ, e, h2, c]
    · rw [decide_eq_false c, bI_f]
      simp (disch := omega) only [q_84_176, q_84_177, q_84_178, q_84_181, q_84_184, q_84_185, q_84_188, q_84_191, q_84_192, q_84_195, q_84_196, og_5_1, op_5_1, og_5_2, op_5_2, og_3_3, or_3_3, ow_3_3, og_10_1, og_10_2, og_3_2, or_3_2, ow_3_2, og_5_3, op_5_3, o_is, o_ob, ofs_len3, ofs_len5, ofs_len10, ↓reduceIte, k_cr, k_ci, k_oR, k_oN, k_aR, k_aN, and_true, true_and, and_self, eq_self, Nat.reduceLT, Nat.reduceLeDiff, Nat.reduceEqDiff, Nat.reduceAdd, Nat.reduceMul, Bool.true_eq_false, Bool.false_eq_true, Nat.add_sub_cancel, Nat.not_lt_zero, Nat.zero_le, k_sub, k_sb1, k_r, k_n, k_ret, k_t1, k_t0, k_nr, k_nn, k_z0, k_z1, k_zb, x_okI, lit_nI, k_in, k_cl, k_lt, k_le, k_eq, k_neg, nI_add, nI_mul, k_clt, k_cgt, k_cle, k_cge, k_ceq, bI_0, k_sh8, ne_eq, Nat.add_eq_zero_iff, Nat.one_ne_zero, Nat.succ_ne_zero, and_false, false_and, not_false_eq_true, not_true_eq_false, ite_true, ite_false, if_true, if_false, sI_uI, sJ_uI, sA_uI, sL_uI, sR_uI, sQ_uI, sI_uJ, sJ_uJ, sA_uJ, sL_uJ, sR_uJ, sQ_uJ, sI_uA, sJ_uA, sA_uA, sL_uA, sR_uA, sQ_uA, sI_uL, sJ_uL, sA_uL, sL_uL, sR_uL, sQ_uL, sI_uR, sJ_uR, sA_uR, sL_uR, sR_uR, sQ_uR, sI_uQ, sJ_uQ, sA_uQ, sL_uQ, sR_uQ, sQ_uQ, x_okJ, e, h2, c]
theorem k_loop (d : Nat) (h : xH) {R ρ A V C1 C2 N s E nv : Nat} {SR TM SV : gS} {f1 f2 : Nat → Int32} {vw : vW} {e : kE} (hh : rkH h R ρ A V C1 C2 N SR TM SV f1 f2) (hv : ckV nv SV vw) (hn8 : nv ≤ 8) (hEn : ∀ w m, e.1 w = some m → m < nv) (hE : E ≤ N) : ∀ (B : List aT) (i : Nat) (T : gS) (f : Nat → Int64) (k : Nat) (l7 l8 l9 : Nat × Value), i + B.length = E → (∀ q a, B[q]? = some a → f1 (i + q) = (cod e a).1 ∧ f2 (i + q) = (cod e a).2) → (∀ a, a ∈ B → actW e a ∧ actV e vw a) → ckS T f k → k ≤ 48 → hOK 48 B k = some 1 → ∃ T', xrun (d + 2) 84 46 [(1, .ref R), (1, .ref ρ), (1, .ref A), (1, .int (nI s)), (1, .ref V), (1, .int (nI E)), (1, .int (nI i)), l7, l8, l9, (0, .null)] [] (oh 5 h R T) = some (some (.int (bI (evB (evF e vw B f k)))), oh 5 h R T') ∧ fr ckF3 T T' ∧ rkR (evF e vw B f k) T'
  | [], i, T, f, k, l7, l8, l9, hij, hB, hA, hs, hk, hO => by
    have hk1 : k = 1 := Option.some.inj hO
    have hij : i = E := hij
    subst hk1
    have hN := hh.2.2.2.2.2.2.2.1
    have g0 := hs.2.2 0 (by omega)
    obtain ⟨T', e1, f1, g1, g2⟩ := k_end d h (R := R) (T := T) (l1 := .ref ρ) (l2 := .ref A) (l3 := nI s) (l4 := .ref V) (l5 := nI E) (l6 := nI i) (l7 := l7) (l8 := l8) (l9 := l9) (n := 1) (q := 0) (by omega) hs.1 hs.2.1 (by omega)
    refine ⟨T', ?_, f1, g1, fun _ => (g2 (by omega)).trans g0⟩
    have hle : E ≤ i := by omega
    show _ = some (some (Value.int (bI true)), oh 5 h R T')
    rw [decide_eq_true rfl] at e1
    rw [← e1, q_84_46]
    simp (disch := omega) only [q_84_48, q_84_50, ↓reduceIte, k_cr, k_ci, k_oR, k_oN, k_aR, k_aN, and_true, true_and, and_self, eq_self, Nat.reduceLT, Nat.reduceLeDiff, Nat.reduceEqDiff, Nat.reduceAdd, Nat.reduceMul, Bool.true_eq_false, Bool.false_eq_true, Nat.add_sub_cancel, Nat.not_lt_zero, Nat.zero_le, k_sub, k_sb1, k_r, k_n, k_ret, k_t1, k_t0, k_nr, k_nn, k_z0, k_z1, k_zb, x_okI, lit_nI, k_in, k_cl, k_lt, k_le, k_eq, k_neg, nI_add, nI_mul, k_clt, k_cgt, k_cle, k_cge, k_ceq, bI_0, k_sh8, ne_eq, Nat.add_eq_zero_iff, Nat.one_ne_zero, Nat.succ_ne_zero, and_false, false_and, not_false_eq_true, not_true_eq_false, ite_true, ite_false, if_true, if_false, hle]
  | a :: B, i, T, f, k, l7, l8, l9, hij, hB, hA, hs, hk, hO => by
    have hij : i + (B.length + 1) = E := hij
    have hN := hh.2.2.2.2.2.2.2.1
    have h0 := hB 0 a rfl
    rw [Nat.add_zero] at h0
    obtain ⟨T1, m7, m8, m9, er, f1', z1, z2⟩ := k_step d h (s := s) (l7 := l7) (l8 := l8) (l9 := l9) hh hv hn8 hEn hE (show i < E by omega) h0.1 h0.2 (hA a List.mem_cons_self).1 (hA a List.mem_cons_self).2 hs hk hO
    have f13 : fr ckF3 T T1 := f1'.mono (fun k hk => by
      unfold ckF3 at hk
      unfold ckF
      simp only [Bool.or_eq_false_iff] at hk ⊢
      exact hk.1)
    rw [er]
    cases hq : evA e vw a f k with
    | inl q =>
      have ev : evF e vw (a :: B) f k = .inl q := by
        show (match evA e vw a f k with
          | .inl k => Sum.inl k
          | .inr z => evF e vw B z.1 z.2) = _
        rw [hq]
      rw [ev]
      obtain ⟨g2, n, hn, g1⟩ := z2 q hq
      have hq0 := evA_ne hq
      have hqn : ¬ q = 0 := by omega
      obtain ⟨T', e1, f2, g3, _⟩ := k_end d h (R := R) (T := T1) (l1 := .ref ρ) (l2 := .ref A) (l3 := nI s) (l4 := .ref V) (l5 := nI E) (l6 := nI (i + 1)) (l7 := m7) (l8 := m8) (l9 := m9) hn g1 g2 (by omega)
      refine ⟨T', ?_, f13.trans f2, g3, fun z => by cases z⟩
      show _ = some (some (Value.int (bI false)), oh 5 h R T')
      rw [decide_eq_false hqn] at e1
      rw [← e1, q_84_46]
      by_cases hle : E ≤ i + 1
      · simp (disch := omega) only [q_84_48, q_84_50, ↓reduceIte, k_cr, k_ci, k_oR, k_oN, k_aR, k_aN, and_true, true_and, and_self, eq_self, Nat.reduceLT, Nat.reduceLeDiff, Nat.reduceEqDiff, Nat.reduceAdd, Nat.reduceMul, Bool.true_eq_false, Bool.false_eq_true, Nat.add_sub_cancel, Nat.not_lt_zero, Nat.zero_le, k_sub, k_sb1, k_r, k_n, k_ret, k_t1, k_t0, k_nr, k_nn, k_z0, k_z1, k_zb, x_okI, lit_nI, k_in, k_cl, k_lt, k_le, k_eq, k_neg, nI_add, nI_mul, k_clt, k_cgt, k_cle, k_cge, k_ceq, bI_0, k_sh8, ne_eq, Nat.add_eq_zero_iff, Nat.one_ne_zero, Nat.succ_ne_zero, and_false, false_and, not_false_eq_true, not_true_eq_false, ite_true, ite_false, if_true, if_false, hle]
      · simp (disch := omega) only [q_84_48, q_84_50, q_84_53, q_84_54, q_84_57, og_5_2, ↓reduceIte, k_cr, k_ci, k_oR, k_oN, k_aR, k_aN, and_true, true_and, and_self, eq_self, Nat.reduceLT, Nat.reduceLeDiff, Nat.reduceEqDiff, Nat.reduceAdd, Nat.reduceMul, Bool.true_eq_false, Bool.false_eq_true, Nat.add_sub_cancel, Nat.not_lt_zero, Nat.zero_le, k_sub, k_sb1, k_r, k_n, k_ret, k_t1, k_t0, k_nr, k_nn, k_z0, k_z1, k_zb, x_okI, lit_nI, k_in, k_cl, k_lt, k_le, k_eq, k_neg, nI_add, nI_mul, k_clt, k_cgt, k_cle, k_cge, k_ceq, bI_0, k_sh8, ne_eq, Nat.add_eq_zero_iff, Nat.one_ne_zero, Nat.succ_ne_zero, and_false, false_and, not_false_eq_true, not_true_eq_false, ite_true, ite_false, if_true, if_false, hle, g2, hqn]
    | inr z =>
      have ev : evF e vw (a :: B) f k = evF e vw B z.1 z.2 := by
        show (match evA e vw a f k with
          | .inl k => Sum.inl k
          | .inr z => evF e vw B z.1 z.2) = _
        rw [hq]
      rw [ev]
      obtain ⟨T', e2, f2, g2⟩ := k_loop d h hh hv hn8 hEn hE B (i + 1) T1 z.1 z.2 m7 m8 m9 (by omega) (fun q a2 hq2 => by
        have := hB (q + 1) a2 hq2
        rw [show i + 1 + q = i + (q + 1) by omega]
        exact this) (fun a2 ha2 => hA a2 (List.mem_cons_of_mem _ ha2)) (z1 z hq) (evA_m hq hk hO) (evA_n hq hO)
      exact ⟨T', e2, f13.trans f2, g2⟩
theorem c_reckon (d : Nat) (h : xH) {R ρ A V C1 C2 N s i nv : Nat} {SR TM SV T : gS} {f1 f2 : Nat → Int32} {vw : vW} {e : kE} {B : List aT} (hh : rkH h R ρ A V C1 C2 N SR TM SV f1 f2) (hv : ckV nv SV vw) (hn8 : nv ≤ 8) (hEn : ∀ w m, e.1 w = some m → m < nv) (hs9 : s < 9) (hst : sA TM 2 s = nI i) (hen : sA TM 3 s = nI (i + B.length)) (hE : i + B.length ≤ N) (hB : ∀ q a, B[q]? = some a → f1 (i + q) = (cod e a).1 ∧ f2 (i + q) = (cod e a).2) (hA : ∀ a, a ∈ B → actW e a ∧ actV e vw a) (hO : hOK 48 B 0 = some 1) : ∃ T', xm (d + 3) 84 [.ref R, .ref ρ, .ref A, .int (nI s), .ref V] (oh 5 h R T) = some (some (.int (bI (evB (evF e vw B (fun _ => 0) 0)))), oh 5 h R T') ∧ fr ckF3 T T' ∧ rkR (evF e vw B (fun _ => 0) 0) T' := by
  have hh2 := hh
  obtain ⟨HR, HM, HV, r1, r2, a1, a2, hN, d10, d3, d9, o1, o2⟩ := hh
  obtain ⟨T', e1, f1', g1⟩ := k_loop d h (s := s) hh2 hv hn8 hEn hE B i (uI (uI T 1 (nI 0)) 2 (nI 0)) (fun _ => 0) 0 (0, .null) (0, .null) (0, .null) rfl hB hA ⟨rfl, rfl, fun q hq => absurd hq (Nat.not_lt_zero _)⟩ (Nat.zero_le _) hO
  have f0 : fr ckF3 T (uI (uI T 1 (nI 0)) 2 (nI 0)) := (fr.rfl.uI (by decide)).uI (by decide)
  refine ⟨T', ?_, f0.trans f1', g1⟩
  have HR' : isB 10 (oh 5 h R (uI (uI T 1 (nI 0)) 2 (nI 0))) ρ SR := HR.frame d10
  have HM' : isB 3 (oh 5 h R (uI (uI T 1 (nI 0)) 2 (nI 0))) A TM := HM.frame d3
  have l1 : ∀ F : Nat → Nat → (Nat → Value) → Option xR, xar (oh 5 h R (uI (uI T 1 (nI 0)) 2 (nI 0))) C1 F = F 0 N (fun q => .int (f1 q)) := fun F => (a1.frame o1).ar F
  have l2 : ∀ F : Nat → Nat → (Nat → Value) → Option xR, xar (oh 5 h R (uI (uI T 1 (nI 0)) 2 (nI 0))) C2 F = F 0 N (fun q => .int (f2 q)) := fun F => (a2.frame o2).ar F
  rw [← e1, E_84 _ _ _ _ _ _ _ rfl rfl rfl rfl]
  have n1 : ¬ N < i + B.length := by omega
  simp (disch := omega) only [q_84_0, q_84_1, q_84_2, q_84_5, q_84_6, q_84_7, q_84_10, q_84_11, q_84_14, q_84_15, q_84_16, q_84_17, q_84_20, q_84_21, q_84_22, q_84_25, q_84_26, q_84_29, q_84_32, q_84_34, q_84_35, q_84_38, q_84_39, q_84_40, q_84_41, q_84_44, q_84_48, q_84_50, q_84_53, q_84_54, q_84_57, q_84_60, q_84_61, q_84_64, q_84_66, q_84_67, q_84_69, q_84_70, q_84_73, q_84_75, q_84_76, q_84_78, q_84_80, q_84_81, q_84_84, q_84_85, q_84_87, q_84_89, q_84_91, q_84_94, q_84_97, q_84_100, q_84_102, q_84_103, q_84_106, q_84_107, q_84_108, q_84_109, q_84_112, q_84_114, q_84_116, q_84_119, q_84_122, q_84_125, q_84_127, q_84_129, q_84_132, q_84_133, q_84_134, q_84_135, q_84_136, q_84_139, q_84_142, q_84_145, q_84_148, q_84_149, q_84_152, q_84_154, q_84_155, q_84_156, q_84_158, q_84_159, q_84_162, q_84_164, q_84_167, q_84_170, q_84_173, q_84_176, q_84_177, q_84_178, q_84_181, q_84_184, q_84_185, q_84_188, q_84_191, q_84_192, q_84_195, q_84_196, og_5_1, op_5_1, og_5_2, op_5_2, og_3_3, or_3_3, ow_3_3, og_10_1, og_10_2, og_3_2, or_3_2, ow_3_2, og_5_3, op_5_3, o_is, o_ob, ofs_len3, ofs_len5, ofs_len10, q_84_0, q_84_1, q_84_2, q_84_5, q_84_6, q_84_7, q_84_10, q_84_11, q_84_14, q_84_15, q_84_16, q_84_17, q_84_20, q_84_21, q_84_22, q_84_25, q_84_26, q_84_29, q_84_32, q_84_34, q_84_35, q_84_38, q_84_39, q_84_40, q_84_41, q_84_44, q_84_48, q_84_50, q_84_53, q_84_54, q_84_57, q_84_60, q_84_61, q_84_64, q_84_66, q_84_67, q_84_69, q_84_70, q_84_73, q_84_75, q_84_76, q_84_78, q_84_80, q_84_81, q_84_84, q_84_85, q_84_87, q_84_89, q_84_91, q_84_94, q_84_97, q_84_100, q_84_102, q_84_103, q_84_106, q_84_107, q_84_108, q_84_109, q_84_112, q_84_114, q_84_116, q_84_119, q_84_122, q_84_125, q_84_127, q_84_129, q_84_132, q_84_133, q_84_134, q_84_135, q_84_136, q_84_139, q_84_142, q_84_145, q_84_148, q_84_149, q_84_152, q_84_154, q_84_155, q_84_156, q_84_158, q_84_159, q_84_162, q_84_164, q_84_167, q_84_170, q_84_173, q_84_176, q_84_177, q_84_178, q_84_181, q_84_184, q_84_185, q_84_188, q_84_191, q_84_192, q_84_195, q_84_196, hg_10_1 HR', hg_10_2 HR', h_is HR', h_ob HR', ofs_len10, hg_3_3 HM', hr_3_3 HM', hw_3_3 HM', hg_3_2 HM', hr_3_2 HM', hw_3_2 HM', h_is HM', h_ob HM', ofs_len3, ↓reduceIte, k_cr, k_ci, k_oR, k_oN, k_aR, k_aN, and_true, true_and, and_self, eq_self, Nat.reduceLT, Nat.reduceLeDiff, Nat.reduceEqDiff, Nat.reduceAdd, Nat.reduceMul, Bool.true_eq_false, Bool.false_eq_true, Nat.add_sub_cancel, Nat.not_lt_zero, Nat.zero_le, k_sub, k_sb1, k_r, k_n, k_ret, k_t1, k_t0, k_nr, k_nn, k_z0, k_z1, k_zb, x_okI, lit_nI, k_in, k_cl, k_lt, k_le, k_eq, k_neg, nI_add, nI_mul, k_clt, k_cgt, k_cle, k_cge, k_ceq, bI_0, k_sh8, ne_eq, Nat.add_eq_zero_iff, Nat.one_ne_zero, Nat.succ_ne_zero, and_false, false_and, not_false_eq_true, not_true_eq_false, ite_true, ite_false, if_true, if_false, r1, r2, l1, l2, xan0, of_nI, hst, hen, Nat.lt_irrefl, n1]
