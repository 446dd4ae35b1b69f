/-! The reference: judge. -/
abbrev kE : Type := (Int64 → Option Nat) × (Nat → Bool) × (Nat → Bool)
def actB (e : kE) (a : aT) : List Nat :=
  if a.1 = nI 3 ∨ a.1 = nI 4 ∨ a.1 = nI 5 then (match e.1 a.2.1 with
    | none => [a.2.2]
    | some m => if (if a.1 = nI 5 then e.2.1 m else (!e.2.2 m && (if a.1 = nI 4 then e.2.1 m else !e.2.1 m))) = true then [] else [a.2.2])
  else []
def tw (prev : List rT) (r : rT) : Bool := prev.any (fun x => decide (x.1 = r.1) && decide (x.2.1 = r.2.1))
def ruM1 (eo en : kE) (r : rT) : Option Nat := if r.1 = 1 then en.1 r.2.1 else if r.1 = 2 then eo.1 r.2.1 else some 0
def hdV : List aT → Int64
  | a :: _ => a.2.1
  | [] => 0
def hdA : List aT → Nat
  | a :: _ => a.2.2
  | [] => 0
def beB (eo en : kE) (r : rT) : List Nat :=
  if r.1 = 1 then (match en.1 r.2.1 with
    | none => []
    | some m => if r.2.2.2.2.1 = true then (match eo.1 (hdV r.2.2.2.2.2) with
        | none => [r.2.2.2.1]
        | some q => if en.2.1 m = eo.2.1 q then [] else [r.2.2.2.1])
      else (if en.2.1 m = true then [r.2.2.2.1] else []))
  else []
def laB (eo : kE) (r : rT) : List Nat :=
  if r.2.2.2.2.1 = true then (match eo.1 (hdV r.2.2.2.2.2) with
    | none => [hdA r.2.2.2.2.2]
    | some _ => [])
  else r.2.2.2.2.2.flatMap (actB eo)
def atB (eo en : kE) (prev : List rT) (r : rT) : List Nat := if ruM1 eo en r = none ∨ tw prev r = true then [r.2.2.1] else []
def ruB (eo en : kE) (prev : List rT) (r : rT) : List Nat := atB eo en prev r ++ (if r.1 = 2 then [] else beB eo en r ++ laB eo r)
def rusB (eo en : kE) : List rT → List rT → List Nat
  | _, [] => []
  | prev, r :: R => ruB eo en prev r ++ rusB eo en (prev ++ [r]) R
def moB (fo ft : Int64 → Option Nat) (eo en : Nat → kE) (prev : List mT) (m : mT) : List Nat :=
  (if fo m.2.1 = none ∨ prev.any (fun x => decide (x.2.1 = m.2.1)) = true then [m.2.2.1] else []) ++
  (if m.1 = true then [] else (if ft m.2.2.2.1 = none then [m.2.2.2.2.1] else []) ++ (match fo m.2.1 with
    | none => []
    | some c => (match ft m.2.2.2.1 with
      | none => []
      | some e => rusB (eo c) (en e) [] m.2.2.2.2.2)))
def mosB (fo ft : Int64 → Option Nat) (eo en : Nat → kE) : List mT → List mT → List Nat
  | _, [] => []
  | prev, m :: L => moB fo ft eo en prev m ++ mosB fo ft eo en (prev ++ [m]) L
def mnF (L : List Nat) (z : Nat) : Nat := L.foldl min z
theorem mnF_app (X Y : List Nat) (z : Nat) : mnF (X ++ Y) z = mnF Y (mnF X z) := List.foldl_append
theorem mnF_le : ∀ (L : List Nat) (z : Nat), mnF L z ≤ z
  | [], z => Nat.le_refl _
  | a :: L, z => Nat.le_trans (mnF_le L (min z a)) (Nat.min_le_left _ _)
def bdI (z : Nat) : Int32 := if z = 701 then -nI 1 else nI z
def jS (S : gS) (z : Nat) : gS := uI S 58 (bdI z)
theorem m_bad (d : Nat) (h : xH) (M : Nat) (S : gS) (z a : Nat) (hz : z ≤ 701) (ha : a ≤ 700) : xm (d + 1) 166 [.ref M, .int (nI a)] (oh 11 h M (jS S z)) = some (none, oh 11 h M (jS S (min z a))) := by
  rw [E_166 _ _ _ _ rfl]
  unfold jS bdI
  by_cases h1 : z = 701
  · subst h1
    rw [if_pos rfl, show min 701 a = a by omega, if_neg (show ¬ a = 701 by omega)]
    simp (disch := omega) only [q_166_0, q_166_1, q_166_4, q_166_5, q_166_8, q_166_9, q_166_10, q_166_13, q_166_16, q_166_17, q_166_18, q_166_21, og_11_58, op_11_58, o_is, o_ob, ofs_len11, ↓reduceIte, k_cr, k_ci, k_oR, k_oN, k_aR, k_aN, and_true, true_and, and_self, eq_self, Nat.reduceLT, Nat.reduceLeDiff, Nat.reduceEqDiff, Nat.reduceAdd, Nat.reduceMul, Bool.true_eq_false, Bool.false_eq_true, Nat.add_sub_cancel, Nat.not_lt_zero, Nat.zero_le, k_sub, k_sb1, k_r, k_n, k_ret, k_t1, k_t0, k_nr, k_nn, k_z0, k_z1, k_zb, x_okI, lit_nI, k_in, k_cl, k_lt, k_le, k_eq, k_neg, nI_add, nI_mul, k_clt, k_cgt, k_cle, k_cge, k_ceq, bI_0, k_sh8, ne_eq, Nat.add_eq_zero_iff, Nat.one_ne_zero, Nat.succ_ne_zero, and_false, false_and, not_false_eq_true, not_true_eq_false, ite_true, ite_false, if_true, if_false, sI_uI, sJ_uI, sA_uI, sL_uI, sR_uI, sQ_uI, sI_uJ, sJ_uJ, sA_uJ, sL_uJ, sR_uJ, sQ_uJ, sI_uA, sJ_uA, sA_uA, sL_uA, sR_uA, sQ_uA, sI_uL, sJ_uL, sA_uL, sL_uL, sR_uL, sQ_uL, sI_uR, sJ_uR, sA_uR, sL_uR, sR_uR, sQ_uR, sI_uQ, sJ_uQ, sA_uQ, sL_uQ, sR_uQ, sQ_uQ, uI_uI]
  · rw [if_neg h1]
    by_cases h2 : a < z
    · have h3 : ¬ z ≤ a := by omega
      rw [show min z a = a by omega, if_neg (show ¬ a = 701 by omega)]
      simp (disch := omega) only [q_166_0, q_166_1, q_166_4, q_166_5, q_166_8, q_166_9, q_166_10, q_166_13, q_166_16, q_166_17, q_166_18, q_166_21, og_11_58, op_11_58, o_is, o_ob, ofs_len11, ↓reduceIte, k_cr, k_ci, k_oR, k_oN, k_aR, k_aN, and_true, true_and, and_self, eq_self, Nat.reduceLT, Nat.reduceLeDiff, Nat.reduceEqDiff, Nat.reduceAdd, Nat.reduceMul, Bool.true_eq_false, Bool.false_eq_true, Nat.add_sub_cancel, Nat.not_lt_zero, Nat.zero_le, k_sub, k_sb1, k_r, k_n, k_ret, k_t1, k_t0, k_nr, k_nn, k_z0, k_z1, k_zb, x_okI, lit_nI, k_in, k_cl, k_lt, k_le, k_eq, k_neg, nI_add, nI_mul, k_clt, k_cgt, k_cle, k_cge, k_ceq, bI_0, k_sh8, ne_eq, Nat.add_eq_zero_iff, Nat.one_ne_zero, Nat.succ_ne_zero, and_false, false_and, not_false_eq_true, not_true_eq_false, ite_true, ite_false, if_true, if_false, sI_uI, sJ_uI, sA_uI, sL_uI, sR_uI, sQ_uI, sI_uJ, sJ_uJ, sA_uJ, sL_uJ, sR_uJ, sQ_uJ, sI_uA, sJ_uA, sA_uA, sL_uA, sR_uA, sQ_uA, sI_uL, sJ_uL, sA_uL, sL_uL, sR_uL, sQ_uL, sI_uR, sJ_uR, sA_uR, sL_uR, sR_uR, sQ_uR, sI_uQ, sJ_uQ, sA_uQ, sL_uQ, sR_uQ, sQ_uQ, uI_uI, h2, h3]
    · have h3 : z ≤ a := by omega
      rw [show min z a = z by omega, if_neg h1]
      simp (disch := omega) only [q_166_0, q_166_1, q_166_4, q_166_5, q_166_8, q_166_9, q_166_10, q_166_13, q_166_16, q_166_17, q_166_18, q_166_21, og_11_58, op_11_58, o_is, o_ob, ofs_len11, ↓reduceIte, k_cr, k_ci, k_oR, k_oN, k_aR, k_aN, and_true, true_and, and_self, eq_self, Nat.reduceLT, Nat.reduceLeDiff, Nat.reduceEqDiff, Nat.reduceAdd, Nat.reduceMul, Bool.true_eq_false, Bool.false_eq_true, Nat.add_sub_cancel, Nat.not_lt_zero, Nat.zero_le, k_sub, k_sb1, k_r, k_n, k_ret, k_t1, k_t0, k_nr, k_nn, k_z0, k_z1, k_zb, x_okI, lit_nI, k_in, k_cl, k_lt, k_le, k_eq, k_neg, nI_add, nI_mul, k_clt, k_cgt, k_cle, k_cge, k_ceq, bI_0, k_sh8, ne_eq, Nat.add_eq_zero_iff, Nat.one_ne_zero, Nat.succ_ne_zero, and_false, false_and, not_false_eq_true, not_true_eq_false, ite_true, ite_false, if_true, if_false, sI_uI, sJ_uI, sA_uI, sL_uI, sR_uI, sQ_uI, sI_uJ, sJ_uJ, sA_uJ, sL_uJ, sR_uJ, sQ_uJ, sI_uA, sJ_uA, sA_uA, sL_uA, sR_uA, sQ_uA, sI_uL, sJ_uL, sA_uL, sL_uL, sR_uL, sQ_uL, sI_uR, sJ_uR, sA_uR, sL_uR, sR_uR, sQ_uR, sI_uQ, sJ_uQ, sA_uQ, sL_uQ, sR_uQ, sQ_uQ, h2, h3]
def eK (S : gS) (mN : Nat → Nat) (b c : Nat) : kE := (fun w => fnd (fun i => sL S 3 (8 * (6 * b + c) + i)) w (mN (6 * b + c)), fun m => rw_ S (8 * (6 * b + c) + m), fun m => decide (¬ sA S 4 (8 * (6 * b + c) + m) ≤ nI 5))
def fC (S : gS) (cN : Nat → Nat) (b : Nat) : Int64 → Option Nat := fun w => fnd (fun c => sL S 1 (6 * b + c)) w (cN b)
def refK (S : gS) (cN mN : Nat → Nat) : Prop := bdOK S cN mN ∧ ∀ i, i < 384 → sA S 5 i = bI (rw_ S i)
theorem j_find {d : Nat} {h : xH} {M : Nat} {S : gS} {cN mN : Nat → Nat} {b c z : Nat} (w : Int64) (hR : refK S cN mN) (hb : b < 8) (hc : c < 6) : xm (d + 1) 133 [.ref M, .int (nI b), .int (nI c), .long w] (oh 11 h M (jS S z)) = some (some (.int (oI ((eK S mN b c).1 w))), oh 11 h M (jS S z)) :=
  m_findMember d h M (jS S z) b c _ w hb hc (hR.1.2 b c hb hc).1 (hR.1.2 b c hb hc).2
theorem eK_lt {S : gS} {cN mN : Nat → Nat} {b c m : Nat} {w : Int64} (hR : refK S cN mN) (hb : b < 8) (hc : c < 6) (hm : (eK S mN b c).1 w = some m) : m < 8 := by
  have h1 := (fnd_lt (f := fun i => sL S 3 (8 * (6 * b + c) + i)) hm).1
  have h2 := (hR.1.2 b c hb hc).2
  omega
theorem j_row {d : Nat} {h : xH} {M : Nat} {S : gS} {cN mN : Nat → Nat} {b c m z : Nat} (hR : refK S cN mN) (hb : b < 8) (hc : c < 6) (hm : m < 8) : xm (d + 1) 141 [.ref M, .int (nI b), .int (nI c), .int (nI m)] (oh 11 h M (jS S z)) = some (some (.int (bI ((eK S mN b c).2.1 m))), oh 11 h M (jS S z)) :=
  m_rowOf d h M (jS S z) b c m hb hc hm _ (hR.2 (8 * (6 * b + c) + m) (by omega))
theorem actB_3 (e : kE) (v : Int64) (q : Nat) : actB e (nI 3, v, q) = (match e.1 v with
    | none => [q]
    | some m => if (!e.2.2 m && !e.2.1 m) = true then [] else [q]) := by
  unfold actB
  rw [if_pos (Or.inl rfl)]
  rfl
theorem actB_4 (e : kE) (v : Int64) (q : Nat) : actB e (nI 4, v, q) = (match e.1 v with
    | none => [q]
    | some m => if (!e.2.2 m && e.2.1 m) = true then [] else [q]) := by
  unfold actB
  rw [if_pos (Or.inr (Or.inl rfl))]
  rfl
theorem actB_5 (e : kE) (v : Int64) (q : Nat) : actB e (nI 5, v, q) = (match e.1 v with
    | none => [q]
    | some m => if e.2.1 m = true then [] else [q]) := by
  unfold actB
  rw [if_pos (Or.inr (Or.inr rfl))]
  rfl
theorem actB_o (e : kE) (k : Nat) (v : Int64) (q : Nat) (hk : k ≤ 13) (h : k < 3 ∨ 5 < k) : actB e (nI k, v, q) = [] := by
  unfold actB
  rw [if_neg]
  show ¬ (nI k = nI 3 ∨ nI k = nI 4 ∨ nI k = nI 5)
  rw [k_eq (by omega) (by omega), k_eq (by omega) (by omega), k_eq (by omega) (by omega)]
  omega
def aOK (x : aT) : Prop := x.2.2 ≤ 700 ∧ ∃ k, k ≤ 13 ∧ x.1 = nI k
theorem m_judgeAct (d : Nat) (h : xH) (M : Nat) {S : gS} {cN mN : Nat → Nat} {b c j z : Nat} {a : aT} (hR : refK S cN mN) (hb : b < 8) (hc : c < 6) (hj : j < 1400) (h50 : sA S 50 j = a.1) (h51 : sL S 51 j = a.2.1) (h52 : sA S 52 j = nI a.2.2) (ha : aOK a) (hz : z ≤ 701) : xm (d + 2) 168 [.ref M, .int (nI b), .int (nI c), .int (nI j)] (oh 11 h M (jS S z)) = some (none, oh 11 h M (jS S (mnF (actB (eK S mN b c) a) z))) := by
  obtain ⟨w, v, q⟩ := a
  obtain ⟨hq, k, hk, e⟩ := ha
  have e : w = nI k := e
  subst e
  have hq : q ≤ 700 := hq
  have g50 : sA (jS S z) 50 j = nI k := h50
  have g51 : sL (jS S z) 51 j = v := h51
  have g52 : sA (jS S z) 52 j = nI q := h52
  have eB := m_bad d h M S z q hz hq
  have eF := j_find (d := d) (h := h) (M := M) (z := z) v hR hb hc
  rw [E_168 _ _ _ _ _ _ rfl]
  have hk5 : k = 3 ∨ k = 4 ∨ k = 5 ∨ (k < 3 ∨ 5 < k) := by omega
  have fin : ∀ m, (eK S mN b c).1 v = some m → m < 8 ∧ (∀ d, xm (d + 1) 141 [.ref M, .int (nI b), .int (nI c), .int (nI m)] (oh 11 h M (jS S z)) = some (some (.int (bI ((eK S mN b c).2.1 m))), oh 11 h M (jS S z))) ∧ ∀ d, xm (d + 1) 142 [.ref M, .int (nI b), .int (nI c), .int (nI m)] (oh 11 h M (jS S z)) = some (some (.int (sA S 4 (8 * (6 * b + c) + m))), oh 11 h M (jS S z)) := fun m hm =>
    ⟨eK_lt hR hb hc hm, fun d => j_row hR hb hc (eK_lt hR hb hc hm), fun d => m_typeOf d h M (jS S z) b c m hb hc (eK_lt hR hb hc hm)⟩
  rcases hk5 with e | e | e | hk5
  · subst e
    rw [actB_3]
    cases hm : (eK S mN b c).1 v with
    | none =>
      rw [hm] at eF
      simp (disch := omega) only [q_168_0, q_168_1, q_168_4, q_168_5, q_168_6, q_168_7, q_168_10, q_168_11, q_168_14, q_168_15, q_168_16, q_168_17, q_168_20, q_168_21, q_168_22, q_168_23, q_168_24, q_168_25, q_168_28, q_168_29, q_168_30, q_168_33, q_168_35, q_168_37, q_168_38, q_168_41, q_168_42, q_168_43, q_168_46, q_168_47, q_168_48, q_168_51, q_168_52, q_168_53, q_168_54, q_168_55, q_168_57, q_168_60, q_168_62, q_168_63, q_168_64, q_168_65, q_168_67, q_168_70, q_168_71, q_168_74, q_168_75, q_168_78, q_168_79, q_168_81, q_168_82, q_168_85, q_168_86, q_168_87, q_168_88, q_168_91, q_168_93, q_168_96, q_168_98, q_168_101, q_168_103, q_168_104, q_168_107, q_168_108, q_168_109, q_168_110, q_168_113, q_168_114, q_168_117, q_168_118, q_168_121, q_168_122, q_168_125, q_168_126, q_168_128, q_168_130, q_168_133, q_168_134, q_168_135, q_168_138, q_168_139, q_168_140, q_168_143, og_11_50, or_11_50, ow_11_50, og_11_51, or_11_51, ow_11_51, og_11_52, or_11_52, ow_11_52, o_is, o_ob, ofs_len11, ↓reduceIte, k_cr, k_ci, k_oR, k_oN, k_aR, k_aN, and_true, true_and, and_self, eq_self, Nat.reduceLT, Nat.reduceLeDiff, Nat.reduceEqDiff, Nat.reduceAdd, Nat.reduceMul, Bool.true_eq_false, Bool.false_eq_true, Nat.add_sub_cancel, Nat.not_lt_zero, Nat.zero_le, k_sub, k_sb1, k_r, k_n, k_ret, k_t1, k_t0, k_nr, k_nn, k_z0, k_z1, k_zb, x_okI, lit_nI, k_in, k_cl, k_lt, k_le, k_eq, k_neg, nI_add, nI_mul, k_clt, k_cgt, k_cle, k_cge, k_ceq, bI_0, k_sh8, ne_eq, Nat.add_eq_zero_iff, Nat.one_ne_zero, Nat.succ_ne_zero, and_false, false_and, not_false_eq_true, not_true_eq_false, ite_true, ite_false, if_true, if_false, oI, g50, g51, g52, eF, eB, mnF, List.foldl_cons, List.foldl_nil]
    | some m =>
      obtain ⟨f1, f2, f3⟩ := fin m hm
      rw [hm] at eF
      show _ = some (none, oh 11 h M (jS S (mnF (if (!(eK S mN b c).2.2 m && !(eK S mN b c).2.1 m) = true then [] else [q]) z)))
      have hx : (eK S mN b c).2.2 m = decide (¬ sA S 4 (8 * (6 * b + c) + m) ≤ nI 5) := rfl
      rw [hx]
      generalize (eK S mN b c).2.1 m = ro at *
      by_cases ht : sA S 4 (8 * (6 * b + c) + m) ≤ nI 5
      · cases ro <;> simp (disch := omega) only [q_168_0, q_168_1, q_168_4, q_168_5, q_168_6, q_168_7, q_168_10, q_168_11, q_168_14, q_168_15, q_168_16, q_168_17, q_168_20, q_168_21, q_168_22, q_168_23, q_168_24, q_168_25, q_168_28, q_168_29, q_168_30, q_168_33, q_168_35, q_168_37, q_168_38, q_168_41, q_168_42, q_168_43, q_168_46, q_168_47, q_168_48, q_168_51, q_168_52, q_168_53, q_168_54, q_168_55, q_168_57, q_168_60, q_168_62, q_168_63, q_168_64, q_168_65, q_168_67, q_168_70, q_168_71, q_168_74, q_168_75, q_168_78, q_168_79, q_168_81, q_168_82, q_168_85, q_168_86, q_168_87, q_168_88, q_168_91, q_168_93, q_168_96, q_168_98, q_168_101, q_168_103, q_168_104, q_168_107, q_168_108, q_168_109, q_168_110, q_168_113, q_168_114, q_168_117, q_168_118, q_168_121, q_168_122, q_168_125, q_168_126, q_168_128, q_168_130, q_168_133, q_168_134, q_168_135, q_168_138, q_168_139, q_168_140, q_168_143, og_11_50, or_11_50, ow_11_50, og_11_51, or_11_51, ow_11_51, og_11_52, or_11_52, ow_11_52, o_is, o_ob, ofs_len11, ↓reduceIte, k_cr, k_ci, k_oR, k_oN, k_aR, k_aN, and_true, true_and, and_self, eq_self, Nat.reduceLT, Nat.reduceLeDiff, Nat.reduceEqDiff, Nat.reduceAdd, Nat.reduceMul, Bool.true_eq_false, Bool.false_eq_true, Nat.add_sub_cancel, Nat.not_lt_zero, Nat.zero_le, k_sub, k_sb1, k_r, k_n, k_ret, k_t1, k_t0, k_nr, k_nn, k_z0, k_z1, k_zb, x_okI, lit_nI, k_in, k_cl, k_lt, k_le, k_eq, k_neg, nI_add, nI_mul, k_clt, k_cgt, k_cle, k_cge, k_ceq, bI_0, k_sh8, ne_eq, Nat.add_eq_zero_iff, Nat.one_ne_zero, Nat.succ_ne_zero, and_false, false_and, not_false_eq_true, not_true_eq_false, ite_true, ite_false, if_true, if_false, oI, bI_f, bI_t, g50, g51, g52, eF, eB, f2, f3, ht, decide_true, decide_false, Bool.not_false, Bool.not_true, Bool.and_true, Bool.and_false, Bool.and_self, mnF, List.foldl_cons, List.foldl_nil]
      · cases ro <;> simp (disch := omega) only [q_168_0, q_168_1, q_168_4, q_168_5, q_168_6, q_168_7, q_168_10, q_168_11, q_168_14, q_168_15, q_168_16, q_168_17, q_168_20, q_168_21, q_168_22, q_168_23, q_168_24, q_168_25, q_168_28, q_168_29, q_168_30, q_168_33, q_168_35, q_168_37, q_168_38, q_168_41, q_168_42, q_168_43, q_168_46, q_168_47, q_168_48, q_168_51, q_168_52, q_168_53, q_168_54, q_168_55, q_168_57, q_168_60, q_168_62, q_168_63, q_168_64, q_168_65, q_168_67, q_168_70, q_168_71, q_168_74, q_168_75, q_168_78, q_168_79, q_168_81, q_168_82, q_168_85, q_168_86, q_168_87, q_168_88, q_168_91, q_168_93, q_168_96, q_168_98, q_168_101, q_168_103, q_168_104, q_168_107, q_168_108, q_168_109, q_168_110, q_168_113, q_168_114, q_168_117, q_168_118, q_168_121, q_168_122, q_168_125, q_168_126, q_168_128, q_168_130, q_168_133, q_168_134, q_168_135, q_168_138, q_168_139, q_168_140, q_168_143, og_11_50, or_11_50, ow_11_50, og_11_51, or_11_51, ow_11_51, og_11_52, or_11_52, ow_11_52, o_is, o_ob, ofs_len11, ↓reduceIte, k_cr, k_ci, k_oR, k_oN, k_aR, k_aN, and_true, true_and, and_self, eq_self, Nat.reduceLT, Nat.reduceLeDiff, Nat.reduceEqDiff, Nat.reduceAdd, Nat.reduceMul, Bool.true_eq_false, Bool.false_eq_true, Nat.add_sub_cancel, Nat.not_lt_zero, Nat.zero_le, k_sub, k_sb1, k_r, k_n, k_ret, k_t1, k_t0, k_nr, k_nn, k_z0, k_z1, k_zb, x_okI, lit_nI, k_in, k_cl, k_lt, k_le, k_eq, k_neg, nI_add, nI_mul, k_clt, k_cgt, k_cle, k_cge, k_ceq, bI_0, k_sh8, ne_eq, Nat.add_eq_zero_iff, Nat.one_ne_zero, Nat.succ_ne_zero, and_false, false_and, not_false_eq_true, not_true_eq_false, ite_true, ite_false, if_true, if_false, oI, bI_f, bI_t, g50, g51, g52, eF, eB, f2, f3, ht, decide_true, decide_false, Bool.not_false, Bool.not_true, Bool.and_true, Bool.and_false, Bool.false_and, Bool.and_self, mnF, List.foldl_cons, List.foldl_nil]
  · subst e
    rw [actB_4]
    cases hm : (eK S mN b c).1 v with
    | none =>
      rw [hm] at eF
      simp (disch := omega) only [q_168_0, q_168_1, q_168_4, q_168_5, q_168_6, q_168_7, q_168_10, q_168_11, q_168_14, q_168_15, q_168_16, q_168_17, q_168_20, q_168_21, q_168_22, q_168_23, q_168_24, q_168_25, q_168_28, q_168_29, q_168_30, q_168_33, q_168_35, q_168_37, q_168_38, q_168_41, q_168_42, q_168_43, q_168_46, q_168_47, q_168_48, q_168_51, q_168_52, q_168_53, q_168_54, q_168_55, q_168_57, q_168_60, q_168_62, q_168_63, q_168_64, q_168_65, q_168_67, q_168_70, q_168_71, q_168_74, q_168_75, q_168_78, q_168_79, q_168_81, q_168_82, q_168_85, q_168_86, q_168_87, q_168_88, q_168_91, q_168_93, q_168_96, q_168_98, q_168_101, q_168_103, q_168_104, q_168_107, q_168_108, q_168_109, q_168_110, q_168_113, q_168_114, q_168_117, q_168_118, q_168_121, q_168_122, q_168_125, q_168_126, q_168_128, q_168_130, q_168_133, q_168_134, q_168_135, q_168_138, q_168_139, q_168_140, q_168_143, og_11_50, or_11_50, ow_11_50, og_11_51, or_11_51, ow_11_51, og_11_52, or_11_52, ow_11_52, o_is, o_ob, ofs_len11, ↓reduceIte, k_cr, k_ci, k_oR, k_oN, k_aR, k_aN, and_true, true_and, and_self, eq_self, Nat.reduceLT, Nat.reduceLeDiff, Nat.reduceEqDiff, Nat.reduceAdd, Nat.reduceMul, Bool.true_eq_false, Bool.false_eq_true, Nat.add_sub_cancel, Nat.not_lt_zero, Nat.zero_le, k_sub, k_sb1, k_r, k_n, k_ret, k_t1, k_t0, k_nr, k_nn, k_z0, k_z1, k_zb, x_okI, lit_nI, k_in, k_cl, k_lt, k_le, k_eq, k_neg, nI_add, nI_mul, k_clt, k_cgt, k_cle, k_cge, k_ceq, bI_0, k_sh8, ne_eq, Nat.add_eq_zero_iff, Nat.one_ne_zero, Nat.succ_ne_zero, and_false, false_and, not_false_eq_true, not_true_eq_false, ite_true, ite_false, if_true, if_false, oI, g50, g51, g52, eF, eB, mnF, List.foldl_cons, List.foldl_nil]
    | some m =>
      obtain ⟨f1, f2, f3⟩ := fin m hm
      rw [hm] at eF
      show _ = some (none, oh 11 h M (jS S (mnF (if (!(eK S mN b c).2.2 m && (eK S mN b c).2.1 m) = true then [] else [q]) z)))
      have hx : (eK S mN b c).2.2 m = decide (¬ sA S 4 (8 * (6 * b + c) + m) ≤ nI 5) := rfl
      rw [hx]
      generalize (eK S mN b c).2.1 m = ro at *
      by_cases ht : sA S 4 (8 * (6 * b + c) + m) ≤ nI 5
      · cases ro <;> simp (disch := omega) only [q_168_0, q_168_1, q_168_4, q_168_5, q_168_6, q_168_7, q_168_10, q_168_11, q_168_14, q_168_15, q_168_16, q_168_17, q_168_20, q_168_21, q_168_22, q_168_23, q_168_24, q_168_25, q_168_28, q_168_29, q_168_30, q_168_33, q_168_35, q_168_37, q_168_38, q_168_41, q_168_42, q_168_43, q_168_46, q_168_47, q_168_48, q_168_51, q_168_52, q_168_53, q_168_54, q_168_55, q_168_57, q_168_60, q_168_62, q_168_63, q_168_64, q_168_65, q_168_67, q_168_70, q_168_71, q_168_74, q_168_75, q_168_78, q_168_79, q_168_81, q_168_82, q_168_85, q_168_86, q_168_87, q_168_88, q_168_91, q_168_93, q_168_96, q_168_98, q_168_101, q_168_103, q_168_104, q_168_107, q_168_108, q_168_109, q_168_110, q_168_113, q_168_114, q_168_117, q_168_118, q_168_121, q_168_122, q_168_125, q_168_126, q_168_128, q_168_130, q_168_133, q_168_134, q_168_135, q_168_138, q_168_139, q_168_140, q_168_143, og_11_50, or_11_50, ow_11_50, og_11_51, or_11_51, ow_11_51, og_11_52, or_11_52, ow_11_52, o_is, o_ob, ofs_len11, ↓reduceIte, k_cr, k_ci, k_oR, k_oN, k_aR, k_aN, and_true, true_and, and_self, eq_self, Nat.reduceLT, Nat.reduceLeDiff, Nat.reduceEqDiff, Nat.reduceAdd, Nat.reduceMul, Bool.true_eq_false, Bool.false_eq_true, Nat.add_sub_cancel, Nat.not_lt_zero, Nat.zero_le, k_sub, k_sb1, k_r, k_n, k_ret, k_t1, k_t0, k_nr, k_nn, k_z0, k_z1, k_zb, x_okI, lit_nI, k_in, k_cl, k_lt, k_le, k_eq, k_neg, nI_add, nI_mul, k_clt, k_cgt, k_cle, k_cge, k_ceq, bI_0, k_sh8, ne_eq, Nat.add_eq_zero_iff, Nat.one_ne_zero, Nat.succ_ne_zero, and_false, false_and, not_false_eq_true, not_true_eq_false, ite_true, ite_false, if_true, if_false, oI, bI_f, bI_t, g50, g51, g52, eF, eB, f2, f3, ht, decide_true, decide_false, Bool.not_false, Bool.not_true, Bool.and_true, Bool.and_false, Bool.and_self, mnF, List.foldl_cons, List.foldl_nil]
      · cases ro <;> simp (disch := omega) only [q_168_0, q_168_1, q_168_4, q_168_5, q_168_6, q_168_7, q_168_10, q_168_11, q_168_14, q_168_15, q_168_16, q_168_17, q_168_20, q_168_21, q_168_22, q_168_23, q_168_24, q_168_25, q_168_28, q_168_29, q_168_30, q_168_33, q_168_35, q_168_37, q_168_38, q_168_41, q_168_42, q_168_43, q_168_46, q_168_47, q_168_48, q_168_51, q_168_52, q_168_53, q_168_54, q_168_55, q_168_57, q_168_60, q_168_62, q_168_63, q_168_64, q_168_65, q_168_67, q_168_70, q_168_71, q_168_74, q_168_75, q_168_78, q_168_79, q_168_81, q_168_82, q_168_85, q_168_86, q_168_87, q_168_88, q_168_91, q_168_93, q_168_96, q_168_98, q_168_101, q_168_103, q_168_104, q_168_107, q_168_108, q_168_109, q_168_110, q_168_113, q_168_114, q_168_117, q_168_118, q_168_121, q_168_122, q_168_125, q_168_126, q_168_128, q_168_130, q_168_133, q_168_134, q_168_135, q_168_138, q_168_139, q_168_140, q_168_143, og_11_50, or_11_50, ow_11_50, og_11_51, or_11_51, ow_11_51, og_11_52, or_11_52, ow_11_52, o_is, o_ob, ofs_len11, ↓reduceIte, k_cr, k_ci, k_oR, k_oN, k_aR, k_aN, and_true, true_and, and_self, eq_self, Nat.reduceLT, Nat.reduceLeDiff, Nat.reduceEqDiff, Nat.reduceAdd, Nat.reduceMul, Bool.true_eq_false, Bool.false_eq_true, Nat.add_sub_cancel, Nat.not_lt_zero, Nat.zero_le, k_sub, k_sb1, k_r, k_n, k_ret, k_t1, k_t0, k_nr, k_nn, k_z0, k_z1, k_zb, x_okI, lit_nI, k_in, k_cl, k_lt, k_le, k_eq, k_neg, nI_add, nI_mul, k_clt, k_cgt, k_cle, k_cge, k_ceq, bI_0, k_sh8, ne_eq, Nat.add_eq_zero_iff, Nat.one_ne_zero, Nat.succ_ne_zero, and_false, false_and, not_false_eq_true, not_true_eq_false, ite_true, ite_false, if_true, if_false, oI, bI_f, bI_t, g50, g51, g52, eF, eB, f2, f3, ht, decide_true, decide_false, Bool.not_false, Bool.not_true, Bool.and_true, Bool.and_false, Bool.false_and, Bool.and_self, mnF, List.foldl_cons, List.foldl_nil]
  · subst e
    rw [actB_5]
    cases hm : (eK S mN b c).1 v with
    | none =>
      rw [hm] at eF
      simp (disch := omega) only [q_168_0, q_168_1, q_168_4, q_168_5, q_168_6, q_168_7, q_168_10, q_168_11, q_168_14, q_168_15, q_168_16, q_168_17, q_168_20, q_168_21, q_168_22, q_168_23, q_168_24, q_168_25, q_168_28, q_168_29, q_168_30, q_168_33, q_168_35, q_168_37, q_168_38, q_168_41, q_168_42, q_168_43, q_168_46, q_168_47, q_168_48, q_168_51, q_168_52, q_168_53, q_168_54, q_168_55, q_168_57, q_168_60, q_168_62, q_168_63, q_168_64, q_168_65, q_168_67, q_168_70, q_168_71, q_168_74, q_168_75, q_168_78, q_168_79, q_168_81, q_168_82, q_168_85, q_168_86, q_168_87, q_168_88, q_168_91, q_168_93, q_168_96, q_168_98, q_168_101, q_168_103, q_168_104, q_168_107, q_168_108, q_168_109, q_168_110, q_168_113, q_168_114, q_168_117, q_168_118, q_168_121, q_168_122, q_168_125, q_168_126, q_168_128, q_168_130, q_168_133, q_168_134, q_168_135, q_168_138, q_168_139, q_168_140, q_168_143, og_11_50, or_11_50, ow_11_50, og_11_51, or_11_51, ow_11_51, og_11_52, or_11_52, ow_11_52, o_is, o_ob, ofs_len11, ↓reduceIte, k_cr, k_ci, k_oR, k_oN, k_aR, k_aN, and_true, true_and, and_self, eq_self, Nat.reduceLT, Nat.reduceLeDiff, Nat.reduceEqDiff, Nat.reduceAdd, Nat.reduceMul, Bool.true_eq_false, Bool.false_eq_true, Nat.add_sub_cancel, Nat.not_lt_zero, Nat.zero_le, k_sub, k_sb1, k_r, k_n, k_ret, k_t1, k_t0, k_nr, k_nn, k_z0, k_z1, k_zb, x_okI, lit_nI, k_in, k_cl, k_lt, k_le, k_eq, k_neg, nI_add, nI_mul, k_clt, k_cgt, k_cle, k_cge, k_ceq, bI_0, k_sh8, ne_eq, Nat.add_eq_zero_iff, Nat.one_ne_zero, Nat.succ_ne_zero, and_false, false_and, not_false_eq_true, not_true_eq_false, ite_true, ite_false, if_true, if_false, oI, g50, g51, g52, eF, eB, mnF, List.foldl_cons, List.foldl_nil]
    | some m =>
      obtain ⟨f1, f2, f3⟩ := fin m hm
      rw [hm] at eF
      show _ = some (none, oh 11 h M (jS S (mnF (if (eK S mN b c).2.1 m = true then [] else [q]) z)))
      generalize (eK S mN b c).2.1 m = ro at *
      by_cases ht : sA S 4 (8 * (6 * b + c) + m) ≤ nI 5
      · cases ro <;> simp (disch := omega) only [q_168_0, q_168_1, q_168_4, q_168_5, q_168_6, q_168_7, q_168_10, q_168_11, q_168_14, q_168_15, q_168_16, q_168_17, q_168_20, q_168_21, q_168_22, q_168_23, q_168_24, q_168_25, q_168_28, q_168_29, q_168_30, q_168_33, q_168_35, q_168_37, q_168_38, q_168_41, q_168_42, q_168_43, q_168_46, q_168_47, q_168_48, q_168_51, q_168_52, q_168_53, q_168_54, q_168_55, q_168_57, q_168_60, q_168_62, q_168_63, q_168_64, q_168_65, q_168_67, q_168_70, q_168_71, q_168_74, q_168_75, q_168_78, q_168_79, q_168_81, q_168_82, q_168_85, q_168_86, q_168_87, q_168_88, q_168_91, q_168_93, q_168_96, q_168_98, q_168_101, q_168_103, q_168_104, q_168_107, q_168_108, q_168_109, q_168_110, q_168_113, q_168_114, q_168_117, q_168_118, q_168_121, q_168_122, q_168_125, q_168_126, q_168_128, q_168_130, q_168_133, q_168_134, q_168_135, q_168_138, q_168_139, q_168_140, q_168_143, og_11_50, or_11_50, ow_11_50, og_11_51, or_11_51, ow_11_51, og_11_52, or_11_52, ow_11_52, o_is, o_ob, ofs_len11, ↓reduceIte, k_cr, k_ci, k_oR, k_oN, k_aR, k_aN, and_true, true_and, and_self, eq_self, Nat.reduceLT, Nat.reduceLeDiff, Nat.reduceEqDiff, Nat.reduceAdd, Nat.reduceMul, Bool.true_eq_false, Bool.false_eq_true, Nat.add_sub_cancel, Nat.not_lt_zero, Nat.zero_le, k_sub, k_sb1, k_r, k_n, k_ret, k_t1, k_t0, k_nr, k_nn, k_z0, k_z1, k_zb, x_okI, lit_nI, k_in, k_cl, k_lt, k_le, k_eq, k_neg, nI_add, nI_mul, k_clt, k_cgt, k_cle, k_cge, k_ceq, bI_0, k_sh8, ne_eq, Nat.add_eq_zero_iff, Nat.one_ne_zero, Nat.succ_ne_zero, and_false, false_and, not_false_eq_true, not_true_eq_false, ite_true, ite_false, if_true, if_false, oI, bI_f, bI_t, g50, g51, g52, eF, eB, f2, f3, ht, mnF, List.foldl_cons, List.foldl_nil]
      · cases ro <;> simp (disch := omega) only [q_168_0, q_168_1, q_168_4, q_168_5, q_168_6, q_168_7, q_168_10, q_168_11, q_168_14, q_168_15, q_168_16, q_168_17, q_168_20, q_168_21, q_168_22, q_168_23, q_168_24, q_168_25, q_168_28, q_168_29, q_168_30, q_168_33, q_168_35, q_168_37, q_168_38, q_168_41, q_168_42, q_168_43, q_168_46, q_168_47, q_168_48, q_168_51, q_168_52, q_168_53, q_168_54, q_168_55, q_168_57, q_168_60, q_168_62, q_168_63, q_168_64, q_168_65, q_168_67, q_168_70, q_168_71, q_168_74, q_168_75, q_168_78, q_168_79, q_168_81, q_168_82, q_168_85, q_168_86, q_168_87, q_168_88, q_168_91, q_168_93, q_168_96, q_168_98, q_168_101, q_168_103, q_168_104, q_168_107, q_168_108, q_168_109, q_168_110, q_168_113, q_168_114, q_168_117, q_168_118, q_168_121, q_168_122, q_168_125, q_168_126, q_168_128, q_168_130, q_168_133, q_168_134, q_168_135, q_168_138, q_168_139, q_168_140, q_168_143, og_11_50, or_11_50, ow_11_50, og_11_51, or_11_51, ow_11_51, og_11_52, or_11_52, ow_11_52, o_is, o_ob, ofs_len11, ↓reduceIte, k_cr, k_ci, k_oR, k_oN, k_aR, k_aN, and_true, true_and, and_self, eq_self, Nat.reduceLT, Nat.reduceLeDiff, Nat.reduceEqDiff, Nat.reduceAdd, Nat.reduceMul, Bool.true_eq_false, Bool.false_eq_true, Nat.add_sub_cancel, Nat.not_lt_zero, Nat.zero_le, k_sub, k_sb1, k_r, k_n, k_ret, k_t1, k_t0, k_nr, k_nn, k_z0, k_z1, k_zb, x_okI, lit_nI, k_in, k_cl, k_lt, k_le, k_eq, k_neg, nI_add, nI_mul, k_clt, k_cgt, k_cle, k_cge, k_ceq, bI_0, k_sh8, ne_eq, Nat.add_eq_zero_iff, Nat.one_ne_zero, Nat.succ_ne_zero, and_false, false_and, not_false_eq_true, not_true_eq_false, ite_true, ite_false, if_true, if_false, oI, bI_f, bI_t, g50, g51, g52, eF, eB, f2, f3, ht, mnF, List.foldl_cons, List.foldl_nil]
  · rw [actB_o _ k v q hk hk5]
    rcases hk5 with q1 | q1
    · simp (disch := omega) only [q_168_0, q_168_1, q_168_4, q_168_5, q_168_6, q_168_7, q_168_10, q_168_11, q_168_14, q_168_15, q_168_16, q_168_17, q_168_20, q_168_21, q_168_22, q_168_23, q_168_24, q_168_25, q_168_28, q_168_29, q_168_30, q_168_33, q_168_35, q_168_37, q_168_38, q_168_41, q_168_42, q_168_43, q_168_46, q_168_47, q_168_48, q_168_51, q_168_52, q_168_53, q_168_54, q_168_55, q_168_57, q_168_60, q_168_62, q_168_63, q_168_64, q_168_65, q_168_67, q_168_70, q_168_71, q_168_74, q_168_75, q_168_78, q_168_79, q_168_81, q_168_82, q_168_85, q_168_86, q_168_87, q_168_88, q_168_91, q_168_93, q_168_96, q_168_98, q_168_101, q_168_103, q_168_104, q_168_107, q_168_108, q_168_109, q_168_110, q_168_113, q_168_114, q_168_117, q_168_118, q_168_121, q_168_122, q_168_125, q_168_126, q_168_128, q_168_130, q_168_133, q_168_134, q_168_135, q_168_138, q_168_139, q_168_140, q_168_143, og_11_50, or_11_50, ow_11_50, og_11_51, or_11_51, ow_11_51, og_11_52, or_11_52, ow_11_52, o_is, o_ob, ofs_len11, ↓reduceIte, k_cr, k_ci, k_oR, k_oN, k_aR, k_aN, and_true, true_and, and_self, eq_self, Nat.reduceLT, Nat.reduceLeDiff, Nat.reduceEqDiff, Nat.reduceAdd, Nat.reduceMul, Bool.true_eq_false, Bool.false_eq_true, Nat.add_sub_cancel, Nat.not_lt_zero, Nat.zero_le, k_sub, k_sb1, k_r, k_n, k_ret, k_t1, k_t0, k_nr, k_nn, k_z0, k_z1, k_zb, x_okI, lit_nI, k_in, k_cl, k_lt, k_le, k_eq, k_neg, nI_add, nI_mul, k_clt, k_cgt, k_cle, k_cge, k_ceq, bI_0, k_sh8, ne_eq, Nat.add_eq_zero_iff, Nat.one_ne_zero, Nat.succ_ne_zero, and_false, false_and, not_false_eq_true, not_true_eq_false, ite_true, ite_false, if_true, if_false, g50, q1, mnF, List.foldl_nil]
    · have q2 : ¬ k < 3 := by omega
      have q3 : ¬ k ≤ 5 := by omega
      simp (disch := omega) only [q_168_0, q_168_1, q_168_4, q_168_5, q_168_6, q_168_7, q_168_10, q_168_11, q_168_14, q_168_15, q_168_16, q_168_17, q_168_20, q_168_21, q_168_22, q_168_23, q_168_24, q_168_25, q_168_28, q_168_29, q_168_30, q_168_33, q_168_35, q_168_37, q_168_38, q_168_41, q_168_42, q_168_43, q_168_46, q_168_47, q_168_48, q_168_51, q_168_52, q_168_53, q_168_54, q_168_55, q_168_57, q_168_60, q_168_62, q_168_63, q_168_64, q_168_65, q_168_67, q_168_70, q_168_71, q_168_74, q_168_75, q_168_78, q_168_79, q_168_81, q_168_82, q_168_85, q_168_86, q_168_87, q_168_88, q_168_91, q_168_93, q_168_96, q_168_98, q_168_101, q_168_103, q_168_104, q_168_107, q_168_108, q_168_109, q_168_110, q_168_113, q_168_114, q_168_117, q_168_118, q_168_121, q_168_122, q_168_125, q_168_126, q_168_128, q_168_130, q_168_133, q_168_134, q_168_135, q_168_138, q_168_139, q_168_140, q_168_143, og_11_50, or_11_50, ow_11_50, og_11_51, or_11_51, ow_11_51, og_11_52, or_11_52, ow_11_52, o_is, o_ob, ofs_len11, ↓reduceIte, k_cr, k_ci, k_oR, k_oN, k_aR, k_aN, and_true, true_and, and_self, eq_self, Nat.reduceLT, Nat.reduceLeDiff, Nat.reduceEqDiff, Nat.reduceAdd, Nat.reduceMul, Bool.true_eq_false, Bool.false_eq_true, Nat.add_sub_cancel, Nat.not_lt_zero, Nat.zero_le, k_sub, k_sb1, k_r, k_n, k_ret, k_t1, k_t0, k_nr, k_nn, k_z0, k_z1, k_zb, x_okI, lit_nI, k_in, k_cl, k_lt, k_le, k_eq, k_neg, nI_add, nI_mul, k_clt, k_cgt, k_cle, k_cge, k_ceq, bI_0, k_sh8, ne_eq, Nat.add_eq_zero_iff, Nat.one_ne_zero, Nat.succ_ne_zero, and_false, false_and, not_false_eq_true, not_true_eq_false, ite_true, ite_false, if_true, if_false, g50, q2, q3, mnF, List.foldl_nil]
