/-! The reference: a RULE. -/
theorem a_01 : nI 0 &&& nI 1 = nI 0 := by decide
theorem a_11 : nI 1 &&& nI 1 = nI 1 := by decide
def pRu (k : Nat) : Bool := (decide (30 ≤ k) && decide (k ≤ 34)) || (decide (42 ≤ k) && decide (k ≤ 57))
theorem pEx_pRu : ∀ k, pRu k = false → pEx k = false := by
  intro k hk
  unfold pRu at hk
  unfold pEx
  rw [Bool.or_eq_false_iff, Bool.and_eq_false_iff, Bool.and_eq_false_iff, decide_eq_false_iff_not, decide_eq_false_iff_not, decide_eq_false_iff_not, decide_eq_false_iff_not] at hk ⊢
  omega
theorem fr.rdN {P : Nat → Bool} {S T : gS} {n p : Nat} (h : fr P S T) (h0 : P 30 = true) (h1 : P 31 = true) (h2 : P 32 = true) (h3 : P 33 = true) : fr P S (rdN T n p) := h.rdS h0 h1 h2 h3
theorem rV.read {t : Nat → Int32} {n : Nat} {S : gS} {i : Nat} (h1 : rV t n S i) : rV t n (rdN S n (psF t n (i + 1))) (i + 1) := by
  have e : sA S 28 = t := h1.1
  have hr : rdN S n (psF t n (i + 1)) = rdS S (pcF t n (psF t n (i + 1))).1 (pcF t n (psF t n (i + 1))).2.1 (pcF t n (psF t n (i + 1))).2.2.1 (pcF t n (psF t n (i + 1))).2.2.2 := by
    unfold rdN
    rw [e]
  rw [hr]
  exact ⟨e, h1.2.1, rfl, rfl, rfl, rfl⟩
theorem rd_I {S : gS} {n p k : Nat} (h : k ≠ 30 ∧ k ≠ 31 ∧ k ≠ 32) : sI (rdN S n p) k = sI S k := by
  show (if k = 30 then _ else if k = 31 then _ else if k = 32 then _ else sI S k) = _
  rw [if_neg h.1, if_neg h.2.1, if_neg h.2.2]
theorem rd_A {S : gS} {n p : Nat} : sA (rdN S n p) = sA S := rfl
theorem rd_L {S : gS} {n p : Nat} : sL (rdN S n p) = sL S := rfl
theorem rV.rd {t : Nat → Int32} {n : Nat} {S : gS} {i j : Nat} (h1 : rV t n S i) (hj : j = i + 1) : rV t n (rdN S n (psF t n j)) j := by
  subst hj
  exact h1.read
theorem m_readR (d : Nat) (h : xH) (M : Nat) {t : Nat → Int32} {n : Nat} {S : gS} {i : Nat} (h7 : n ≤ 700) (hb : rV t n S i) : xm (d + 2) 148 [.ref M] (oh 11 h M S) = some (none, oh 11 h M (rdN S n (psF t n (i + 1)))) :=
  m_readS d h M n _ _ S hb.2.1 h7 (psF_le t n (i + 1)) hb.2.2.1 hb.2.2.2.2.1
theorem m_readRj (d : Nat) (h : xH) (M : Nat) {t : Nat → Int32} {n : Nat} {S : gS} {i j : Nat} (hj : j = i + 1) (h7 : n ≤ 700) (hb : rV t n S i) : xm (d + 2) 148 [.ref M] (oh 11 h M S) = some (none, oh 11 h M (rdN S n (psF t n j))) := by
  subst hj
  exact m_readR d h M h7 hb
theorem m_signO (d : Nat) (h : xH) (M : Nat) {t : Nat → Int32} {n : Nat} {S : gS} {i : Nat} {c : Int32} (h7 : n ≤ 700) (hb : rV t n S i) (h34 : sI S 34 = -nI 1) (hc : (pcs t n).1 i = c) : xm (d + 3) 153 [.ref M, .int c] (oh 11 h M S) = some (none, oh 11 h M (rdN S n (psF t n (i + 1)))) := by
  rw [m_sign2 d h M n _ _ S c hb.2.1 h7 (psF_le t n (i + 1)) hb.2.2.1 hb.2.2.2.2.1 (Nat.le_trans (pcs_A t n i) h7)]
  unfold sgS
  rw [if_pos (hb.2.2.2.1.trans hc), if_pos h34]
theorem m_signOj (d : Nat) (h : xH) (M : Nat) {t : Nat → Int32} {n : Nat} {S : gS} {i j : Nat} {c : Int32} (hj : j = i + 1) (h7 : n ≤ 700) (hb : rV t n S i) (h34 : sI S 34 = -nI 1) (hc : (pcs t n).1 i = c) : xm (d + 3) 153 [.ref M, .int c] (oh 11 h M S) = some (none, oh 11 h M (rdN S n (psF t n j))) := by
  subst hj
  exact m_signO d h M h7 hb h34 hc
theorem m_signB (d : Nat) (h : xH) (M : Nat) {t : Nat → Int32} {n : Nat} {S : gS} {i : Nat} {c : Int32} (h7 : n ≤ 700) (hb : rV t n S i) (h34 : sI S 34 = -nI 1) (hc : ¬ (pcs t n).1 i = c) : xm (d + 3) 153 [.ref M, .int c] (oh 11 h M S) = some (none, oh 11 h M (uI S 34 (nI ((pcs t n).2.1 i)))) := by
  rw [m_sign2 d h M n _ _ S c hb.2.1 h7 (psF_le t n (i + 1)) hb.2.2.1 hb.2.2.2.2.1 (Nat.le_trans (pcs_A t n i) h7)]
  unfold sgS flS
  rw [if_neg (by rw [hb.2.2.2.1]; exact hc), if_pos h34, hb.2.2.2.2.1]
theorem m_failR (d : Nat) (h : xH) (M : Nat) {t : Nat → Int32} {n : Nat} {S : gS} {i : Nat} (hb : rV t n S i) (h34 : sI S 34 = -nI 1) : xm (d + 1) 151 [.ref M] (oh 11 h M S) = some (none, oh 11 h M (uI S 34 (nI ((pcs t n).2.1 i)))) := by
  rw [m_fail d h M S]
  unfold flS
  rw [if_pos h34, hb.2.2.2.2.1]
theorem m_signX (d : Nat) (h : xH) (M : Nat) (S : gS) (c : Int32) (hw : (sI S 34 = -nI 1) = False) : xm (d + 3) 153 [.ref M, .int c] (oh 11 h M S) = some (none, oh 11 h M S) := by
  have ef := m_fail (d + 1) h M S
  have e0 : flS S = S := by
    unfold flS
    rw [if_neg (by rw [hw]; exact fun z => z)]
  rw [e0] at ef
  rw [E_153 _ _ _ _ rfl]
  by_cases h1 : sI S 31 = c
  · simp (disch := omega) only [q_153_0, q_153_1, q_153_4, q_153_5, q_153_8, q_153_9, q_153_12, q_153_13, q_153_16, q_153_17, q_153_20, q_153_21, q_153_24, og_11_31, og_11_34, o_is, o_ob, ofs_len11, ↓reduceIte, k_cr, k_ci, k_oR, k_oN, k_aR, k_aN, and_true, true_and, and_self, eq_self, Nat.reduceLT, Nat.reduceLeDiff, Nat.reduceEqDiff, Nat.reduceAdd, Nat.reduceMul, Bool.true_eq_false, Bool.false_eq_true, Nat.add_sub_cancel, Nat.not_lt_zero, Nat.zero_le, k_sub, k_sb1, k_r, k_n, k_ret, k_t1, k_t0, k_nr, k_nn, k_z0, k_z1, k_zb, x_okI, lit_nI, k_in, k_cl, k_lt, k_le, k_eq, k_neg, nI_add, nI_mul, k_clt, k_cgt, k_cle, k_cge, k_ceq, bI_0, k_sh8, ne_eq, Nat.add_eq_zero_iff, Nat.one_ne_zero, Nat.succ_ne_zero, and_false, false_and, not_false_eq_true, not_true_eq_false, ite_true, ite_false, if_true, if_false, h1, hw]
  · simp (disch := omega) only [q_153_0, q_153_1, q_153_4, q_153_5, q_153_8, q_153_9, q_153_12, q_153_13, q_153_16, q_153_17, q_153_20, q_153_21, q_153_24, og_11_31, og_11_34, o_is, o_ob, ofs_len11, ↓reduceIte, k_cr, k_ci, k_oR, k_oN, k_aR, k_aN, and_true, true_and, and_self, eq_self, Nat.reduceLT, Nat.reduceLeDiff, Nat.reduceEqDiff, Nat.reduceAdd, Nat.reduceMul, Bool.true_eq_false, Bool.false_eq_true, Nat.add_sub_cancel, Nat.not_lt_zero, Nat.zero_le, k_sub, k_sb1, k_r, k_n, k_ret, k_t1, k_t0, k_nr, k_nn, k_z0, k_z1, k_zb, x_okI, lit_nI, k_in, k_cl, k_lt, k_le, k_eq, k_neg, nI_add, nI_mul, k_clt, k_cgt, k_cle, k_cge, k_ceq, bI_0, k_sh8, ne_eq, Nat.add_eq_zero_iff, Nat.one_ne_zero, Nat.succ_ne_zero, and_false, false_and, not_false_eq_true, not_true_eq_false, ite_true, ite_false, if_true, if_false, h1, hw, ef]
theorem place_ne {t : Nat → Int32} {n : Nat} (h7 : n ≤ 700) (q : Nat) : (nI ((pcs t n).2.1 q) = -nI 1) = False := k_neg (by have := pcs_A t n q; omega)
def rAt (S : gS) (q : Nat) (r : rT) : Prop := sA S 43 q = nI r.1 ∧ sL S 44 q = r.2.1 ∧ sA S 45 q = nI r.2.2.1 ∧ (r.1 ≠ 2 → sA S 46 q = nI r.2.2.2.1) ∧ sA S 47 q = bI r.2.2.2.2.1
def acR (R : List rT) : List aT := (R.map (fun r => r.2.2.2.2.2)).flatten
def reR (S : gS) (R : List rT) : Prop := ∀ q r, R[q]? = some r → rAt S q r ∧ sA S 48 q = nI (acR (R.take q)).length
theorem acR_snoc (R : List rT) (r : rT) : acR (R ++ [r]) = acR R ++ r.2.2.2.2.2 := by
  unfold acR
  rw [List.map_append, List.flatten_append]
  show _ ++ (r.2.2.2.2.2 ++ []) = _
  rw [List.append_nil]
theorem reR.congr {S T : gS} {R : List rT} (h : reR S R) (e : ∀ q, q < R.length → sA T 43 q = sA S 43 q ∧ sL T 44 q = sL S 44 q ∧ sA T 45 q = sA S 45 q ∧ sA T 46 q = sA S 46 q ∧ sA T 47 q = sA S 47 q ∧ sA T 48 q = sA S 48 q) : reR T R := by
  intro q r hq
  have hl : q < R.length := by
    rcases Nat.lt_or_ge q R.length with z | z
    · exact z
    · rw [List.getElem?_eq_none z] at hq
      cases hq
  obtain ⟨e1, e2, e3, e4, e5, e6⟩ := e q hl
  obtain ⟨⟨a1, a2, a3, a4, a5⟩, a6⟩ := h q r hq
  exact ⟨⟨e1.trans a1, e2.trans a2, e3.trans a3, fun z => e4.trans (a4 z), e5.trans a5⟩, e6.trans a6⟩
theorem reR.fr {P : Nat → Bool} {S T : gS} {R : List rT} (h : reR S R) (hf : fr P S T) (hp : P 43 = false ∧ P 44 = false ∧ P 45 = false ∧ P 46 = false ∧ P 47 = false ∧ P 48 = false) : reR T R :=
  h.congr fun q _ => ⟨by rw [(hf 43 hp.1).2.2.1], by rw [(hf 44 hp.2.1).2.2.2.1], by rw [(hf 45 hp.2.2.1).2.2.1], by rw [(hf 46 hp.2.2.2.1).2.2.1], by rw [(hf 47 hp.2.2.2.2.1).2.2.1], by rw [(hf 48 hp.2.2.2.2.2).2.2.1]⟩
theorem reR.snoc {S : gS} {R : List rT} {r : rT} (h : reR S R) (h1 : rAt S R.length r) (h2 : sA S 48 R.length = nI (acR R).length) : reR S (R ++ [r]) := by
  intro q x hq
  by_cases hl : q < R.length
  · rw [List.getElem?_append_left hl] at hq
    rw [List.take_append_of_le_length (Nat.le_of_lt hl)]
    exact h q x hq
  · rw [List.getElem?_append_right (by omega)] at hq
    by_cases he : q = R.length
    · subst he
      rw [Nat.sub_self] at hq
      have hb : x = r := (Option.some.inj hq).symm
      rw [hb, List.take_left]
      exact ⟨h1, h2⟩
    · rw [List.getElem?_eq_none (by show 1 ≤ q - R.length; omega)] at hq
      cases hq
theorem reR.rd {S : gS} {R : List rT} {n p : Nat} (h : reR S R) : reR (rdN S n p) R := by
  intro q r hq
  unfold rAt
  rw [rd_A, rd_L]
  exact h q r hq
theorem isA.rd {S : gS} {A : List aT} {n p : Nat} (h : isA S A) : isA (rdN S n p) A := by
  refine ⟨(rd_I (by decide)).trans h.1, fun q b hq => ?_⟩
  rw [rd_A, rd_L]
  exact h.2 q b hq
def vR (t : Nat → Int32) (n : Nat) (S0 S : gS) (i : Nat) (R : List rT) : Prop := rV t n S i ∧ sI S 34 = -nI 1 ∧ sI S 42 = nI R.length ∧ reR S R ∧ isA S (acR R) ∧ fr pRu S0 S
def bdR (t : Nat → Int32) (n : Nat) (S0 S : gS) (q k : Nat) : Prop := sI S 34 = nI ((pcs t n).2.1 q) ∧ (∃ z, sI S 42 = nI z ∧ z ≤ k + 1) ∧ fr pRu S0 S
def rhS (S : gS) (k : Nat) (kd : Int32) (nm : Int64) (a f : Int32) : gS := uI (uA (uA (uA (uL (uA S 43 k kd) 44 k nm) 45 k a) 48 k f) 47 k (nI 0)) 42 (nI (k + 1))
theorem rhS_fr {S : gS} {k : Nat} {kd : Int32} {nm : Int64} {a f : Int32} {S0 : gS} (h : fr pRu S0 S) : fr pRu S0 (rhS S k kd nm a f) := (((((h.uA (by decide)).uL (by decide)).uA (by decide)).uA (by decide)).uA (by decide)).uI (by decide)
theorem rhS_rV {t : Nat → Int32} {n i : Nat} {S : gS} {k : Nat} {kd : Int32} {nm : Int64} {a f : Int32} (h : rV t n S i) : rV t n (rhS S k kd nm a f) i := by
  have : sA (rhS S k kd nm a f) 28 = sA S 28 := by
    unfold rhS
    rw [sA_uI, sA_uA_ne _ _ _ (by decide), sA_uA_ne _ _ _ (by decide), sA_uA_ne _ _ _ (by decide), sA_uL, sA_uA_ne _ _ _ (by decide)]
  exact ⟨this.trans h.1, h.2⟩
theorem rhS_A {S : gS} {k : Nat} {kd : Int32} {nm : Int64} {a f : Int32} {A : List aT} (h : isA S A) : isA (rhS S k kd nm a f) A := by
  have e0 : sA (rhS S k kd nm a f) 50 = sA S 50 := by
    unfold rhS
    rw [sA_uI, sA_uA_ne _ _ _ (by decide), sA_uA_ne _ _ _ (by decide), sA_uA_ne _ _ _ (by decide), sA_uL, sA_uA_ne _ _ _ (by decide)]
  have e1 : sA (rhS S k kd nm a f) 52 = sA S 52 := by
    unfold rhS
    rw [sA_uI, sA_uA_ne _ _ _ (by decide), sA_uA_ne _ _ _ (by decide), sA_uA_ne _ _ _ (by decide), sA_uL, sA_uA_ne _ _ _ (by decide)]
  have e2 : sL (rhS S k kd nm a f) 51 = sL S 51 := by
    unfold rhS
    rw [sL_uI, sL_uA, sL_uA, sL_uA, sL_uL_ne _ _ _ (by decide), sL_uA]
  refine ⟨h.1, fun q b hq => ?_⟩
  obtain ⟨q1, q2, q3⟩ := h.2 q b hq
  rw [e0, e1, e2]
  exact ⟨q1, q2, q3⟩
theorem rhS_reR {S : gS} {kd : Int32} {nm : Int64} {a f : Int32} {R : List rT} (h : reR S R) : reR (rhS S R.length kd nm a f) R := by
  refine h.congr fun q hq => ?_
  have hne : ¬ q = R.length := by omega
  unfold rhS
  simp only [sI_uI, sJ_uI, sA_uI, sL_uI, sR_uI, sQ_uI, sI_uJ, sJ_uJ, sA_uJ, sL_uJ, sR_uJ, sQ_uJ, sI_uA, sJ_uA, sA_uA, sL_uA, sR_uA, sQ_uA, sI_uL, sJ_uL, sA_uL, sL_uL, sR_uL, sQ_uL, sI_uR, sJ_uR, sA_uR, sL_uR, sR_uR, sQ_uR, sI_uQ, sJ_uQ, sA_uQ, sL_uQ, sR_uQ, sQ_uQ]
  simp [hne]
theorem rhS_at (S : gS) (k : Nat) (kd : Int32) (nm : Int64) (a f : Int32) : sA (rhS S k kd nm a f) 43 k = kd ∧ sL (rhS S k kd nm a f) 44 k = nm ∧ sA (rhS S k kd nm a f) 45 k = a ∧ sA (rhS S k kd nm a f) 48 k = f ∧ sA (rhS S k kd nm a f) 47 k = nI 0 := by
  unfold rhS
  simp only [sI_uI, sJ_uI, sA_uI, sL_uI, sR_uI, sQ_uI, sI_uJ, sJ_uJ, sA_uJ, sL_uJ, sR_uJ, sQ_uJ, sI_uA, sJ_uA, sA_uA, sL_uA, sR_uA, sQ_uA, sI_uL, sJ_uL, sA_uL, sL_uL, sR_uL, sQ_uL, sI_uR, sJ_uR, sA_uR, sL_uR, sR_uR, sQ_uR, sI_uQ, sJ_uQ, sA_uQ, sL_uQ, sR_uQ, sQ_uQ]
  simp
def ruKd (dr ky : Bool) : Nat := if dr then 2 else if ky then 0 else 1
theorem ru_head (d : Nat) (h : xH) (M : Nat) {t : Nat → Int32} {n : Nat} {S : gS} {i k a : Nat} (dr ky : Bool) (h7 : n ≤ 700) (hv : rV t n S i) (h42 : sI S 42 = nI k) (h49 : sI S 49 = nI a) (hk : k < 700) (ha : a ≤ 700) : xrun (d + 4) 154 72 [(1, .ref M), (1, .int (bI dr)), (1, .int (bI ky)), (0, .null)] [] (oh 11 h M S) = xrun (d + 4) 154 159 [(1, .ref M), (1, .int (bI dr)), (1, .int (bI ky)), (1, .int (nI k))] [] (oh 11 h M (rdN (rhS S k (nI (ruKd dr ky)) (if ky then 0 else (pcs t n).2.2 i) (nI ((pcs t n).2.1 i)) (nI a)) n (psF t n (i + 1)))) := by
  have h32 := hv.2.2.2.2.1
  have h33 := hv.2.2.2.2.2
  have e1 := fun kd nm => m_readR (d + 2) h M h7 (rhS_rV (k := k) (kd := kd) (nm := nm) (a := nI ((pcs t n).2.1 i)) (f := nI a) hv)
  unfold rhS at e1 ⊢
  cases dr <;> cases ky
  · simp (disch := omega) only [q_154_0, q_154_1, q_154_4, q_154_7, q_154_8, q_154_9, q_154_12, q_154_15, q_154_16, q_154_17, q_154_20, q_154_21, q_154_24, q_154_25, q_154_28, q_154_31, q_154_32, q_154_35, q_154_36, q_154_39, q_154_40, q_154_43, q_154_44, q_154_45, q_154_48, q_154_49, q_154_52, q_154_53, q_154_56, q_154_59, q_154_60, q_154_63, q_154_64, q_154_67, q_154_68, q_154_71, q_154_72, q_154_73, q_154_76, q_154_77, q_154_78, q_154_81, q_154_82, q_154_83, q_154_86, q_154_87, q_154_90, q_154_91, q_154_94, q_154_95, q_154_98, q_154_99, q_154_100, q_154_101, q_154_104, q_154_105, q_154_106, q_154_109, q_154_110, q_154_113, q_154_114, q_154_117, q_154_118, q_154_119, q_154_122, q_154_123, q_154_124, q_154_127, q_154_128, q_154_129, q_154_132, q_154_133, q_154_134, q_154_137, q_154_138, q_154_139, q_154_142, q_154_143, q_154_144, q_154_145, q_154_146, q_154_147, q_154_150, q_154_151, q_154_152, q_154_155, q_154_156, og_11_34, og_11_42, op_11_42, og_11_43, or_11_43, ow_11_43, og_11_44, or_11_44, ow_11_44, og_11_33, og_11_45, or_11_45, ow_11_45, og_11_32, og_11_48, or_11_48, ow_11_48, og_11_49, og_11_47, or_11_47, ow_11_47, og_11_46, or_11_46, ow_11_46, og_11_50, or_11_50, ow_11_50, og_11_52, or_11_52, ow_11_52, o_is, o_ob, ofs_len11, ↓reduceIte, k_cr, k_ci, k_oR, k_oN, k_aR, k_aN, and_true, true_and, and_self, eq_self, Nat.reduceLT, Nat.reduceLeDiff, Nat.reduceEqDiff, Nat.reduceAdd, Nat.reduceMul, Bool.true_eq_false, Bool.false_eq_true, Nat.add_sub_cancel, Nat.not_lt_zero, Nat.zero_le, k_sub, k_sb1, k_r, k_n, k_ret, k_t1, k_t0, k_nr, k_nn, k_z0, k_z1, k_zb, x_okI, lit_nI, k_in, k_cl, k_lt, k_le, k_eq, k_neg, nI_add, nI_mul, k_clt, k_cgt, k_cle, k_cge, k_ceq, bI_0, k_sh8, ne_eq, Nat.add_eq_zero_iff, Nat.one_ne_zero, Nat.succ_ne_zero, and_false, false_and, not_false_eq_true, not_true_eq_false, ite_true, ite_false, if_true, if_false, sI_uI, sJ_uI, sA_uI, sL_uI, sR_uI, sQ_uI, sI_uJ, sJ_uJ, sA_uJ, sL_uJ, sR_uJ, sQ_uJ, sI_uA, sJ_uA, sA_uA, sL_uA, sR_uA, sQ_uA, sI_uL, sJ_uL, sA_uL, sL_uL, sR_uL, sQ_uL, sI_uR, sJ_uR, sA_uR, sL_uR, sR_uR, sQ_uR, sI_uQ, sJ_uQ, sA_uQ, sL_uQ, sR_uQ, sQ_uQ, bI, ruKd, a_01, h32, h33, h42, h49, e1]
  · simp (disch := omega) only [q_154_0, q_154_1, q_154_4, q_154_7, q_154_8, q_154_9, q_154_12, q_154_15, q_154_16, q_154_17, q_154_20, q_154_21, q_154_24, q_154_25, q_154_28, q_154_31, q_154_32, q_154_35, q_154_36, q_154_39, q_154_40, q_154_43, q_154_44, q_154_45, q_154_48, q_154_49, q_154_52, q_154_53, q_154_56, q_154_59, q_154_60, q_154_63, q_154_64, q_154_67, q_154_68, q_154_71, q_154_72, q_154_73, q_154_76, q_154_77, q_154_78, q_154_81, q_154_82, q_154_83, q_154_86, q_154_87, q_154_90, q_154_91, q_154_94, q_154_95, q_154_98, q_154_99, q_154_100, q_154_101, q_154_104, q_154_105, q_154_106, q_154_109, q_154_110, q_154_113, q_154_114, q_154_117, q_154_118, q_154_119, q_154_122, q_154_123, q_154_124, q_154_127, q_154_128, q_154_129, q_154_132, q_154_133, q_154_134, q_154_137, q_154_138, q_154_139, q_154_142, q_154_143, q_154_144, q_154_145, q_154_146, q_154_147, q_154_150, q_154_151, q_154_152, q_154_155, q_154_156, og_11_34, og_11_42, op_11_42, og_11_43, or_11_43, ow_11_43, og_11_44, or_11_44, ow_11_44, og_11_33, og_11_45, or_11_45, ow_11_45, og_11_32, og_11_48, or_11_48, ow_11_48, og_11_49, og_11_47, or_11_47, ow_11_47, og_11_46, or_11_46, ow_11_46, og_11_50, or_11_50, ow_11_50, og_11_52, or_11_52, ow_11_52, o_is, o_ob, ofs_len11, ↓reduceIte, k_cr, k_ci, k_oR, k_oN, k_aR, k_aN, and_true, true_and, and_self, eq_self, Nat.reduceLT, Nat.reduceLeDiff, Nat.reduceEqDiff, Nat.reduceAdd, Nat.reduceMul, Bool.true_eq_false, Bool.false_eq_true, Nat.add_sub_cancel, Nat.not_lt_zero, Nat.zero_le, k_sub, k_sb1, k_r, k_n, k_ret, k_t1, k_t0, k_nr, k_nn, k_z0, k_z1, k_zb, x_okI, lit_nI, k_in, k_cl, k_lt, k_le, k_eq, k_neg, nI_add, nI_mul, k_clt, k_cgt, k_cle, k_cge, k_ceq, bI_0, k_sh8, ne_eq, Nat.add_eq_zero_iff, Nat.one_ne_zero, Nat.succ_ne_zero, and_false, false_and, not_false_eq_true, not_true_eq_false, ite_true, ite_false, if_true, if_false, sI_uI, sJ_uI, sA_uI, sL_uI, sR_uI, sQ_uI, sI_uJ, sJ_uJ, sA_uJ, sL_uJ, sR_uJ, sQ_uJ, sI_uA, sJ_uA, sA_uA, sL_uA, sR_uA, sQ_uA, sI_uL, sJ_uL, sA_uL, sL_uL, sR_uL, sQ_uL, sI_uR, sJ_uR, sA_uR, sL_uR, sR_uR, sQ_uR, sI_uQ, sJ_uQ, sA_uQ, sL_uQ, sR_uQ, sQ_uQ, bI, ruKd, a_01, h32, h33, h42, h49, e1]
  · simp (disch := omega) only [q_154_0, q_154_1, q_154_4, q_154_7, q_154_8, q_154_9, q_154_12, q_154_15, q_154_16, q_154_17, q_154_20, q_154_21, q_154_24, q_154_25, q_154_28, q_154_31, q_154_32, q_154_35, q_154_36, q_154_39, q_154_40, q_154_43, q_154_44, q_154_45, q_154_48, q_154_49, q_154_52, q_154_53, q_154_56, q_154_59, q_154_60, q_154_63, q_154_64, q_154_67, q_154_68, q_154_71, q_154_72, q_154_73, q_154_76, q_154_77, q_154_78, q_154_81, q_154_82, q_154_83, q_154_86, q_154_87, q_154_90, q_154_91, q_154_94, q_154_95, q_154_98, q_154_99, q_154_100, q_154_101, q_154_104, q_154_105, q_154_106, q_154_109, q_154_110, q_154_113, q_154_114, q_154_117, q_154_118, q_154_119, q_154_122, q_154_123, q_154_124, q_154_127, q_154_128, q_154_129, q_154_132, q_154_133, q_154_134, q_154_137, q_154_138, q_154_139, q_154_142, q_154_143, q_154_144, q_154_145, q_154_146, q_154_147, q_154_150, q_154_151, q_154_152, q_154_155, q_154_156, og_11_34, og_11_42, op_11_42, og_11_43, or_11_43, ow_11_43, og_11_44, or_11_44, ow_11_44, og_11_33, og_11_45, or_11_45, ow_11_45, og_11_32, og_11_48, or_11_48, ow_11_48, og_11_49, og_11_47, or_11_47, ow_11_47, og_11_46, or_11_46, ow_11_46, og_11_50, or_11_50, ow_11_50, og_11_52, or_11_52, ow_11_52, o_is, o_ob, ofs_len11, ↓reduceIte, k_cr, k_ci, k_oR, k_oN, k_aR, k_aN, and_true, true_and, and_self, eq_self, Nat.reduceLT, Nat.reduceLeDiff, Nat.reduceEqDiff, Nat.reduceAdd, Nat.reduceMul, Bool.true_eq_false, Bool.false_eq_true, Nat.add_sub_cancel, Nat.not_lt_zero, Nat.zero_le, k_sub, k_sb1, k_r, k_n, k_ret, k_t1, k_t0, k_nr, k_nn, k_z0, k_z1, k_zb, x_okI, lit_nI, k_in, k_cl, k_lt, k_le, k_eq, k_neg, nI_add, nI_mul, k_clt, k_cgt, k_cle, k_cge, k_ceq, bI_0, k_sh8, ne_eq, Nat.add_eq_zero_iff, Nat.one_ne_zero, Nat.succ_ne_zero, and_false, false_and, not_false_eq_true, not_true_eq_false, ite_true, ite_false, if_true, if_false, sI_uI, sJ_uI, sA_uI, sL_uI, sR_uI, sQ_uI, sI_uJ, sJ_uJ, sA_uJ, sL_uJ, sR_uJ, sQ_uJ, sI_uA, sJ_uA, sA_uA, sL_uA, sR_uA, sQ_uA, sI_uL, sJ_uL, sA_uL, sL_uL, sR_uL, sQ_uL, sI_uR, sJ_uR, sA_uR, sL_uR, sR_uR, sQ_uR, sI_uQ, sJ_uQ, sA_uQ, sL_uQ, sR_uQ, sQ_uQ, bI, ruKd, a_01, h32, h33, h42, h49, e1]
  · simp (disch := omega) only [q_154_0, q_154_1, q_154_4, q_154_7, q_154_8, q_154_9, q_154_12, q_154_15, q_154_16, q_154_17, q_154_20, q_154_21, q_154_24, q_154_25, q_154_28, q_154_31, q_154_32, q_154_35, q_154_36, q_154_39, q_154_40, q_154_43, q_154_44, q_154_45, q_154_48, q_154_49, q_154_52, q_154_53, q_154_56, q_154_59, q_154_60, q_154_63, q_154_64, q_154_67, q_154_68, q_154_71, q_154_72, q_154_73, q_154_76, q_154_77, q_154_78, q_154_81, q_154_82, q_154_83, q_154_86, q_154_87, q_154_90, q_154_91, q_154_94, q_154_95, q_154_98, q_154_99, q_154_100, q_154_101, q_154_104, q_154_105, q_154_106, q_154_109, q_154_110, q_154_113, q_154_114, q_154_117, q_154_118, q_154_119, q_154_122, q_154_123, q_154_124, q_154_127, q_154_128, q_154_129, q_154_132, q_154_133, q_154_134, q_154_137, q_154_138, q_154_139, q_154_142, q_154_143, q_154_144, q_154_145, q_154_146, q_154_147, q_154_150, q_154_151, q_154_152, q_154_155, q_154_156, og_11_34, og_11_42, op_11_42, og_11_43, or_11_43, ow_11_43, og_11_44, or_11_44, ow_11_44, og_11_33, og_11_45, or_11_45, ow_11_45, og_11_32, og_11_48, or_11_48, ow_11_48, og_11_49, og_11_47, or_11_47, ow_11_47, og_11_46, or_11_46, ow_11_46, og_11_50, or_11_50, ow_11_50, og_11_52, or_11_52, ow_11_52, o_is, o_ob, ofs_len11, ↓reduceIte, k_cr, k_ci, k_oR, k_oN, k_aR, k_aN, and_true, true_and, and_self, eq_self, Nat.reduceLT, Nat.reduceLeDiff, Nat.reduceEqDiff, Nat.reduceAdd, Nat.reduceMul, Bool.true_eq_false, Bool.false_eq_true, Nat.add_sub_cancel, Nat.not_lt_zero, Nat.zero_le, k_sub, k_sb1, k_r, k_n, k_ret, k_t1, k_t0, k_nr, k_nn, k_z0, k_z1, k_zb, x_okI, lit_nI, k_in, k_cl, k_lt, k_le, k_eq, k_neg, nI_add, nI_mul, k_clt, k_cgt, k_cle, k_cge, k_ceq, bI_0, k_sh8, ne_eq, Nat.add_eq_zero_iff, Nat.one_ne_zero, Nat.succ_ne_zero, and_false, false_and, not_false_eq_true, not_true_eq_false, ite_true, ite_false, if_true, if_false, sI_uI, sJ_uI, sA_uI, sL_uI, sR_uI, sQ_uI, sI_uJ, sJ_uJ, sA_uJ, sL_uJ, sR_uJ, sQ_uJ, sI_uA, sJ_uA, sA_uA, sL_uA, sR_uA, sQ_uA, sI_uL, sJ_uL, sA_uL, sL_uL, sR_uL, sQ_uL, sI_uR, sJ_uR, sA_uR, sL_uR, sR_uR, sQ_uR, sI_uQ, sJ_uQ, sA_uQ, sL_uQ, sR_uQ, sQ_uQ, bI, ruKd, a_01, h32, h33, h42, h49, e1]
def juB (S : gS) (ky : Bool) (k a : Nat) : Bool := !ky && (decide (sI S 49 - nI a = nI 1) && (decide (sA S 50 a = nI 3) && decide (sA S 52 a = sA S 46 k)))
theorem ru_just (d : Nat) (h : xH) (M : Nat) {S : gS} {k a : Nat} (dr ky : Bool) (h48 : sA S 48 k = nI a) (hk : k < 700) (ha : a ≤ 700) : xrun (d + 4) 154 191 [(1, .ref M), (1, .int (bI dr)), (1, .int (bI ky)), (1, .int (nI k))] [] (oh 11 h M S) = xrun (d + 4) 154 256 [(1, .ref M), (1, .int (bI dr)), (1, .int (bI ky)), (1, .int (nI k))] [] (oh 11 h M (uA S 47 k (bI (juB S ky k a)))) := by
  unfold juB
  cases ky
  · by_cases c1 : sI S 49 - nI a = nI 1
    · by_cases c2 : sA S 50 a = nI 3
      · by_cases c3 : sA S 52 a = sA S 46 k
        · simp (disch := omega) only [q_154_0, q_154_1, q_154_4, q_154_7, q_154_8, q_154_9, q_154_12, q_154_15, q_154_16, q_154_17, q_154_20, q_154_21, q_154_24, q_154_25, q_154_28, q_154_31, q_154_32, q_154_35, q_154_36, q_154_39, q_154_40, q_154_43, q_154_44, q_154_45, q_154_48, q_154_49, q_154_52, q_154_53, q_154_56, q_154_59, q_154_60, q_154_63, q_154_64, q_154_67, q_154_68, q_154_71, q_154_72, q_154_73, q_154_76, q_154_77, q_154_78, q_154_81, q_154_82, q_154_83, q_154_86, q_154_87, q_154_90, q_154_91, q_154_94, q_154_95, q_154_98, q_154_99, q_154_100, q_154_101, q_154_104, q_154_105, q_154_106, q_154_109, q_154_110, q_154_113, q_154_114, q_154_117, q_154_118, q_154_119, q_154_122, q_154_123, q_154_124, q_154_127, q_154_128, q_154_129, q_154_132, q_154_133, q_154_134, q_154_137, q_154_138, q_154_139, q_154_142, q_154_143, q_154_144, q_154_145, q_154_146, q_154_147, q_154_150, q_154_151, q_154_152, q_154_155, q_154_156, q_154_159, q_154_160, q_154_163, q_154_164, q_154_166, q_154_169, q_154_170, q_154_173, q_154_174, q_154_175, q_154_178, q_154_179, q_154_180, q_154_183, q_154_184, q_154_187, q_154_188, q_154_191, q_154_192, q_154_195, q_154_196, q_154_197, q_154_200, q_154_201, q_154_204, q_154_205, q_154_208, q_154_209, q_154_210, q_154_211, q_154_212, q_154_215, q_154_216, q_154_219, q_154_220, q_154_223, q_154_224, q_154_225, q_154_226, q_154_227, q_154_230, q_154_231, q_154_234, q_154_235, q_154_238, q_154_239, q_154_240, q_154_241, q_154_242, q_154_245, q_154_246, q_154_247, q_154_250, q_154_251, q_154_254, q_154_255, og_11_34, og_11_42, op_11_42, og_11_43, or_11_43, ow_11_43, og_11_44, or_11_44, ow_11_44, og_11_33, og_11_45, or_11_45, ow_11_45, og_11_32, og_11_48, or_11_48, ow_11_48, og_11_49, og_11_47, or_11_47, ow_11_47, og_11_46, or_11_46, ow_11_46, og_11_50, or_11_50, ow_11_50, og_11_52, or_11_52, ow_11_52, o_is, o_ob, ofs_len11, ↓reduceIte, k_cr, k_ci, k_oR, k_oN, k_aR, k_aN, and_true, true_and, and_self, eq_self, Nat.reduceLT, Nat.reduceLeDiff, Nat.reduceEqDiff, Nat.reduceAdd, Nat.reduceMul, Bool.true_eq_false, Bool.false_eq_true, Nat.add_sub_cancel, Nat.not_lt_zero, Nat.zero_le, k_sub, k_sb1, k_r, k_n, k_ret, k_t1, k_t0, k_nr, k_nn, k_z0, k_z1, k_zb, x_okI, lit_nI, k_in, k_cl, k_lt, k_le, k_eq, k_neg, nI_add, nI_mul, k_clt, k_cgt, k_cle, k_cge, k_ceq, bI_0, k_sh8, ne_eq, Nat.add_eq_zero_iff, Nat.one_ne_zero, Nat.succ_ne_zero, and_false, false_and, not_false_eq_true, not_true_eq_false, ite_true, ite_false, if_true, if_false, a_01, a_11, bI_f, bI_t, h48, c1, c2, c3, decide_true, Bool.and_self, Bool.not_false]
        · simp (disch := omega) only [q_154_0, q_154_1, q_154_4, q_154_7, q_154_8, q_154_9, q_154_12, q_154_15, q_154_16, q_154_17, q_154_20, q_154_21, q_154_24, q_154_25, q_154_28, q_154_31, q_154_32, q_154_35, q_154_36, q_154_39, q_154_40, q_154_43, q_154_44, q_154_45, q_154_48, q_154_49, q_154_52, q_154_53, q_154_56, q_154_59, q_154_60, q_154_63, q_154_64, q_154_67, q_154_68, q_154_71, q_154_72, q_154_73, q_154_76, q_154_77, q_154_78, q_154_81, q_154_82, q_154_83, q_154_86, q_154_87, q_154_90, q_154_91, q_154_94, q_154_95, q_154_98, q_154_99, q_154_100, q_154_101, q_154_104, q_154_105, q_154_106, q_154_109, q_154_110, q_154_113, q_154_114, q_154_117, q_154_118, q_154_119, q_154_122, q_154_123, q_154_124, q_154_127, q_154_128, q_154_129, q_154_132, q_154_133, q_154_134, q_154_137, q_154_138, q_154_139, q_154_142, q_154_143, q_154_144, q_154_145, q_154_146, q_154_147, q_154_150, q_154_151, q_154_152, q_154_155, q_154_156, q_154_159, q_154_160, q_154_163, q_154_164, q_154_166, q_154_169, q_154_170, q_154_173, q_154_174, q_154_175, q_154_178, q_154_179, q_154_180, q_154_183, q_154_184, q_154_187, q_154_188, q_154_191, q_154_192, q_154_195, q_154_196, q_154_197, q_154_200, q_154_201, q_154_204, q_154_205, q_154_208, q_154_209, q_154_210, q_154_211, q_154_212, q_154_215, q_154_216, q_154_219, q_154_220, q_154_223, q_154_224, q_154_225, q_154_226, q_154_227, q_154_230, q_154_231, q_154_234, q_154_235, q_154_238, q_154_239, q_154_240, q_154_241, q_154_242, q_154_245, q_154_246, q_154_247, q_154_250, q_154_251, q_154_254, q_154_255, og_11_34, og_11_42, op_11_42, og_11_43, or_11_43, ow_11_43, og_11_44, or_11_44, ow_11_44, og_11_33, og_11_45, or_11_45, ow_11_45, og_11_32, og_11_48, or_11_48, ow_11_48, og_11_49, og_11_47, or_11_47, ow_11_47, og_11_46, or_11_46, ow_11_46, og_11_50, or_11_50, ow_11_50, og_11_52, or_11_52, ow_11_52, o_is, o_ob, ofs_len11, ↓reduceIte, k_cr, k_ci, k_oR, k_oN, k_aR, k_aN, and_true, true_and, and_self, eq_self, Nat.reduceLT, Nat.reduceLeDiff, Nat.reduceEqDiff, Nat.reduceAdd, Nat.reduceMul, Bool.true_eq_false, Bool.false_eq_true, Nat.add_sub_cancel, Nat.not_lt_zero, Nat.zero_le, k_sub, k_sb1, k_r, k_n, k_ret, k_t1, k_t0, k_nr, k_nn, k_z0, k_z1, k_zb, x_okI, lit_nI, k_in, k_cl, k_lt, k_le, k_eq, k_neg, nI_add, nI_mul, k_clt, k_cgt, k_cle, k_cge, k_ceq, bI_0, k_sh8, ne_eq, Nat.add_eq_zero_iff, Nat.one_ne_zero, Nat.succ_ne_zero, and_false, false_and, not_false_eq_true, not_true_eq_false, ite_true, ite_false, if_true, if_false, a_01, a_11, bI_f, h48, c1, c2, c3, decide_true, decide_false, Bool.and_false]
      · simp (disch := omega) only [q_154_0, q_154_1, q_154_4, q_154_7, q_154_8, q_154_9, q_154_12, q_154_15, q_154_16, q_154_17, q_154_20, q_154_21, q_154_24, q_154_25, q_154_28, q_154_31, q_154_32, q_154_35, q_154_36, q_154_39, q_154_40, q_154_43, q_154_44, q_154_45, q_154_48, q_154_49, q_154_52, q_154_53, q_154_56, q_154_59, q_154_60, q_154_63, q_154_64, q_154_67, q_154_68, q_154_71, q_154_72, q_154_73, q_154_76, q_154_77, q_154_78, q_154_81, q_154_82, q_154_83, q_154_86, q_154_87, q_154_90, q_154_91, q_154_94, q_154_95, q_154_98, q_154_99, q_154_100, q_154_101, q_154_104, q_154_105, q_154_106, q_154_109, q_154_110, q_154_113, q_154_114, q_154_117, q_154_118, q_154_119, q_154_122, q_154_123, q_154_124, q_154_127, q_154_128, q_154_129, q_154_132, q_154_133, q_154_134, q_154_137, q_154_138, q_154_139, q_154_142, q_154_143, q_154_144, q_154_145, q_154_146, q_154_147, q_154_150, q_154_151, q_154_152, q_154_155, q_154_156, q_154_159, q_154_160, q_154_163, q_154_164, q_154_166, q_154_169, q_154_170, q_154_173, q_154_174, q_154_175, q_154_178, q_154_179, q_154_180, q_154_183, q_154_184, q_154_187, q_154_188, q_154_191, q_154_192, q_154_195, q_154_196, q_154_197, q_154_200, q_154_201, q_154_204, q_154_205, q_154_208, q_154_209, q_154_210, q_154_211, q_154_212, q_154_215, q_154_216, q_154_219, q_154_220, q_154_223, q_154_224, q_154_225, q_154_226, q_154_227, q_154_230, q_154_231, q_154_234, q_154_235, q_154_238, q_154_239, q_154_240, q_154_241, q_154_242, q_154_245, q_154_246, q_154_247, q_154_250, q_154_251, q_154_254, q_154_255, og_11_34, og_11_42, op_11_42, og_11_43, or_11_43, ow_11_43, og_11_44, or_11_44, ow_11_44, og_11_33, og_11_45, or_11_45, ow_11_45, og_11_32, og_11_48, or_11_48, ow_11_48, og_11_49, og_11_47, or_11_47, ow_11_47, og_11_46, or_11_46, ow_11_46, og_11_50, or_11_50, ow_11_50, og_11_52, or_11_52, ow_11_52, o_is, o_ob, ofs_len11, ↓reduceIte, k_cr, k_ci, k_oR, k_oN, k_aR, k_aN, and_true, true_and, and_self, eq_self, Nat.reduceLT, Nat.reduceLeDiff, Nat.reduceEqDiff, Nat.reduceAdd, Nat.reduceMul, Bool.true_eq_false, Bool.false_eq_true, Nat.add_sub_cancel, Nat.not_lt_zero, Nat.zero_le, k_sub, k_sb1, k_r, k_n, k_ret, k_t1, k_t0, k_nr, k_nn, k_z0, k_z1, k_zb, x_okI, lit_nI, k_in, k_cl, k_lt, k_le, k_eq, k_neg, nI_add, nI_mul, k_clt, k_cgt, k_cle, k_cge, k_ceq, bI_0, k_sh8, ne_eq, Nat.add_eq_zero_iff, Nat.one_ne_zero, Nat.succ_ne_zero, and_false, false_and, not_false_eq_true, not_true_eq_false, ite_true, ite_false, if_true, if_false, a_01, a_11, bI_f, h48, c1, c2, decide_true, decide_false, Bool.and_false, Bool.false_and]
    · simp (disch := omega) only [q_154_0, q_154_1, q_154_4, q_154_7, q_154_8, q_154_9, q_154_12, q_154_15, q_154_16, q_154_17, q_154_20, q_154_21, q_154_24, q_154_25, q_154_28, q_154_31, q_154_32, q_154_35, q_154_36, q_154_39, q_154_40, q_154_43, q_154_44, q_154_45, q_154_48, q_154_49, q_154_52, q_154_53, q_154_56, q_154_59, q_154_60, q_154_63, q_154_64, q_154_67, q_154_68, q_154_71, q_154_72, q_154_73, q_154_76, q_154_77, q_154_78, q_154_81, q_154_82, q_154_83, q_154_86, q_154_87, q_154_90, q_154_91, q_154_94, q_154_95, q_154_98, q_154_99, q_154_100, q_154_101, q_154_104, q_154_105, q_154_106, q_154_109, q_154_110, q_154_113, q_154_114, q_154_117, q_154_118, q_154_119, q_154_122, q_154_123, q_154_124, q_154_127, q_154_128, q_154_129, q_154_132, q_154_133, q_154_134, q_154_137, q_154_138, q_154_139, q_154_142, q_154_143, q_154_144, q_154_145, q_154_146, q_154_147, q_154_150, q_154_151, q_154_152, q_154_155, q_154_156, q_154_159, q_154_160, q_154_163, q_154_164, q_154_166, q_154_169, q_154_170, q_154_173, q_154_174, q_154_175, q_154_178, q_154_179, q_154_180, q_154_183, q_154_184, q_154_187, q_154_188, q_154_191, q_154_192, q_154_195, q_154_196, q_154_197, q_154_200, q_154_201, q_154_204, q_154_205, q_154_208, q_154_209, q_154_210, q_154_211, q_154_212, q_154_215, q_154_216, q_154_219, q_154_220, q_154_223, q_154_224, q_154_225, q_154_226, q_154_227, q_154_230, q_154_231, q_154_234, q_154_235, q_154_238, q_154_239, q_154_240, q_154_241, q_154_242, q_154_245, q_154_246, q_154_247, q_154_250, q_154_251, q_154_254, q_154_255, og_11_34, og_11_42, op_11_42, og_11_43, or_11_43, ow_11_43, og_11_44, or_11_44, ow_11_44, og_11_33, og_11_45, or_11_45, ow_11_45, og_11_32, og_11_48, or_11_48, ow_11_48, og_11_49, og_11_47, or_11_47, ow_11_47, og_11_46, or_11_46, ow_11_46, og_11_50, or_11_50, ow_11_50, og_11_52, or_11_52, ow_11_52, o_is, o_ob, ofs_len11, ↓reduceIte, k_cr, k_ci, k_oR, k_oN, k_aR, k_aN, and_true, true_and, and_self, eq_self, Nat.reduceLT, Nat.reduceLeDiff, Nat.reduceEqDiff, Nat.reduceAdd, Nat.reduceMul, Bool.true_eq_false, Bool.false_eq_true, Nat.add_sub_cancel, Nat.not_lt_zero, Nat.zero_le, k_sub, k_sb1, k_r, k_n, k_ret, k_t1, k_t0, k_nr, k_nn, k_z0, k_z1, k_zb, x_okI, lit_nI, k_in, k_cl, k_lt, k_le, k_eq, k_neg, nI_add, nI_mul, k_clt, k_cgt, k_cle, k_cge, k_ceq, bI_0, k_sh8, ne_eq, Nat.add_eq_zero_iff, Nat.one_ne_zero, Nat.succ_ne_zero, and_false, false_and, not_false_eq_true, not_true_eq_false, ite_true, ite_false, if_true, if_false, a_01, a_11, bI_f, h48, c1, decide_false, Bool.and_false, Bool.false_and]
  · simp (disch := omega) only [q_154_0, q_154_1, q_154_4, q_154_7, q_154_8, q_154_9, q_154_12, q_154_15, q_154_16, q_154_17, q_154_20, q_154_21, q_154_24, q_154_25, q_154_28, q_154_31, q_154_32, q_154_35, q_154_36, q_154_39, q_154_40, q_154_43, q_154_44, q_154_45, q_154_48, q_154_49, q_154_52, q_154_53, q_154_56, q_154_59, q_154_60, q_154_63, q_154_64, q_154_67, q_154_68, q_154_71, q_154_72, q_154_73, q_154_76, q_154_77, q_154_78, q_154_81, q_154_82, q_154_83, q_154_86, q_154_87, q_154_90, q_154_91, q_154_94, q_154_95, q_154_98, q_154_99, q_154_100, q_154_101, q_154_104, q_154_105, q_154_106, q_154_109, q_154_110, q_154_113, q_154_114, q_154_117, q_154_118, q_154_119, q_154_122, q_154_123, q_154_124, q_154_127, q_154_128, q_154_129, q_154_132, q_154_133, q_154_134, q_154_137, q_154_138, q_154_139, q_154_142, q_154_143, q_154_144, q_154_145, q_154_146, q_154_147, q_154_150, q_154_151, q_154_152, q_154_155, q_154_156, q_154_159, q_154_160, q_154_163, q_154_164, q_154_166, q_154_169, q_154_170, q_154_173, q_154_174, q_154_175, q_154_178, q_154_179, q_154_180, q_154_183, q_154_184, q_154_187, q_154_188, q_154_191, q_154_192, q_154_195, q_154_196, q_154_197, q_154_200, q_154_201, q_154_204, q_154_205, q_154_208, q_154_209, q_154_210, q_154_211, q_154_212, q_154_215, q_154_216, q_154_219, q_154_220, q_154_223, q_154_224, q_154_225, q_154_226, q_154_227, q_154_230, q_154_231, q_154_234, q_154_235, q_154_238, q_154_239, q_154_240, q_154_241, q_154_242, q_154_245, q_154_246, q_154_247, q_154_250, q_154_251, q_154_254, q_154_255, og_11_34, og_11_42, op_11_42, og_11_43, or_11_43, ow_11_43, og_11_44, or_11_44, ow_11_44, og_11_33, og_11_45, or_11_45, ow_11_45, og_11_32, og_11_48, or_11_48, ow_11_48, og_11_49, og_11_47, or_11_47, ow_11_47, og_11_46, or_11_46, ow_11_46, og_11_50, or_11_50, ow_11_50, og_11_52, or_11_52, ow_11_52, o_is, o_ob, ofs_len11, ↓reduceIte, k_cr, k_ci, k_oR, k_oN, k_aR, k_aN, and_true, true_and, and_self, eq_self, Nat.reduceLT, Nat.reduceLeDiff, Nat.reduceEqDiff, Nat.reduceAdd, Nat.reduceMul, Bool.true_eq_false, Bool.false_eq_true, Nat.add_sub_cancel, Nat.not_lt_zero, Nat.zero_le, k_sub, k_sb1, k_r, k_n, k_ret, k_t1, k_t0, k_nr, k_nn, k_z0, k_z1, k_zb, x_okI, lit_nI, k_in, k_cl, k_lt, k_le, k_eq, k_neg, nI_add, nI_mul, k_clt, k_cgt, k_cle, k_cge, k_ceq, bI_0, k_sh8, ne_eq, Nat.add_eq_zero_iff, Nat.one_ne_zero, Nat.succ_ne_zero, and_false, false_and, not_false_eq_true, not_true_eq_false, ite_true, ite_false, if_true, if_false, a_01, a_11, bI_f, bI_t, Bool.not_true, Bool.false_and]
theorem pWd_ne {p : pP} {i : Nat} {v w : Int64} (h : pWd p i v = true) (hne : ¬ v = w) : pWd p i w = false := by
  unfold pWd at h ⊢
  rw [Bool.and_eq_true, decide_eq_true_eq, decide_eq_true_eq] at h
  rw [h.2, decide_eq_false hne, Bool.and_false]
theorem ru_0 (d : Nat) (h : xH) (M : Nat) {t : Nat → Int32} {n : Nat} {S : gS} {i : Nat} (hv : rV t n S i) (h34 : sI S 34 = -nI 1) (hd : pWd (pcs t n) i 1685221232 = false) (hk : pWd (pcs t n) i 7038329 = true ∨ pNm (pcs t n) i = true) : xm (d + 5) 154 [.ref M] (oh 11 h M S) = xrun (d + 4) 154 72 [(1, .ref M), (1, .int (bI false)), (1, .int (bI (pWd (pcs t n) i 7038329))), (0, .null)] [] (oh 11 h M S) := by
  have e1 := m_isWordNow (d + 3) h M S 1685221232
  have e2 := m_isWordNow (d + 3) h M S 7038329
  have e3 := m_isNameNow (d + 2) h M S
  rw [wdN_V hv, hd] at e1
  rw [wdN_V hv] at e2
  rw [nmN_V hv] at e3
  rw [E_154 _ _ _ rfl]
  cases hky : pWd (pcs t n) i 7038329
  · rw [hky] at e2 hk
    have hn : pNm (pcs t n) i = true := by
      rcases hk with q | q
      · cases q
      · exact q
    rw [hn] at e3
    simp (disch := omega) only [q_154_0, q_154_1, q_154_4, q_154_7, q_154_8, q_154_9, q_154_12, q_154_15, q_154_16, q_154_17, q_154_20, q_154_21, q_154_24, q_154_25, q_154_28, q_154_31, q_154_32, q_154_35, q_154_36, q_154_39, q_154_40, q_154_43, q_154_44, q_154_45, q_154_48, q_154_49, q_154_52, q_154_53, q_154_56, q_154_59, q_154_60, q_154_63, q_154_64, q_154_67, q_154_68, q_154_71, og_11_34, og_11_42, op_11_42, og_11_43, or_11_43, ow_11_43, og_11_44, or_11_44, ow_11_44, og_11_33, og_11_45, or_11_45, ow_11_45, og_11_32, og_11_48, or_11_48, ow_11_48, og_11_49, og_11_47, or_11_47, ow_11_47, og_11_46, or_11_46, ow_11_46, og_11_50, or_11_50, ow_11_50, og_11_52, or_11_52, ow_11_52, o_is, o_ob, ofs_len11, ↓reduceIte, k_cr, k_ci, k_oR, k_oN, k_aR, k_aN, and_true, true_and, and_self, eq_self, Nat.reduceLT, Nat.reduceLeDiff, Nat.reduceEqDiff, Nat.reduceAdd, Nat.reduceMul, Bool.true_eq_false, Bool.false_eq_true, Nat.add_sub_cancel, Nat.not_lt_zero, Nat.zero_le, k_sub, k_sb1, k_r, k_n, k_ret, k_t1, k_t0, k_nr, k_nn, k_z0, k_z1, k_zb, x_okI, lit_nI, k_in, k_cl, k_lt, k_le, k_eq, k_neg, nI_add, nI_mul, k_clt, k_cgt, k_cle, k_cge, k_ceq, bI_0, k_sh8, ne_eq, Nat.add_eq_zero_iff, Nat.one_ne_zero, Nat.succ_ne_zero, and_false, false_and, not_false_eq_true, not_true_eq_false, ite_true, ite_false, if_true, if_false, bI_f, bI_t, e1, e2, e3, h34]
  · rw [hky] at e2
    simp (disch := omega) only [q_154_0, q_154_1, q_154_4, q_154_7, q_154_8, q_154_9, q_154_12, q_154_15, q_154_16, q_154_17, q_154_20, q_154_21, q_154_24, q_154_25, q_154_28, q_154_31, q_154_32, q_154_35, q_154_36, q_154_39, q_154_40, q_154_43, q_154_44, q_154_45, q_154_48, q_154_49, q_154_52, q_154_53, q_154_56, q_154_59, q_154_60, q_154_63, q_154_64, q_154_67, q_154_68, q_154_71, og_11_34, og_11_42, op_11_42, og_11_43, or_11_43, ow_11_43, og_11_44, or_11_44, ow_11_44, og_11_33, og_11_45, or_11_45, ow_11_45, og_11_32, og_11_48, or_11_48, ow_11_48, og_11_49, og_11_47, or_11_47, ow_11_47, og_11_46, or_11_46, ow_11_46, og_11_50, or_11_50, ow_11_50, og_11_52, or_11_52, ow_11_52, o_is, o_ob, ofs_len11, ↓reduceIte, k_cr, k_ci, k_oR, k_oN, k_aR, k_aN, and_true, true_and, and_self, eq_self, Nat.reduceLT, Nat.reduceLeDiff, Nat.reduceEqDiff, Nat.reduceAdd, Nat.reduceMul, Bool.true_eq_false, Bool.false_eq_true, Nat.add_sub_cancel, Nat.not_lt_zero, Nat.zero_le, k_sub, k_sb1, k_r, k_n, k_ret, k_t1, k_t0, k_nr, k_nn, k_z0, k_z1, k_zb, x_okI, lit_nI, k_in, k_cl, k_lt, k_le, k_eq, k_neg, nI_add, nI_mul, k_clt, k_cgt, k_cle, k_cge, k_ceq, bI_0, k_sh8, ne_eq, Nat.add_eq_zero_iff, Nat.one_ne_zero, Nat.succ_ne_zero, and_false, false_and, not_false_eq_true, not_true_eq_false, ite_true, ite_false, if_true, if_false, bI_f, bI_t, e1, e2, h34]
theorem ru_X (d : Nat) (h : xH) (M : Nat) {t : Nat → Int32} {n : Nat} {S : gS} {i : Nat} (h7 : n ≤ 700) (hv : rV t n S i) (h34 : sI S 34 = -nI 1) (hd : pWd (pcs t n) i 1685221232 = false) (hk : pWd (pcs t n) i 7038329 = false) (hn : pNm (pcs t n) i = false) : xm (d + 5) 154 [.ref M] (oh 11 h M S) = some (none, oh 11 h M (uI S 34 (nI ((pcs t n).2.1 i)))) := by
  have e1 := m_isWordNow (d + 3) h M S 1685221232
  have e2 := m_isWordNow (d + 3) h M S 7038329
  have e3 := m_isNameNow (d + 2) h M S
  have e4 := m_failR (d + 3) h M hv h34
  have e5 := place_ne h7 (t := t) i
  rw [wdN_V hv, hd] at e1
  rw [wdN_V hv, hk] at e2
  rw [nmN_V hv, hn] at e3
  rw [E_154 _ _ _ rfl]
  simp (disch := omega) only [q_154_0, q_154_1, q_154_4, q_154_7, q_154_8, q_154_9, q_154_12, q_154_15, q_154_16, q_154_17, q_154_20, q_154_21, q_154_24, q_154_25, q_154_28, q_154_31, q_154_32, q_154_35, q_154_36, q_154_39, q_154_40, q_154_43, q_154_44, q_154_45, q_154_48, q_154_49, q_154_52, q_154_53, q_154_56, q_154_59, q_154_60, q_154_63, q_154_64, q_154_67, q_154_68, q_154_71, og_11_34, og_11_42, op_11_42, og_11_43, or_11_43, ow_11_43, og_11_44, or_11_44, ow_11_44, og_11_33, og_11_45, or_11_45, ow_11_45, og_11_32, og_11_48, or_11_48, ow_11_48, og_11_49, og_11_47, or_11_47, ow_11_47, og_11_46, or_11_46, ow_11_46, og_11_50, or_11_50, ow_11_50, og_11_52, or_11_52, ow_11_52, o_is, o_ob, ofs_len11, ↓reduceIte, k_cr, k_ci, k_oR, k_oN, k_aR, k_aN, and_true, true_and, and_self, eq_self, Nat.reduceLT, Nat.reduceLeDiff, Nat.reduceEqDiff, Nat.reduceAdd, Nat.reduceMul, Bool.true_eq_false, Bool.false_eq_true, Nat.add_sub_cancel, Nat.not_lt_zero, Nat.zero_le, k_sub, k_sb1, k_r, k_n, k_ret, k_t1, k_t0, k_nr, k_nn, k_z0, k_z1, k_zb, x_okI, lit_nI, k_in, k_cl, k_lt, k_le, k_eq, k_neg, nI_add, nI_mul, k_clt, k_cgt, k_cle, k_cge, k_ceq, bI_0, k_sh8, ne_eq, Nat.add_eq_zero_iff, Nat.one_ne_zero, Nat.succ_ne_zero, and_false, false_and, not_false_eq_true, not_true_eq_false, ite_true, ite_false, if_true, if_false, sI_uI, sJ_uI, sA_uI, sL_uI, sR_uI, sQ_uI, sI_uJ, sJ_uJ, sA_uJ, sL_uJ, sR_uJ, sQ_uJ, sI_uA, sJ_uA, sA_uA, sL_uA, sR_uA, sQ_uA, sI_uL, sJ_uL, sA_uL, sL_uL, sR_uL, sQ_uL, sI_uR, sJ_uR, sA_uR, sL_uR, sR_uR, sQ_uR, sI_uQ, sJ_uQ, sA_uQ, sL_uQ, sR_uQ, sQ_uQ, bI_f, bI_t, e1, e2, e3, e4, e5]
theorem ru_1 (d : Nat) (h : xH) (M : Nat) {t : Nat → Int32} {n : Nat} {S : gS} {i : Nat} (h7 : n ≤ 700) (hv : rV t n S i) (h34 : sI S 34 = -nI 1) (hd : pWd (pcs t n) i 1685221232 = true) (hn : pNm (pcs t n) (i + 1) = true) : xm (d + 5) 154 [.ref M] (oh 11 h M S) = xrun (d + 4) 154 72 [(1, .ref M), (1, .int (bI true)), (1, .int (bI false)), (0, .null)] [] (oh 11 h M (rdN S n (psF t n (i + 1)))) := by
  have e1 := m_isWordNow (d + 3) h M S 1685221232
  have e2 := m_isWordNow (d + 3) h M S 7038329
  have e4 := m_readR (d + 2) h M h7 hv
  have v1 := hv.read
  have h34' : sI (rdN S n (psF t n (i + 1))) 34 = -nI 1 := h34
  generalize rdN S n (psF t n (i + 1)) = S1 at *
  have e5 := m_isNameNow (d + 2) h M S1
  rw [wdN_V hv, hd] at e1
  rw [wdN_V hv, pWd_ne hd (by decide)] at e2
  rw [nmN_V v1, hn] at e5
  rw [E_154 _ _ _ rfl]
  simp (disch := omega) only [q_154_0, q_154_1, q_154_4, q_154_7, q_154_8, q_154_9, q_154_12, q_154_15, q_154_16, q_154_17, q_154_20, q_154_21, q_154_24, q_154_25, q_154_28, q_154_31, q_154_32, q_154_35, q_154_36, q_154_39, q_154_40, q_154_43, q_154_44, q_154_45, q_154_48, q_154_49, q_154_52, q_154_53, q_154_56, q_154_59, q_154_60, q_154_63, q_154_64, q_154_67, q_154_68, q_154_71, og_11_34, og_11_42, op_11_42, og_11_43, or_11_43, ow_11_43, og_11_44, or_11_44, ow_11_44, og_11_33, og_11_45, or_11_45, ow_11_45, og_11_32, og_11_48, or_11_48, ow_11_48, og_11_49, og_11_47, or_11_47, ow_11_47, og_11_46, or_11_46, ow_11_46, og_11_50, or_11_50, ow_11_50, og_11_52, or_11_52, ow_11_52, o_is, o_ob, ofs_len11, ↓reduceIte, k_cr, k_ci, k_oR, k_oN, k_aR, k_aN, and_true, true_and, and_self, eq_self, Nat.reduceLT, Nat.reduceLeDiff, Nat.reduceEqDiff, Nat.reduceAdd, Nat.reduceMul, Bool.true_eq_false, Bool.false_eq_true, Nat.add_sub_cancel, Nat.not_lt_zero, Nat.zero_le, k_sub, k_sb1, k_r, k_n, k_ret, k_t1, k_t0, k_nr, k_nn, k_z0, k_z1, k_zb, x_okI, lit_nI, k_in, k_cl, k_lt, k_le, k_eq, k_neg, nI_add, nI_mul, k_clt, k_cgt, k_cle, k_cge, k_ceq, bI_0, k_sh8, ne_eq, Nat.add_eq_zero_iff, Nat.one_ne_zero, Nat.succ_ne_zero, and_false, false_and, not_false_eq_true, not_true_eq_false, ite_true, ite_false, if_true, if_false, bI_f, bI_t, e1, e2, e4, e5, h34, h34']
theorem ru_1X (d : Nat) (h : xH) (M : Nat) {t : Nat → Int32} {n : Nat} {S : gS} {i : Nat} (h7 : n ≤ 700) (hv : rV t n S i) (h34 : sI S 34 = -nI 1) (hd : pWd (pcs t n) i 1685221232 = true) (hn : pNm (pcs t n) (i + 1) = false) : xm (d + 5) 154 [.ref M] (oh 11 h M S) = some (none, oh 11 h M (uI (rdN S n (psF t n (i + 1))) 34 (nI ((pcs t n).2.1 (i + 1))))) := by
  have e1 := m_isWordNow (d + 3) h M S 1685221232
  have e2 := m_isWordNow (d + 3) h M S 7038329
  have e4 := m_readR (d + 2) h M h7 hv
  have v1 := hv.read
  have h34' : sI (rdN S n (psF t n (i + 1))) 34 = -nI 1 := h34
  generalize rdN S n (psF t n (i + 1)) = S1 at *
  have e5 := m_isNameNow (d + 2) h M S1
  have e6 := m_failR (d + 3) h M v1 h34'
  have e7 := place_ne h7 (t := t) (i + 1)
  rw [wdN_V hv, hd] at e1
  rw [wdN_V hv, pWd_ne hd (by decide)] at e2
  rw [nmN_V v1, hn] at e5
  rw [E_154 _ _ _ rfl]
  simp (disch := omega) only [q_154_0, q_154_1, q_154_4, q_154_7, q_154_8, q_154_9, q_154_12, q_154_15, q_154_16, q_154_17, q_154_20, q_154_21, q_154_24, q_154_25, q_154_28, q_154_31, q_154_32, q_154_35, q_154_36, q_154_39, q_154_40, q_154_43, q_154_44, q_154_45, q_154_48, q_154_49, q_154_52, q_154_53, q_154_56, q_154_59, q_154_60, q_154_63, q_154_64, q_154_67, q_154_68, q_154_71, og_11_34, og_11_42, op_11_42, og_11_43, or_11_43, ow_11_43, og_11_44, or_11_44, ow_11_44, og_11_33, og_11_45, or_11_45, ow_11_45, og_11_32, og_11_48, or_11_48, ow_11_48, og_11_49, og_11_47, or_11_47, ow_11_47, og_11_46, or_11_46, ow_11_46, og_11_50, or_11_50, ow_11_50, og_11_52, or_11_52, ow_11_52, o_is, o_ob, ofs_len11, ↓reduceIte, k_cr, k_ci, k_oR, k_oN, k_aR, k_aN, and_true, true_and, and_self, eq_self, Nat.reduceLT, Nat.reduceLeDiff, Nat.reduceEqDiff, Nat.reduceAdd, Nat.reduceMul, Bool.true_eq_false, Bool.false_eq_true, Nat.add_sub_cancel, Nat.not_lt_zero, Nat.zero_le, k_sub, k_sb1, k_r, k_n, k_ret, k_t1, k_t0, k_nr, k_nn, k_z0, k_z1, k_zb, x_okI, lit_nI, k_in, k_cl, k_lt, k_le, k_eq, k_neg, nI_add, nI_mul, k_clt, k_cgt, k_cle, k_cge, k_ceq, bI_0, k_sh8, ne_eq, Nat.add_eq_zero_iff, Nat.one_ne_zero, Nat.succ_ne_zero, and_false, false_and, not_false_eq_true, not_true_eq_false, ite_true, ite_false, if_true, if_false, sI_uI, sJ_uI, sA_uI, sL_uI, sR_uI, sQ_uI, sI_uJ, sJ_uJ, sA_uJ, sL_uJ, sR_uJ, sQ_uJ, sI_uA, sJ_uA, sA_uA, sL_uA, sR_uA, sQ_uA, sI_uL, sJ_uL, sA_uL, sL_uL, sR_uL, sQ_uL, sI_uR, sJ_uR, sA_uR, sL_uR, sR_uR, sQ_uR, sI_uQ, sJ_uQ, sA_uQ, sL_uQ, sR_uQ, sQ_uQ, bI_f, bI_t, e1, e2, e4, e5, e6, e7, h34, h34']
theorem ru_256 {d : Nat} {h : xH} {M : Nat} {S S' : gS} {dr ky : Int32} {k : Int32} (e : xm (d + 4) 153 [.ref M, .int (nI 59)] (oh 11 h M S) = some (none, oh 11 h M S')) : xrun (d + 4) 154 256 [(1, .ref M), (1, .int dr), (1, .int ky), (1, .int k)] [] (oh 11 h M S) = some (none, oh 11 h M S') := by
  simp (disch := omega) only [q_154_256, q_154_257, q_154_259, q_154_262, og_11_34, og_11_42, op_11_42, og_11_43, or_11_43, ow_11_43, og_11_44, or_11_44, ow_11_44, og_11_33, og_11_45, or_11_45, ow_11_45, og_11_32, og_11_48, or_11_48, ow_11_48, og_11_49, og_11_47, or_11_47, ow_11_47, og_11_46, or_11_46, ow_11_46, og_11_50, or_11_50, ow_11_50, og_11_52, or_11_52, ow_11_52, o_is, o_ob, ofs_len11, ↓reduceIte, k_cr, k_ci, k_oR, k_oN, k_aR, k_aN, and_true, true_and, and_self, eq_self, Nat.reduceLT, Nat.reduceLeDiff, Nat.reduceEqDiff, Nat.reduceAdd, Nat.reduceMul, Bool.true_eq_false, Bool.false_eq_true, Nat.add_sub_cancel, Nat.not_lt_zero, Nat.zero_le, k_sub, k_sb1, k_r, k_n, k_ret, k_t1, k_t0, k_nr, k_nn, k_z0, k_z1, k_zb, x_okI, lit_nI, k_in, k_cl, k_lt, k_le, k_eq, k_neg, nI_add, nI_mul, k_clt, k_cgt, k_cle, k_cge, k_ceq, bI_0, k_sh8, ne_eq, Nat.add_eq_zero_iff, Nat.one_ne_zero, Nat.succ_ne_zero, and_false, false_and, not_false_eq_true, not_true_eq_false, ite_true, ite_false, if_true, if_false, e]
theorem ru_dr {d : Nat} {h : xH} {M : Nat} {S : gS} {ky : Int32} {k : Int32} : xrun (d + 4) 154 159 [(1, .ref M), (1, .int (bI true)), (1, .int ky), (1, .int k)] [] (oh 11 h M S) = xrun (d + 4) 154 256 [(1, .ref M), (1, .int (bI true)), (1, .int ky), (1, .int k)] [] (oh 11 h M S) := by
  simp (disch := omega) only [q_154_0, q_154_1, q_154_4, q_154_7, q_154_8, q_154_9, q_154_12, q_154_15, q_154_16, q_154_17, q_154_20, q_154_21, q_154_24, q_154_25, q_154_28, q_154_31, q_154_32, q_154_35, q_154_36, q_154_39, q_154_40, q_154_43, q_154_44, q_154_45, q_154_48, q_154_49, q_154_52, q_154_53, q_154_56, q_154_59, q_154_60, q_154_63, q_154_64, q_154_67, q_154_68, q_154_71, q_154_72, q_154_73, q_154_76, q_154_77, q_154_78, q_154_81, q_154_82, q_154_83, q_154_86, q_154_87, q_154_90, q_154_91, q_154_94, q_154_95, q_154_98, q_154_99, q_154_100, q_154_101, q_154_104, q_154_105, q_154_106, q_154_109, q_154_110, q_154_113, q_154_114, q_154_117, q_154_118, q_154_119, q_154_122, q_154_123, q_154_124, q_154_127, q_154_128, q_154_129, q_154_132, q_154_133, q_154_134, q_154_137, q_154_138, q_154_139, q_154_142, q_154_143, q_154_144, q_154_145, q_154_146, q_154_147, q_154_150, q_154_151, q_154_152, q_154_155, q_154_156, q_154_159, q_154_160, q_154_163, q_154_164, q_154_166, q_154_169, q_154_170, q_154_173, q_154_174, q_154_175, q_154_178, q_154_179, q_154_180, q_154_183, q_154_184, q_154_187, q_154_188, q_154_191, q_154_192, q_154_195, q_154_196, q_154_197, q_154_200, q_154_201, q_154_204, q_154_205, q_154_208, q_154_209, q_154_210, q_154_211, q_154_212, q_154_215, q_154_216, q_154_219, q_154_220, q_154_223, q_154_224, q_154_225, q_154_226, q_154_227, q_154_230, q_154_231, q_154_234, q_154_235, q_154_238, q_154_239, q_154_240, q_154_241, q_154_242, q_154_245, q_154_246, q_154_247, q_154_250, q_154_251, q_154_254, q_154_255, og_11_34, og_11_42, op_11_42, og_11_43, or_11_43, ow_11_43, og_11_44, or_11_44, ow_11_44, og_11_33, og_11_45, or_11_45, ow_11_45, og_11_32, og_11_48, or_11_48, ow_11_48, og_11_49, og_11_47, or_11_47, ow_11_47, og_11_46, or_11_46, ow_11_46, og_11_50, or_11_50, ow_11_50, og_11_52, or_11_52, ow_11_52, o_is, o_ob, ofs_len11, ↓reduceIte, k_cr, k_ci, k_oR, k_oN, k_aR, k_aN, and_true, true_and, and_self, eq_self, Nat.reduceLT, Nat.reduceLeDiff, Nat.reduceEqDiff, Nat.reduceAdd, Nat.reduceMul, Bool.true_eq_false, Bool.false_eq_true, Nat.add_sub_cancel, Nat.not_lt_zero, Nat.zero_le, k_sub, k_sb1, k_r, k_n, k_ret, k_t1, k_t0, k_nr, k_nn, k_z0, k_z1, k_zb, x_okI, lit_nI, k_in, k_cl, k_lt, k_le, k_eq, k_neg, nI_add, nI_mul, k_clt, k_cgt, k_cle, k_cge, k_ceq, bI_0, k_sh8, ne_eq, Nat.add_eq_zero_iff, Nat.one_ne_zero, Nat.succ_ne_zero, and_false, false_and, not_false_eq_true, not_true_eq_false, ite_true, ite_false, if_true, if_false, bI_t]
theorem ru_eq (d : Nat) (h : xH) (M : Nat) {t : Nat → Int32} {n : Nat} {S S' : gS} {i k : Nat} {ky : Int32} (h7 : n ≤ 700) (hk : k < 700) (hv : rV t n S i) (h34 : sI S 34 = -nI 1) (hc : (pcs t n).1 i = nI 61) (e : xm (d + 4) 155 [.ref M] (oh 11 h M (uA (rdN S n (psF t n (i + 1))) 46 k (nI ((pcs t n).2.1 (i + 1))))) = some (none, oh 11 h M S')) : xrun (d + 4) 154 159 [(1, .ref M), (1, .int (bI false)), (1, .int ky), (1, .int (nI k))] [] (oh 11 h M S) = xrun (d + 4) 154 191 [(1, .ref M), (1, .int (bI false)), (1, .int ky), (1, .int (nI k))] [] (oh 11 h M S') := by
  have e1 := m_signO (d + 1) h M h7 hv h34 hc
  have v1 := hv.read
  have h34' : sI (rdN S n (psF t n (i + 1))) 34 = -nI 1 := h34
  generalize rdN S n (psF t n (i + 1)) = S1 at *
  have h32 := v1.2.2.2.2.1
  simp (disch := omega) only [q_154_0, q_154_1, q_154_4, q_154_7, q_154_8, q_154_9, q_154_12, q_154_15, q_154_16, q_154_17, q_154_20, q_154_21, q_154_24, q_154_25, q_154_28, q_154_31, q_154_32, q_154_35, q_154_36, q_154_39, q_154_40, q_154_43, q_154_44, q_154_45, q_154_48, q_154_49, q_154_52, q_154_53, q_154_56, q_154_59, q_154_60, q_154_63, q_154_64, q_154_67, q_154_68, q_154_71, q_154_72, q_154_73, q_154_76, q_154_77, q_154_78, q_154_81, q_154_82, q_154_83, q_154_86, q_154_87, q_154_90, q_154_91, q_154_94, q_154_95, q_154_98, q_154_99, q_154_100, q_154_101, q_154_104, q_154_105, q_154_106, q_154_109, q_154_110, q_154_113, q_154_114, q_154_117, q_154_118, q_154_119, q_154_122, q_154_123, q_154_124, q_154_127, q_154_128, q_154_129, q_154_132, q_154_133, q_154_134, q_154_137, q_154_138, q_154_139, q_154_142, q_154_143, q_154_144, q_154_145, q_154_146, q_154_147, q_154_150, q_154_151, q_154_152, q_154_155, q_154_156, q_154_159, q_154_160, q_154_163, q_154_164, q_154_166, q_154_169, q_154_170, q_154_173, q_154_174, q_154_175, q_154_178, q_154_179, q_154_180, q_154_183, q_154_184, q_154_187, q_154_188, og_11_34, og_11_42, op_11_42, og_11_43, or_11_43, ow_11_43, og_11_44, or_11_44, ow_11_44, og_11_33, og_11_45, or_11_45, ow_11_45, og_11_32, og_11_48, or_11_48, ow_11_48, og_11_49, og_11_47, or_11_47, ow_11_47, og_11_46, or_11_46, ow_11_46, og_11_50, or_11_50, ow_11_50, og_11_52, or_11_52, ow_11_52, o_is, o_ob, ofs_len11, ↓reduceIte, k_cr, k_ci, k_oR, k_oN, k_aR, k_aN, and_true, true_and, and_self, eq_self, Nat.reduceLT, Nat.reduceLeDiff, Nat.reduceEqDiff, Nat.reduceAdd, Nat.reduceMul, Bool.true_eq_false, Bool.false_eq_true, Nat.add_sub_cancel, Nat.not_lt_zero, Nat.zero_le, k_sub, k_sb1, k_r, k_n, k_ret, k_t1, k_t0, k_nr, k_nn, k_z0, k_z1, k_zb, x_okI, lit_nI, k_in, k_cl, k_lt, k_le, k_eq, k_neg, nI_add, nI_mul, k_clt, k_cgt, k_cle, k_cge, k_ceq, bI_0, k_sh8, ne_eq, Nat.add_eq_zero_iff, Nat.one_ne_zero, Nat.succ_ne_zero, and_false, false_and, not_false_eq_true, not_true_eq_false, ite_true, ite_false, if_true, if_false, sI_uI, sJ_uI, sA_uI, sL_uI, sR_uI, sQ_uI, sI_uJ, sJ_uJ, sA_uJ, sL_uJ, sR_uJ, sQ_uJ, sI_uA, sJ_uA, sA_uA, sL_uA, sR_uA, sQ_uA, sI_uL, sJ_uL, sA_uL, sL_uL, sR_uL, sQ_uL, sI_uR, sJ_uR, sA_uR, sL_uR, sR_uR, sQ_uR, sI_uQ, sJ_uQ, sA_uQ, sL_uQ, sR_uQ, sQ_uQ, bI_f, e1, e, h32, h34']
theorem ru_eqj (d : Nat) (h : xH) (M : Nat) {t : Nat → Int32} {n : Nat} {S S' : gS} {i j k : Nat} {ky : Int32} (hj : j = i + 1) (h7 : n ≤ 700) (hk : k < 700) (hv : rV t n S i) (h34 : sI S 34 = -nI 1) (hc : (pcs t n).1 i = nI 61) (e : xm (d + 4) 155 [.ref M] (oh 11 h M (uA (rdN S n (psF t n j)) 46 k (nI ((pcs t n).2.1 j)))) = some (none, oh 11 h M S')) : xrun (d + 4) 154 159 [(1, .ref M), (1, .int (bI false)), (1, .int ky), (1, .int (nI k))] [] (oh 11 h M S) = xrun (d + 4) 154 191 [(1, .ref M), (1, .int (bI false)), (1, .int ky), (1, .int (nI k))] [] (oh 11 h M S') := by
  subst hj
  exact ru_eq d h M h7 hk hv h34 hc e
theorem ru_eqX (d : Nat) (h : xH) (M : Nat) {t : Nat → Int32} {n : Nat} {S : gS} {i k : Nat} {ky : Int32} (h7 : n ≤ 700) (hk : k < 700) (hv : rV t n S i) (h34 : sI S 34 = -nI 1) (hc : ¬ (pcs t n).1 i = nI 61) : xrun (d + 4) 154 159 [(1, .ref M), (1, .int (bI false)), (1, .int ky), (1, .int (nI k))] [] (oh 11 h M S) = xrun (d + 4) 154 191 [(1, .ref M), (1, .int (bI false)), (1, .int ky), (1, .int (nI k))] [] (oh 11 h M (uA (uI S 34 (nI ((pcs t n).2.1 i))) 46 k (nI ((pcs t n).2.1 i)))) := by
  have e1 := m_signB (d + 1) h M h7 hv h34 hc
  have h32 := hv.2.2.2.2.1
  have e7 := place_ne h7 (t := t) i
  simp (disch := omega) only [q_154_0, q_154_1, q_154_4, q_154_7, q_154_8, q_154_9, q_154_12, q_154_15, q_154_16, q_154_17, q_154_20, q_154_21, q_154_24, q_154_25, q_154_28, q_154_31, q_154_32, q_154_35, q_154_36, q_154_39, q_154_40, q_154_43, q_154_44, q_154_45, q_154_48, q_154_49, q_154_52, q_154_53, q_154_56, q_154_59, q_154_60, q_154_63, q_154_64, q_154_67, q_154_68, q_154_71, q_154_72, q_154_73, q_154_76, q_154_77, q_154_78, q_154_81, q_154_82, q_154_83, q_154_86, q_154_87, q_154_90, q_154_91, q_154_94, q_154_95, q_154_98, q_154_99, q_154_100, q_154_101, q_154_104, q_154_105, q_154_106, q_154_109, q_154_110, q_154_113, q_154_114, q_154_117, q_154_118, q_154_119, q_154_122, q_154_123, q_154_124, q_154_127, q_154_128, q_154_129, q_154_132, q_154_133, q_154_134, q_154_137, q_154_138, q_154_139, q_154_142, q_154_143, q_154_144, q_154_145, q_154_146, q_154_147, q_154_150, q_154_151, q_154_152, q_154_155, q_154_156, q_154_159, q_154_160, q_154_163, q_154_164, q_154_166, q_154_169, q_154_170, q_154_173, q_154_174, q_154_175, q_154_178, q_154_179, q_154_180, q_154_183, q_154_184, q_154_187, q_154_188, og_11_34, og_11_42, op_11_42, og_11_43, or_11_43, ow_11_43, og_11_44, or_11_44, ow_11_44, og_11_33, og_11_45, or_11_45, ow_11_45, og_11_32, og_11_48, or_11_48, ow_11_48, og_11_49, og_11_47, or_11_47, ow_11_47, og_11_46, or_11_46, ow_11_46, og_11_50, or_11_50, ow_11_50, og_11_52, or_11_52, ow_11_52, o_is, o_ob, ofs_len11, ↓reduceIte, k_cr, k_ci, k_oR, k_oN, k_aR, k_aN, and_true, true_and, and_self, eq_self, Nat.reduceLT, Nat.reduceLeDiff, Nat.reduceEqDiff, Nat.reduceAdd, Nat.reduceMul, Bool.true_eq_false, Bool.false_eq_true, Nat.add_sub_cancel, Nat.not_lt_zero, Nat.zero_le, k_sub, k_sb1, k_r, k_n, k_ret, k_t1, k_t0, k_nr, k_nn, k_z0, k_z1, k_zb, x_okI, lit_nI, k_in, k_cl, k_lt, k_le, k_eq, k_neg, nI_add, nI_mul, k_clt, k_cgt, k_cle, k_cge, k_ceq, bI_0, k_sh8, ne_eq, Nat.add_eq_zero_iff, Nat.one_ne_zero, Nat.succ_ne_zero, and_false, false_and, not_false_eq_true, not_true_eq_false, ite_true, ite_false, if_true, if_false, sI_uI, sJ_uI, sA_uI, sL_uI, sR_uI, sQ_uI, sI_uJ, sJ_uJ, sA_uJ, sL_uJ, sR_uJ, sQ_uJ, sI_uA, sJ_uA, sA_uA, sL_uA, sR_uA, sQ_uA, sI_uL, sJ_uL, sA_uL, sL_uL, sR_uL, sQ_uL, sI_uR, sJ_uR, sA_uR, sL_uR, sR_uR, sQ_uR, sI_uQ, sJ_uQ, sA_uQ, sL_uQ, sR_uQ, sQ_uQ, bI_f, e1, h32, e7]
theorem ju_js {p : pP} {S : gS} {A B : List aT} {k i : Nat} (ky : Bool) (hA : isA S (A ++ B)) (h46 : sA S 46 k = nI (p.2.1 i)) (hl : A.length + B.length ≤ 700) : juB S ky k A.length = (!ky && jsB p i B) := by
  unfold juB
  congr 1
  have h49 : sI S 49 = nI (A.length + B.length) := by
    rw [← List.length_append]
    exact hA.1
  rw [h49]
  match B, hA, hl, h49 with
  | [], hA, hl, h49 =>
    have e : ¬ nI (A.length + ([] : List aT).length) - nI A.length = nI 1 := by
      show ¬ nI A.length - nI A.length = nI 1
      rw [k_sub (Nat.le_refl _), k_eq (by omega) (by omega)]
      omega
    rw [decide_eq_false e]
    rfl
  | [b], hA, hl, h49 =>
    have e : nI (A.length + ([b] : List aT).length) - nI A.length = nI 1 := by
      show nI (A.length + 1) - nI A.length = nI 1
      rw [k_sub (by omega), show A.length + 1 - A.length = 1 by omega]
    have hq := hA.2 A.length b (by rw [List.getElem?_append_right (Nat.le_refl _), Nat.sub_self]; rfl)
    rw [decide_eq_true e, hq.1, hq.2.2, h46]
    rfl
  | b :: c :: B, hA, hl, h49 =>
    have e : ¬ nI (A.length + (b :: c :: B).length) - nI A.length = nI 1 := by
      rw [k_sub (by omega), k_eq (by omega) (by omega), List.length_cons, List.length_cons]
      omega
    rw [decide_eq_false e]
    rfl
theorem isA_46 {S : gS} {A : List aT} {k : Nat} {z : Int32} (h : isA S A) : isA (uA S 46 k z) A := by
  refine ⟨h.1, fun q b hq => ?_⟩
  obtain ⟨q1, q2, q3⟩ := h.2 q b hq
  rw [sA_uA_ne _ _ _ (by decide), sA_uA_ne _ _ _ (by decide)]
  exact ⟨q1, q2, q3⟩
theorem isA_47 {S : gS} {A : List aT} {k : Nat} {z : Int32} (h : isA S A) : isA (uA S 47 k z) A := by
  refine ⟨h.1, fun q b hq => ?_⟩
  obtain ⟨q1, q2, q3⟩ := h.2 q b hq
  rw [sA_uA_ne _ _ _ (by decide), sA_uA_ne _ _ _ (by decide)]
  exact ⟨q1, q2, q3⟩
theorem rV.uA {t : Nat → Int32} {n i : Nat} {S : gS} {k j : Nat} {z : Int32} (h : rV t n S i) (hk : 28 ≠ k) : rV t n (uA S k j z) i := ⟨(sA_uA_ne _ _ _ hk).trans h.1, h.2⟩
def ruR (d : Nat) (h : xH) (M : Nat) (t : Nat → Int32) (n N : Nat) (S0 : gS) (i : Nat) (R : List rT) (S : gS) : Nat ⊕ (Nat × rT) → Prop
  | .inl q => q ≤ N ∧ ∃ S', xm (d + 5) 154 [.ref M] (oh 11 h M S) = some (none, oh 11 h M S') ∧ bdR t n S0 S' q R.length
  | .inr (j, r) => i + 3 + r.2.2.2.2.2.length ≤ j ∧ j ≤ N ∧ ∃ S', xm (d + 5) 154 [.ref M] (oh 11 h M S) = some (none, oh 11 h M S') ∧ vR t n S0 S' j (R ++ [r])
theorem m_rule_dr (d : Nat) (h : xH) (M : Nat) {t : Nat → Int32} {n N : Nat} {S0 S : gS} {i : Nat} {R : List rT} (h7 : n ≤ 700) (hN : nN (pcs t n) N) (hv : vR t n S0 S i R) (hl : 3 * R.length + (acR R).length ≤ i) (hi : i ≤ N) (hi5 : 5 ≤ i) (cd : pWd (pcs t n) i 1685221232 = true) : ruR d h M t n N S0 i R S (ruF (pcs t n) i) := by
  obtain ⟨v, h34, h42, hre, hA, hfr⟩ := hv
  have hN7 := hN.1
  unfold ruF
  rw [if_pos cd]
  have ck : (pcs t n).1 i = nI 1 := by
    unfold pWd at cd
    rw [Bool.and_eq_true, decide_eq_true_eq] at cd
    exact cd.1
  have hj := hN.ltc hi ck (by decide)
  have v1 := v.read
  by_cases cn : pNm (pcs t n) (i + 1) = true
  · rw [if_pos cn]
    have hj2 := hN.ltc hj (pNm_1 cn).1 (by decide)
    have e1 := ru_1 d h M h7 v h34 cd cn
    have h1_34 : sI (rdN S n (psF t n (i + 1))) 34 = -nI 1 := (rd_I (by decide)).trans h34
    have h1_42 : sI (rdN S n (psF t n (i + 1))) 42 = nI R.length := (rd_I (by decide)).trans h42
    have h1_re : reR (rdN S n (psF t n (i + 1))) R := hre.rd
    have h1_A : isA (rdN S n (psF t n (i + 1))) (acR R) := hA.rd
    have h1_fr : fr pRu S0 (rdN S n (psF t n (i + 1))) := hfr.rdN (by decide) (by decide) (by decide) (by decide)
    generalize rdN S n (psF t n (i + 1)) = S1 at *
    have e2 := ru_head d h M true false h7 v1 h1_42 h1_A.1 (by omega) (by omega)
    have v2 := (rhS_rV (k := R.length) (kd := nI (ruKd true false)) (nm := (pcs t n).2.2 (i + 1)) (a := nI ((pcs t n).2.1 (i + 1))) (f := nI (acR R).length) v1).read
    have f2 := rhS_fr (k := R.length) (kd := nI (ruKd true false)) (nm := (pcs t n).2.2 (i + 1)) (a := nI ((pcs t n).2.1 (i + 1))) (f := nI (acR R).length) h1_fr
    have a2 := rhS_at S1 R.length (nI (ruKd true false)) ((pcs t n).2.2 (i + 1)) (nI ((pcs t n).2.1 (i + 1))) (nI (acR R).length)
    have r2 := rhS_reR (kd := nI (ruKd true false)) (nm := (pcs t n).2.2 (i + 1)) (a := nI ((pcs t n).2.1 (i + 1))) (f := nI (acR R).length) h1_re
    have A2 := rhS_A (k := R.length) (kd := nI (ruKd true false)) (nm := (pcs t n).2.2 (i + 1)) (a := nI ((pcs t n).2.1 (i + 1))) (f := nI (acR R).length) h1_A
    have h2_34 : sI (rhS S1 R.length (nI (ruKd true false)) ((pcs t n).2.2 (i + 1)) (nI ((pcs t n).2.1 (i + 1))) (nI (acR R).length)) 34 = -nI 1 := h1_34
    have h2_42 : sI (rhS S1 R.length (nI (ruKd true false)) ((pcs t n).2.2 (i + 1)) (nI ((pcs t n).2.1 (i + 1))) (nI (acR R).length)) 42 = nI (R.length + 1) := rfl
    have e3 : xm (d + 5) 154 [.ref M] (oh 11 h M S) = _ := e1.trans (e2.trans ru_dr)
    rw [show (if false = true then (0 : Int64) else (pcs t n).2.2 (i + 1)) = (pcs t n).2.2 (i + 1) from rfl] at e3
    generalize rhS S1 R.length (nI (ruKd true false)) ((pcs t n).2.2 (i + 1)) (nI ((pcs t n).2.1 (i + 1))) (nI (acR R).length) = S2 at *
    by_cases cs : (pcs t n).1 (i + 2) = nI 59
    · rw [if_pos cs]
      have hj3 := hN.ltc hj2 cs (by decide)
      refine ⟨by show i + 3 + 0 ≤ i + 3; omega, hj3, _, e3.trans (ru_256 (m_signO (d + 1) h M h7 v2 ((rd_I (by decide)).trans h2_34) cs)), v2.read, (rd_I (by decide)).trans ((rd_I (by decide)).trans h2_34), by rw [List.length_append]; exact (rd_I (by decide)).trans ((rd_I (by decide)).trans h2_42), ?_, ?_, (f2.rdN (by decide) (by decide) (by decide) (by decide)).rdN (by decide) (by decide) (by decide) (by decide)⟩
      · have r3 : reR S2 (R ++ [(2, (pcs t n).2.2 (i + 1), (pcs t n).2.1 (i + 1), 0, false, [])]) := r2.snoc ⟨a2.1, a2.2.1, a2.2.2.1, fun z => absurd rfl z, a2.2.2.2.2⟩ a2.2.2.2.1
        exact r3
      · have A3 : isA S2 (acR (R ++ [(2, (pcs t n).2.2 (i + 1), (pcs t n).2.1 (i + 1), 0, false, [])])) := by
          rw [acR_snoc, List.append_nil]
          exact A2
        exact A3
    · rw [if_neg cs]
      refine ⟨hj2, _, e3.trans (ru_256 (m_signB (d + 1) h M h7 v2 ((rd_I (by decide)).trans h2_34) cs)), rfl, ⟨R.length + 1, h2_42, Nat.le_refl _⟩, (f2.rdN (by decide) (by decide) (by decide) (by decide)).uI (by decide)⟩
  · rw [if_neg cn]
    rw [Bool.not_eq_true] at cn
    refine ⟨hj, _, ru_1X d h M h7 v h34 cd cn, rfl, ⟨R.length, h42, Nat.le_succ _⟩, (hfr.rdN (by decide) (by decide) (by decide) (by decide)).uI (by decide)⟩
theorem m_rule_e (d : Nat) (h : xH) (M : Nat) {t : Nat → Int32} {n N : Nat} {S0 S : gS} {i : Nat} {R : List rT} (h7 : n ≤ 700) (hN : nN (pcs t n) N) (hv : vR t n S0 S i R) (hl : 3 * R.length + (acR R).length ≤ i) (hi : i ≤ N) (hi5 : 5 ≤ i) (cd : ¬ pWd (pcs t n) i 1685221232 = true) : ruR d h M t n N S0 i R S (ruF (pcs t n) i) := by
  obtain ⟨v, h34, h42, hre, hA, hfr⟩ := hv
  have hN7 := hN.1
  unfold ruF
  rw [if_neg cd]
  rw [Bool.not_eq_true] at cd
  by_cases ck : pWd (pcs t n) i 7038329 = true ∨ pNm (pcs t n) i = true
  · rw [if_pos ck]
    have ck1 : (pcs t n).1 i = nI 1 := by
      rcases ck with q | q
      · unfold pWd at q
        rw [Bool.and_eq_true, decide_eq_true_eq] at q
        exact q.1
      · exact (pNm_1 q).1
    have hj := hN.ltc hi ck1 (by decide)
    have e1 := ru_0 d h M v h34 cd ck
    generalize hky : pWd (pcs t n) i 7038329 = ky at *
    have e2 := e1.trans (ru_head d h M false ky h7 v h42 hA.1 (by omega) (by omega))
    have v2 := (rhS_rV (k := R.length) (kd := nI (ruKd false ky)) (nm := if ky then 0 else (pcs t n).2.2 i) (a := nI ((pcs t n).2.1 i)) (f := nI (acR R).length) v).read
    have f2 := rhS_fr (k := R.length) (kd := nI (ruKd false ky)) (nm := if ky then 0 else (pcs t n).2.2 i) (a := nI ((pcs t n).2.1 i)) (f := nI (acR R).length) hfr
    have a2 := rhS_at S R.length (nI (ruKd false ky)) (if ky then 0 else (pcs t n).2.2 i) (nI ((pcs t n).2.1 i)) (nI (acR R).length)
    have r2 := rhS_reR (kd := nI (ruKd false ky)) (nm := if ky then 0 else (pcs t n).2.2 i) (a := nI ((pcs t n).2.1 i)) (f := nI (acR R).length) hre
    have A2 := rhS_A (k := R.length) (kd := nI (ruKd false ky)) (nm := if ky then 0 else (pcs t n).2.2 i) (a := nI ((pcs t n).2.1 i)) (f := nI (acR R).length) hA
    have h2_34 : sI (rhS S R.length (nI (ruKd false ky)) (if ky then 0 else (pcs t n).2.2 i) (nI ((pcs t n).2.1 i)) (nI (acR R).length)) 34 = -nI 1 := h34
    have h2_42 : sI (rhS S R.length (nI (ruKd false ky)) (if ky then 0 else (pcs t n).2.2 i) (nI ((pcs t n).2.1 i)) (nI (acR R).length)) 42 = nI (R.length + 1) := rfl
    generalize rhS S R.length (nI (ruKd false ky)) (if ky then 0 else (pcs t n).2.2 i) (nI ((pcs t n).2.1 i)) (nI (acR R).length) = S2 at *
    have h3_34 : sI (rdN S2 n (psF t n (i + 1))) 34 = -nI 1 := (rd_I (by decide)).trans h2_34
    have h3_42 : sI (rdN S2 n (psF t n (i + 1))) 42 = nI (R.length + 1) := (rd_I (by decide)).trans h2_42
    have f3 : fr pRu S0 (rdN S2 n (psF t n (i + 1))) := f2.rdN (by decide) (by decide) (by decide) (by decide)
    have r3 : reR (rdN S2 n (psF t n (i + 1))) R := r2.rd
    have A3 : isA (rdN S2 n (psF t n (i + 1))) (acR R) := A2.rd
    have a3 : sA (rdN S2 n (psF t n (i + 1))) 43 R.length = nI (ruKd false ky) ∧ sL (rdN S2 n (psF t n (i + 1))) 44 R.length = (if ky then 0 else (pcs t n).2.2 i) ∧ sA (rdN S2 n (psF t n (i + 1))) 45 R.length = nI ((pcs t n).2.1 i) ∧ sA (rdN S2 n (psF t n (i + 1))) 48 R.length = nI (acR R).length ∧ sA (rdN S2 n (psF t n (i + 1))) 47 R.length = nI 0 := by
        rw [rd_A, rd_L]
        exact a2
    generalize rdN S2 n (psF t n (i + 1)) = S3 at *
    clear r2 A2 a2 f2 h2_34 h2_42
    by_cases cq : (pcs t n).1 (i + 1) = nI 61
    · rw [if_pos cq]
      have hj2 := hN.ltc hj cq (by decide)
      have v4 : rV t n (rdN S3 n (psF t n (i + 2))) (i + 2) := v2.rd rfl
      have h4_34 : sI (rdN S3 n (psF t n (i + 2))) 34 = -nI 1 := (rd_I (by decide)).trans h3_34
      have h4_42 : sI (rdN S3 n (psF t n (i + 2))) 42 = nI (R.length + 1) := (rd_I (by decide)).trans h3_42
      have f4 : fr pRu S0 (rdN S3 n (psF t n (i + 2))) := f3.rdN (by decide) (by decide) (by decide) (by decide)
      have r4 : reR (rdN S3 n (psF t n (i + 2))) R := r3.rd
      have A4 : isA (rdN S3 n (psF t n (i + 2))) (acR R) := A3.rd
      have a4 : sA (rdN S3 n (psF t n (i + 2))) 43 R.length = nI (ruKd false ky) ∧ sL (rdN S3 n (psF t n (i + 2))) 44 R.length = (if ky then 0 else (pcs t n).2.2 i) ∧ sA (rdN S3 n (psF t n (i + 2))) 45 R.length = nI ((pcs t n).2.1 i) ∧ sA (rdN S3 n (psF t n (i + 2))) 48 R.length = nI (acR R).length ∧ sA (rdN S3 n (psF t n (i + 2))) 47 R.length = nI 0 := by
        rw [rd_A, rd_L]
        exact a3
      have eq4 := fun S' => ru_eqj d h M (S' := S') (j := i + 2) (k := R.length) (ky := bI ky) rfl h7 (by omega) v2 h3_34 cq
      generalize rdN S3 n (psF t n (i + 2)) = S4 at *
      have x := m_expression d h M h7 hN (S0 := uA S4 46 R.length (nI ((pcs t n).2.1 (i + 2)))) (v4.uA (k := 46) (j := R.length) (z := nI ((pcs t n).2.1 (i + 2))) (by decide)) h4_34 (isA_46 A4) fr.rfl (by omega) hj2
      have g48 : ∀ T, fr pEx (uA S4 46 R.length (nI ((pcs t n).2.1 (i + 2)))) T → sA T 43 = sA S4 43 ∧ sL T 44 = sL S4 44 ∧ sA T 45 = sA S4 45 ∧ sA T 46 R.length = nI ((pcs t n).2.1 (i + 2)) ∧ sA T 48 = sA S4 48 ∧ sI T 42 = nI (R.length + 1) ∧ reR T R ∧ fr pRu S0 T := by
        intro T hT
        refine ⟨?_, ?_, ?_, ?_, ?_, ?_, ?_, ?_⟩
        · rw [(hT 43 (by decide)).2.2.1, sA_uA_ne _ _ _ (by decide)]
        · rw [(hT 44 (by decide)).2.2.2.1]
          rfl
        · rw [(hT 45 (by decide)).2.2.1, sA_uA_ne _ _ _ (by decide)]
        · rw [(hT 46 (by decide)).2.2.1, sA_uA, if_pos ⟨rfl, rfl⟩]
        · rw [(hT 48 (by decide)).2.2.1, sA_uA_ne _ _ _ (by decide)]
        · rw [(hT 42 (by decide)).1]
          exact h4_42
        · refine reR.fr ?_ hT (by decide)
          refine r4.congr fun q hq => ⟨by rw [sA_uA_ne _ _ _ (by decide)], rfl, by rw [sA_uA_ne _ _ _ (by decide)], ?_, by rw [sA_uA_ne _ _ _ (by decide)], by rw [sA_uA_ne _ _ _ (by decide)]⟩
          rw [sA_uA, if_neg (by rintro ⟨_, z⟩; omega)]
        · exact (f4.uA (by decide)).trans (hT.wide pEx_pRu)
      cases hx : exF (pcs t n) (i + 2) with
      | inl q =>
        rw [hx] at x
        obtain ⟨x0, S5, x1, x2⟩ := x
        obtain ⟨g1, g2, g3, g4, g5, g6, g7, g8⟩ := g48 S5 x2.2
        have e5 := e2.trans ((eq4 S5 x1).trans (ru_just d h M (a := (acR R).length) false ky (by rw [g5]; exact a4.2.2.2.1) (by omega) (by omega)))
        have ne : (sI (uA S5 47 R.length (bI (juB S5 ky R.length (acR R).length))) 34 = -nI 1) = False := by
          show (sI S5 34 = -nI 1) = False
          exact x2.ne h7
        exact ⟨x0, _, e5.trans (ru_256 (m_signX (d + 1) h M _ (nI 59) ne)), x2.1, ⟨R.length + 1, g6, Nat.le_refl _⟩, g8.uA (by decide)⟩
      | inr z =>
        obtain ⟨j, B⟩ := z
        rw [hx] at x
        obtain ⟨x0, x1, x2, S5, x3, x4⟩ := x
        obtain ⟨g1, g2, g3, g4, g5, g6, g7, g8⟩ := g48 S5 x4.2.2.2.2.2
        have e5 := e2.trans ((eq4 S5 x3).trans (ru_just d h M (a := (acR R).length) false ky (by rw [g5]; exact a4.2.2.2.1) (by omega) (by omega)))
        rw [ju_js (p := pcs t n) (i := i + 2) ky x4.2.2.1 g4 (by omega)] at e5
        have v6 : rV t n (uA S5 47 R.length (bI (!ky && jsB (pcs t n) (i + 2) B))) j := x4.1.uA (by decide)
        have h6_34 : sI (uA S5 47 R.length (bI (!ky && jsB (pcs t n) (i + 2) B))) 34 = -nI 1 := x4.2.1
        have f6 : fr pRu S0 (uA S5 47 R.length (bI (!ky && jsB (pcs t n) (i + 2) B))) := g8.uA (by decide)
        show ruR d h M t n N S0 i R S (if (pcs t n).1 j = nI 59 then .inr (j + 1, (if ky = true then 0 else 1, if ky = true then 0 else (pcs t n).2.2 i, (pcs t n).2.1 i, (pcs t n).2.1 (i + 2), !ky && jsB (pcs t n) (i + 2) B, B)) else .inl j)
        by_cases cs : (pcs t n).1 j = nI 59
        · rw [if_pos cs]
          have hj3 := hN.ltc x1 cs (by decide)
          refine ⟨by show i + 3 + B.length ≤ j + 1; omega, hj3, _, e5.trans (ru_256 (m_signO (d + 1) h M h7 v6 h6_34 cs)), v6.read, (rd_I (by decide)).trans h6_34, by rw [List.length_append]; exact (rd_I (by decide)).trans g6, ?_, ?_, f6.rdN (by decide) (by decide) (by decide) (by decide)⟩
          · have r6 : reR (uA S5 47 R.length (bI (!ky && jsB (pcs t n) (i + 2) B))) (R ++ [(if ky = true then 0 else 1, if ky = true then 0 else (pcs t n).2.2 i, (pcs t n).2.1 i, (pcs t n).2.1 (i + 2), !ky && jsB (pcs t n) (i + 2) B, B)]) := by
              refine reR.snoc ?_ ⟨?_, ?_, ?_, fun _ => ?_, ?_⟩ ?_
              · refine g7.congr fun q hq => ⟨by rw [sA_uA_ne _ _ _ (by decide)], rfl, by rw [sA_uA_ne _ _ _ (by decide)], by rw [sA_uA_ne _ _ _ (by decide)], ?_, by rw [sA_uA_ne _ _ _ (by decide)]⟩
                rw [sA_uA, if_neg (by rintro ⟨_, z⟩; omega)]
              · rw [sA_uA_ne _ _ _ (by decide), g1, a4.1]
                cases ky <;> rfl
              · show sL S5 44 R.length = _
                rw [g2]
                exact a4.2.1
              · rw [sA_uA_ne _ _ _ (by decide), g3]
                exact a4.2.2.1
              · rw [sA_uA_ne _ _ _ (by decide)]
                exact g4
              · rw [sA_uA, if_pos ⟨rfl, rfl⟩]
              · rw [sA_uA_ne _ _ _ (by decide), g5]
                exact a4.2.2.2.1
            exact r6
          · have A6 := isA_47 (k := R.length) (z := bI (!ky && jsB (pcs t n) (i + 2) B)) x4.2.2.1
            rw [acR_snoc]
            exact A6
        · rw [if_neg cs]
          exact ⟨x1, _, e5.trans (ru_256 (m_signB (d + 1) h M h7 v6 h6_34 cs)), rfl, ⟨R.length + 1, g6, Nat.le_refl _⟩, f6.uI (by decide)⟩
    · rw [if_neg cq]
      have e4 := e2.trans (ru_eqX d h M (k := R.length) (ky := bI ky) h7 (by omega) v2 h3_34 cq)
      have e5 := e4.trans (ru_just d h M (a := (acR R).length) false ky (by rw [sA_uA_ne _ _ _ (by decide)]; exact a3.2.2.2.1) (by omega) (by omega))
      have ne := place_ne h7 (t := t) (i + 1)
      exact ⟨hj, _, e5.trans (ru_256 (m_signX (d + 1) h M _ (nI 59) ne)), rfl, ⟨R.length + 1, h3_42, Nat.le_refl _⟩, ((f3.uI (by decide)).uA (by decide)).uA (by decide)⟩
  · rw [if_neg ck]
    have ck1 : pWd (pcs t n) i 7038329 = false := by
      rw [← Bool.not_eq_true]
      exact fun z => ck (Or.inl z)
    have ck2 : pNm (pcs t n) i = false := by
      rw [← Bool.not_eq_true]
      exact fun z => ck (Or.inr z)
    exact ⟨hi, _, ru_X d h M h7 v h34 cd ck1 ck2, rfl, ⟨R.length, h42, Nat.le_succ _⟩, hfr.uI (by decide)⟩
theorem m_rule (d : Nat) (h : xH) (M : Nat) {t : Nat → Int32} {n N : Nat} {S0 S : gS} {i : Nat} {R : List rT} (h7 : n ≤ 700) (hN : nN (pcs t n) N) (hv : vR t n S0 S i R) (hl : 3 * R.length + (acR R).length ≤ i) (hi : i ≤ N) (hi5 : 5 ≤ i) : ruR d h M t n N S0 i R S (ruF (pcs t n) i) := by
  by_cases cd : pWd (pcs t n) i 1685221232 = true
  · exact m_rule_dr d h M h7 hN hv hl hi hi5 cd
  · exact m_rule_e d h M h7 hN hv hl hi hi5 cd
