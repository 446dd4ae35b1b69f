/-! The reference: a MOVE. -/
def pMo (k : Nat) : Bool := decide (30 ≤ k) && decide (k ≤ 57)
theorem pRu_pMo : ∀ k, pMo k = false → pRu k = false := by
  intro k hk
  unfold pMo at hk
  unfold pRu
  rw [Bool.and_eq_false_iff, decide_eq_false_iff_not, decide_eq_false_iff_not] at hk
  rw [Bool.or_eq_false_iff, Bool.and_eq_false_iff, Bool.and_eq_false_iff, decide_eq_false_iff_not, decide_eq_false_iff_not, decide_eq_false_iff_not, decide_eq_false_iff_not]
  omega
def mAt (S : gS) (q : Nat) (m : mT) : Prop := sA S 36 q = bI m.1 ∧ sL S 37 q = m.2.1 ∧ sA S 38 q = nI m.2.2.1 ∧ sL S 39 q = m.2.2.2.1 ∧ (m.1 = false → sA S 40 q = nI m.2.2.2.2.1)
def ruM (L : List mT) : List rT := (L.map (fun m => m.2.2.2.2.2)).flatten
def reM (S : gS) (L : List mT) : Prop := ∀ q m, L[q]? = some m → mAt S q m ∧ sA S 41 q = nI (ruM (L.take q)).length
theorem ruM_snoc (L : List mT) (m : mT) : ruM (L ++ [m]) = ruM L ++ m.2.2.2.2.2 := by
  unfold ruM
  rw [List.map_append, List.flatten_append]
  show _ ++ (m.2.2.2.2.2 ++ []) = _
  rw [List.append_nil]
theorem reM.congr {S T : gS} {L : List mT} (h : reM S L) (e : ∀ q, q < L.length → sA T 36 q = sA S 36 q ∧ sL T 37 q = sL S 37 q ∧ sA T 38 q = sA S 38 q ∧ sL T 39 q = sL S 39 q ∧ sA T 40 q = sA S 40 q ∧ sA T 41 q = sA S 41 q) : reM T L := by
  intro q r hq
  have hl : q < L.length := by
    rcases Nat.lt_or_ge q L.length with z | z
    · exact z
    · rw [List.getElem?_eq_none z] at hq
      cases hq
  obtain ⟨e1, e2, e3, e4, e5, e6⟩ := e q hl
  obtain ⟨⟨a1, a2, a3, a4, a5⟩, a6⟩ := h q r hq
  exact ⟨⟨e1.trans a1, e2.trans a2, e3.trans a3, e4.trans a4, fun z => e5.trans (a5 z)⟩, e6.trans a6⟩
theorem reM.fr {P : Nat → Bool} {S T : gS} {L : List mT} (h : reM S L) (hf : fr P S T) (hp : P 36 = false ∧ P 37 = false ∧ P 38 = false ∧ P 39 = false ∧ P 40 = false ∧ P 41 = false) : reM T L :=
  h.congr fun q _ => ⟨by rw [(hf 36 hp.1).2.2.1], by rw [(hf 37 hp.2.1).2.2.2.1], by rw [(hf 38 hp.2.2.1).2.2.1], by rw [(hf 39 hp.2.2.2.1).2.2.2.1], by rw [(hf 40 hp.2.2.2.2.1).2.2.1], by rw [(hf 41 hp.2.2.2.2.2).2.2.1]⟩
theorem reM.snoc {S : gS} {L : List mT} {m : mT} (h : reM S L) (h1 : mAt S L.length m) (h2 : sA S 41 L.length = nI (ruM L).length) : reM S (L ++ [m]) := by
  intro q x hq
  by_cases hl : q < L.length
  · rw [List.getElem?_append_left hl] at hq
    rw [List.take_append_of_le_length (Nat.le_of_lt hl)]
    exact h q x hq
  · rw [List.getElem?_append_right (by omega)] at hq
    by_cases he : q = L.length
    · subst he
      rw [Nat.sub_self] at hq
      have hb : x = m := (Option.some.inj hq).symm
      rw [hb, List.take_left]
      exact ⟨h1, h2⟩
    · rw [List.getElem?_eq_none (by show 1 ≤ q - L.length; omega)] at hq
      cases hq
theorem reM.rd {S : gS} {L : List mT} {n p : Nat} (h : reM S L) : reM (rdN S n p) L := by
  intro q r hq
  unfold mAt
  rw [rd_A, rd_L]
  exact h q r hq
def rlR (d : Nat) (h : xH) (M : Nat) (t : Nat → Int32) (n N : Nat) (S0 : gS) (dr : Int32) (i : Nat) (R : List rT) (S : gS) : Nat ⊕ (Nat × List rT) → Prop
  | .inl q => q ≤ N ∧ ∃ S', xrun (d + 5) 149 236 [(1, .ref M), (1, .int dr)] [] (oh 11 h M S) = some (none, oh 11 h M S') ∧ sI S' 34 = nI ((pcs t n).2.1 q) ∧ (∃ z, sI S' 42 = nI z ∧ z ≤ 699) ∧ fr pRu S0 S'
  | .inr (j, L) => i + 1 + 3 * L.length + (acR L).length ≤ j ∧ j ≤ N ∧ ∃ S', xrun (d + 5) 149 236 [(1, .ref M), (1, .int dr)] [] (oh 11 h M S) = some (none, oh 11 h M S') ∧ vR t n S0 S' j (R ++ L)
theorem mo_266 {d : Nat} {h : xH} {M : Nat} {S S' : gS} {dr : Int32} (e : xm (d + 5) 153 [.ref M, .int (nI 125)] (oh 11 h M S) = some (none, oh 11 h M S')) (hc : (sI S 34 = -nI 1) = False ∨ sI S 31 = nI 125) : xrun (d + 5) 149 236 [(1, .ref M), (1, .int dr)] [] (oh 11 h M S) = some (none, oh 11 h M S') := by
  rw [q_149_236]
  rcases hc with q | q
  · simp (disch := omega) only [q_149_237, q_149_240, q_149_241, q_149_244, q_149_245, q_149_248, q_149_250, q_149_253, q_149_254, q_149_257, q_149_260, q_149_261, q_149_263, q_149_266, og_11_34, og_11_36, or_11_36, ow_11_36, og_11_35, op_11_35, og_11_37, or_11_37, ow_11_37, og_11_33, og_11_38, or_11_38, ow_11_38, og_11_32, og_11_39, or_11_39, ow_11_39, og_11_41, or_11_41, ow_11_41, og_11_42, og_11_40, or_11_40, ow_11_40, og_11_31, o_is, o_ob, ofs_len11, ↓reduceIte, k_cr, k_ci, k_oR, k_oN, k_aR, k_aN, and_true, true_and, and_self, eq_self, Nat.reduceLT, Nat.reduceLeDiff, Nat.reduceEqDiff, Nat.reduceAdd, Nat.reduceMul, Bool.true_eq_false, Bool.false_eq_true, Nat.add_sub_cancel, Nat.not_lt_zero, Nat.zero_le, k_sub, k_sb1, k_r, k_n, k_ret, k_t1, k_t0, k_nr, k_nn, k_z0, k_z1, k_zb, x_okI, lit_nI, k_in, k_cl, k_lt, k_le, k_eq, k_neg, nI_add, nI_mul, k_clt, k_cgt, k_cle, k_cge, k_ceq, bI_0, k_sh8, ne_eq, Nat.add_eq_zero_iff, Nat.one_ne_zero, Nat.succ_ne_zero, and_false, false_and, not_false_eq_true, not_true_eq_false, ite_true, ite_false, if_true, if_false, e, q]
  · by_cases hw : sI S 34 = -nI 1
    · simp (disch := omega) only [q_149_237, q_149_240, q_149_241, q_149_244, q_149_245, q_149_248, q_149_250, q_149_253, q_149_254, q_149_257, q_149_260, q_149_261, q_149_263, q_149_266, og_11_34, og_11_36, or_11_36, ow_11_36, og_11_35, op_11_35, og_11_37, or_11_37, ow_11_37, og_11_33, og_11_38, or_11_38, ow_11_38, og_11_32, og_11_39, or_11_39, ow_11_39, og_11_41, or_11_41, ow_11_41, og_11_42, og_11_40, or_11_40, ow_11_40, og_11_31, o_is, o_ob, ofs_len11, ↓reduceIte, k_cr, k_ci, k_oR, k_oN, k_aR, k_aN, and_true, true_and, and_self, eq_self, Nat.reduceLT, Nat.reduceLeDiff, Nat.reduceEqDiff, Nat.reduceAdd, Nat.reduceMul, Bool.true_eq_false, Bool.false_eq_true, Nat.add_sub_cancel, Nat.not_lt_zero, Nat.zero_le, k_sub, k_sb1, k_r, k_n, k_ret, k_t1, k_t0, k_nr, k_nn, k_z0, k_z1, k_zb, x_okI, lit_nI, k_in, k_cl, k_lt, k_le, k_eq, k_neg, nI_add, nI_mul, k_clt, k_cgt, k_cle, k_cge, k_ceq, bI_0, k_sh8, ne_eq, Nat.add_eq_zero_iff, Nat.one_ne_zero, Nat.succ_ne_zero, and_false, false_and, not_false_eq_true, not_true_eq_false, ite_true, ite_false, if_true, if_false, e, q, hw]
    · simp (disch := omega) only [q_149_237, q_149_240, q_149_241, q_149_244, q_149_245, q_149_248, q_149_250, q_149_253, q_149_254, q_149_257, q_149_260, q_149_261, q_149_263, q_149_266, og_11_34, og_11_36, or_11_36, ow_11_36, og_11_35, op_11_35, og_11_37, or_11_37, ow_11_37, og_11_33, og_11_38, or_11_38, ow_11_38, og_11_32, og_11_39, or_11_39, ow_11_39, og_11_41, or_11_41, ow_11_41, og_11_42, og_11_40, or_11_40, ow_11_40, og_11_31, o_is, o_ob, ofs_len11, ↓reduceIte, k_cr, k_ci, k_oR, k_oN, k_aR, k_aN, and_true, true_and, and_self, eq_self, Nat.reduceLT, Nat.reduceLeDiff, Nat.reduceEqDiff, Nat.reduceAdd, Nat.reduceMul, Bool.true_eq_false, Bool.false_eq_true, Nat.add_sub_cancel, Nat.not_lt_zero, Nat.zero_le, k_sub, k_sb1, k_r, k_n, k_ret, k_t1, k_t0, k_nr, k_nn, k_z0, k_z1, k_zb, x_okI, lit_nI, k_in, k_cl, k_lt, k_le, k_eq, k_neg, nI_add, nI_mul, k_clt, k_cgt, k_cle, k_cge, k_ceq, bI_0, k_sh8, ne_eq, Nat.add_eq_zero_iff, Nat.one_ne_zero, Nat.succ_ne_zero, and_false, false_and, not_false_eq_true, not_true_eq_false, ite_true, ite_false, if_true, if_false, e, q, hw]
theorem mo_step {d : Nat} {h : xH} {M : Nat} {S S' : gS} {dr : Int32} (e : xm (d + 5) 154 [.ref M] (oh 11 h M S) = some (none, oh 11 h M S')) (hw : sI S 34 = -nI 1) (hc : ¬ sI S 31 = nI 125) : xrun (d + 5) 149 236 [(1, .ref M), (1, .int dr)] [] (oh 11 h M S) = xrun (d + 5) 149 236 [(1, .ref M), (1, .int dr)] [] (oh 11 h M S') := by
  rw [q_149_236]
  simp (disch := omega) only [q_149_237, q_149_240, q_149_241, q_149_244, q_149_245, q_149_248, q_149_250, q_149_253, q_149_254, q_149_257, q_149_260, q_149_261, q_149_263, q_149_266, og_11_34, og_11_36, or_11_36, ow_11_36, og_11_35, op_11_35, og_11_37, or_11_37, ow_11_37, og_11_33, og_11_38, or_11_38, ow_11_38, og_11_32, og_11_39, or_11_39, ow_11_39, og_11_41, or_11_41, ow_11_41, og_11_42, og_11_40, or_11_40, ow_11_40, og_11_31, o_is, o_ob, ofs_len11, ↓reduceIte, k_cr, k_ci, k_oR, k_oN, k_aR, k_aN, and_true, true_and, and_self, eq_self, Nat.reduceLT, Nat.reduceLeDiff, Nat.reduceEqDiff, Nat.reduceAdd, Nat.reduceMul, Bool.true_eq_false, Bool.false_eq_true, Nat.add_sub_cancel, Nat.not_lt_zero, Nat.zero_le, k_sub, k_sb1, k_r, k_n, k_ret, k_t1, k_t0, k_nr, k_nn, k_z0, k_z1, k_zb, x_okI, lit_nI, k_in, k_cl, k_lt, k_le, k_eq, k_neg, nI_add, nI_mul, k_clt, k_cgt, k_cle, k_cge, k_ceq, bI_0, k_sh8, ne_eq, Nat.add_eq_zero_iff, Nat.one_ne_zero, Nat.succ_ne_zero, and_false, false_and, not_false_eq_true, not_true_eq_false, ite_true, ite_false, if_true, if_false, e, hc, hw]
theorem mo_loop (d : Nat) (h : xH) (M : Nat) {t : Nat → Int32} {n N : Nat} {S0 : gS} (dr : Int32) (h7 : n ≤ 700) (hN : nN (pcs t n) N) : ∀ (f i : Nat) (R : List rT) (S : gS), vR t n S0 S i R → 3 * R.length + (acR R).length ≤ i → i ≤ N → 5 ≤ i → N < i + f → rlR d h M t n N S0 dr i R S (rlF (pcs t n) f i)
  | 0, i, R, S, hv, hl, hi, hi5, hf => absurd hf (by omega)
  | f + 1, i, R, S, hv, hl, hi, hi5, hf => by
    have hN7 := hN.1
    have h31 : sI S 31 = (pcs t n).1 i := hv.1.2.2.2.1
    unfold rlF
    by_cases c1 : (pcs t n).1 i = nI 125
    · rw [if_pos c1]
      have hj := hN.ltc hi c1 (by decide)
      refine ⟨by show i + 1 + 3 * 0 + 0 ≤ i + 1; omega, hj, _, mo_266 (m_signO (d + 2) h M h7 hv.1 hv.2.1 c1) (Or.inr (h31.trans c1)), ?_⟩
      rw [List.append_nil]
      exact ⟨hv.1.read, (rd_I (by decide)).trans hv.2.1, (rd_I (by decide)).trans hv.2.2.1, hv.2.2.2.1.rd, hv.2.2.2.2.1.rd, hv.2.2.2.2.2.rdN (by decide) (by decide) (by decide) (by decide)⟩
    · rw [if_neg c1]
      have hr := m_rule d h M h7 hN hv hl hi hi5
      have hs := fun S' e => mo_step (d := d) (h := h) (M := M) (S := S) (S' := S') (dr := dr) e hv.2.1 (by rw [h31]; exact c1)
      cases hq : ruF (pcs t n) i with
      | inl q =>
        rw [hq] at hr
        obtain ⟨r0, S', r1, r2⟩ := hr
        have ne : (sI S' 34 = -nI 1) = False := by
          rw [r2.1]
          exact place_ne h7 q
        refine ⟨r0, S', (hs S' r1).trans (mo_266 (m_signX (d + 2) h M S' (nI 125) ne) (Or.inl ne)), r2.1, ?_, r2.2.2⟩
        obtain ⟨z, z1, z2⟩ := r2.2.1
        exact ⟨z, z1, by omega⟩
      | inr z =>
        obtain ⟨j, r⟩ := z
        rw [hq] at hr
        obtain ⟨r0, r1, S', r2, r3⟩ := hr
        have ih := mo_loop d h M dr h7 hN f j (R ++ [r]) S' r3 (by rw [acR_snoc, List.length_append, List.length_append, List.length_singleton]; omega) r1 (by omega) (by omega)
        show rlR d h M t n N S0 dr i R S (match rlF (pcs t n) f j with
          | .inl z => .inl z
          | .inr (z, L) => .inr (z, r :: L))
        cases hq2 : rlF (pcs t n) f j with
        | inl z =>
          rw [hq2] at ih
          obtain ⟨s0, S2, s1, s2⟩ := ih
          exact ⟨s0, S2, (hs S' r2).trans s1, s2⟩
        | inr z =>
          obtain ⟨j2, L⟩ := z
          rw [hq2] at ih
          obtain ⟨s0, s1, S2, s2, s3⟩ := ih
          have ea : (acR (r :: L)).length = r.2.2.2.2.2.length + (acR L).length := by
            show (r.2.2.2.2.2 ++ acR L).length = _
            rw [List.length_append]
          rw [List.append_assoc] at s3
          refine ⟨?_, s1, S2, (hs S' r2).trans s2, s3⟩
          rw [ea, List.length_cons]
          omega
def mhS (S : gS) (k : Nat) (dr : Int32) (nm : Int64) (a f : Int32) : gS := uA (uL (uA (uL (uA S 36 k dr) 37 k nm) 38 k a) 39 k 0) 41 k f
theorem mhS_fr {S : gS} {k : Nat} {dr : Int32} {nm : Int64} {a f : Int32} {S0 : gS} (h : fr pMo S0 S) : fr pMo S0 (mhS S k dr nm a f) := ((((h.uA (by decide)).uL (by decide)).uA (by decide)).uL (by decide)).uA (by decide)
theorem mhS_A {S : gS} {k : Nat} {dr : Int32} {nm : Int64} {a f : Int32} {q : Nat} (hq : ¬ (q = 36 ∨ q = 38 ∨ q = 41)) : sA (mhS S k dr nm a f) q = sA S q := by
  unfold mhS
  rw [sA_uA_ne _ _ _ (by omega), sA_uL, sA_uA_ne _ _ _ (by omega), sA_uL, sA_uA_ne _ _ _ (by omega)]
theorem mhS_L {S : gS} {k : Nat} {dr : Int32} {nm : Int64} {a f : Int32} {q : Nat} (hq : ¬ (q = 37 ∨ q = 39)) : sL (mhS S k dr nm a f) q = sL S q := by
  unfold mhS
  rw [sL_uA, sL_uL_ne _ _ _ (by omega), sL_uA, sL_uL_ne _ _ _ (by omega), sL_uA]
theorem mhS_rV {t : Nat → Int32} {n i : Nat} {S : gS} {k : Nat} {dr : Int32} {nm : Int64} {a f : Int32} (h : rV t n S i) : rV t n (mhS S k dr nm a f) i := ⟨(mhS_A (by decide)).trans h.1, h.2⟩
theorem isA.same {S T : gS} {A : List aT} (h : isA S A) (e0 : sI T 49 = sI S 49) (e1 : sA T 50 = sA S 50) (e2 : sL T 51 = sL S 51) (e3 : sA T 52 = sA S 52) : isA T A := by
  refine ⟨e0.trans h.1, fun q b hq => ?_⟩
  obtain ⟨q1, q2, q3⟩ := h.2 q b hq
  rw [e1, e2, e3]
  exact ⟨q1, q2, q3⟩
theorem reR.same {S T : gS} {R : List rT} (h : reR S R) (e0 : sA T 43 = sA S 43) (e1 : sL T 44 = sL S 44) (e2 : sA T 45 = sA S 45) (e3 : sA T 46 = sA S 46) (e4 : sA T 47 = sA S 47) (e5 : sA T 48 = sA S 48) : reR T R := h.congr fun q _ => ⟨by rw [e0], by rw [e1], by rw [e2], by rw [e3], by rw [e4], by rw [e5]⟩
theorem mhS_reM {S : gS} {dr : Int32} {nm : Int64} {a f : Int32} {L : List mT} (h : reM S L) : reM (mhS S L.length dr nm a f) L := by
  refine h.congr fun q hq => ?_
  have hne : ¬ q = L.length := by omega
  unfold mhS
  simp only [sI_uI, sJ_uI, sA_uI, sL_uI, sR_uI, sQ_uI, sI_uJ, sJ_uJ, sA_uJ, sL_uJ, sR_uJ, sQ_uJ, sI_uA, sJ_uA, sA_uA, sL_uA, sR_uA, sQ_uA, sI_uL, sJ_uL, sA_uL, sL_uL, sR_uL, sQ_uL, sI_uR, sJ_uR, sA_uR, sL_uR, sR_uR, sQ_uR, sI_uQ, sJ_uQ, sA_uQ, sL_uQ, sR_uQ, sQ_uQ]
  simp [hne]
theorem mhS_at (S : gS) (k : Nat) (dr : Int32) (nm : Int64) (a f : Int32) : sA (mhS S k dr nm a f) 36 k = dr ∧ sL (mhS S k dr nm a f) 37 k = nm ∧ sA (mhS S k dr nm a f) 38 k = a ∧ sL (mhS S k dr nm a f) 39 k = 0 ∧ sA (mhS S k dr nm a f) 41 k = f := by
  unfold mhS
  simp only [sI_uI, sJ_uI, sA_uI, sL_uI, sR_uI, sQ_uI, sI_uJ, sJ_uJ, sA_uJ, sL_uJ, sR_uJ, sQ_uJ, sI_uA, sJ_uA, sA_uA, sL_uA, sR_uA, sQ_uA, sI_uL, sJ_uL, sA_uL, sL_uL, sR_uL, sQ_uL, sI_uR, sJ_uR, sA_uR, sL_uR, sR_uR, sQ_uR, sI_uQ, sJ_uQ, sA_uQ, sL_uQ, sR_uQ, sQ_uQ]
  simp
def vM (t : Nat → Int32) (n : Nat) (S0 S : gS) (i : Nat) (L : List mT) : Prop := rV t n S i ∧ sI S 34 = -nI 1 ∧ sI S 35 = nI L.length ∧ reM S L ∧ sI S 42 = nI (ruM L).length ∧ reR S (ruM L) ∧ isA S (acR (ruM L)) ∧ fr pMo S0 S
def bdM (t : Nat → Int32) (n : Nat) (S0 S : gS) (q : Nat) : Prop := sI S 34 = nI ((pcs t n).2.1 q) ∧ (∃ z, sI S 35 = nI z ∧ z ≤ 699) ∧ (∃ z, sI S 42 = nI z ∧ z ≤ 699) ∧ fr pMo S0 S
theorem mo_X0 (d : Nat) (h : xH) (M : Nat) {t : Nat → Int32} {n : Nat} {S : gS} {i : Nat} (h7 : n ≤ 700) (hv : rV t n S i) (h34 : sI S 34 = -nI 1) (hd : pWd (pcs t n) i 1685221232 = false) (hm : pWd (pcs t n) i 1836021349 = false) : xm (d + 6) 149 [.ref M] (oh 11 h M S) = some (none, oh 11 h M (uI S 34 (nI ((pcs t n).2.1 i)))) := by
  have e1 := m_isWordNow (d + 4) h M S 1685221232
  have e2 := m_isWordNow (d + 4) h M S 1836021349
  have e4 := m_failR (d + 4) h M hv h34
  have e5 := place_ne h7 (t := t) i
  rw [wdN_V hv, hd] at e1
  rw [wdN_V hv, hm] at e2
  rw [E_149 _ _ _ rfl]
  simp (disch := omega) only [q_149_0, q_149_1, q_149_4, q_149_7, q_149_8, q_149_9, q_149_12, q_149_13, q_149_16, q_149_19, q_149_22, q_149_23, q_149_26, q_149_27, q_149_30, q_149_31, q_149_34, q_149_35, q_149_36, q_149_39, q_149_40, q_149_43, q_149_46, q_149_47, q_149_50, q_149_51, q_149_54, q_149_55, q_149_58, q_149_59, og_11_34, og_11_36, or_11_36, ow_11_36, og_11_35, op_11_35, og_11_37, or_11_37, ow_11_37, og_11_33, og_11_38, or_11_38, ow_11_38, og_11_32, og_11_39, or_11_39, ow_11_39, og_11_41, or_11_41, ow_11_41, og_11_42, og_11_40, or_11_40, ow_11_40, og_11_31, o_is, o_ob, ofs_len11, ↓reduceIte, k_cr, k_ci, k_oR, k_oN, k_aR, k_aN, and_true, true_and, and_self, eq_self, Nat.reduceLT, Nat.reduceLeDiff, Nat.reduceEqDiff, Nat.reduceAdd, Nat.reduceMul, Bool.true_eq_false, Bool.false_eq_true, Nat.add_sub_cancel, Nat.not_lt_zero, Nat.zero_le, k_sub, k_sb1, k_r, k_n, k_ret, k_t1, k_t0, k_nr, k_nn, k_z0, k_z1, k_zb, x_okI, lit_nI, k_in, k_cl, k_lt, k_le, k_eq, k_neg, nI_add, nI_mul, k_clt, k_cgt, k_cle, k_cge, k_ceq, bI_0, k_sh8, ne_eq, Nat.add_eq_zero_iff, Nat.one_ne_zero, Nat.succ_ne_zero, and_false, false_and, not_false_eq_true, not_true_eq_false, ite_true, ite_false, if_true, if_false, sI_uI, sJ_uI, sA_uI, sL_uI, sR_uI, sQ_uI, sI_uJ, sJ_uJ, sA_uJ, sL_uJ, sR_uJ, sQ_uJ, sI_uA, sJ_uA, sA_uA, sL_uA, sR_uA, sQ_uA, sI_uL, sJ_uL, sA_uL, sL_uL, sR_uL, sQ_uL, sI_uR, sJ_uR, sA_uR, sL_uR, sR_uR, sQ_uR, sI_uQ, sJ_uQ, sA_uQ, sL_uQ, sR_uQ, sQ_uQ, bI_f, bI_t, e1, e2, e4, e5]
theorem mo_X1 (d : Nat) (h : xH) (M : Nat) {t : Nat → Int32} {n : Nat} {S : gS} {i : Nat} (dr : Bool) (h7 : n ≤ 700) (hv : rV t n S i) (h34 : sI S 34 = -nI 1) (hd : pWd (pcs t n) i 1685221232 = dr) (hm : dr = false → pWd (pcs t n) i 1836021349 = true) (hn : pNm (pcs t n) (i + 1) = false) : xm (d + 6) 149 [.ref M] (oh 11 h M S) = some (none, oh 11 h M (uI (rdN S n (psF t n (i + 1))) 34 (nI ((pcs t n).2.1 (i + 1))))) := by
  have e1 := m_isWordNow (d + 4) h M S 1685221232
  have e2 := m_isWordNow (d + 4) h M S 1836021349
  have e4 := m_readR (d + 3) h M h7 hv
  have v1 := hv.read
  have h34' : sI (rdN S n (psF t n (i + 1))) 34 = -nI 1 := h34
  generalize rdN S n (psF t n (i + 1)) = S1 at *
  have e5 := m_isNameNow (d + 3) h M S1
  have e6 := m_failR (d + 4) h M v1 h34'
  have e7 := place_ne h7 (t := t) (i + 1)
  rw [wdN_V hv, hd] at e1
  rw [wdN_V hv] at e2
  rw [nmN_V v1, hn] at e5
  rw [E_149 _ _ _ rfl]
  cases dr
  · rw [hm rfl] at e2
    simp (disch := omega) only [q_149_0, q_149_1, q_149_4, q_149_7, q_149_8, q_149_9, q_149_12, q_149_13, q_149_16, q_149_19, q_149_22, q_149_23, q_149_26, q_149_27, q_149_30, q_149_31, q_149_34, q_149_35, q_149_36, q_149_39, q_149_40, q_149_43, q_149_46, q_149_47, q_149_50, q_149_51, q_149_54, q_149_55, q_149_58, q_149_59, og_11_34, og_11_36, or_11_36, ow_11_36, og_11_35, op_11_35, og_11_37, or_11_37, ow_11_37, og_11_33, og_11_38, or_11_38, ow_11_38, og_11_32, og_11_39, or_11_39, ow_11_39, og_11_41, or_11_41, ow_11_41, og_11_42, og_11_40, or_11_40, ow_11_40, og_11_31, o_is, o_ob, ofs_len11, ↓reduceIte, k_cr, k_ci, k_oR, k_oN, k_aR, k_aN, and_true, true_and, and_self, eq_self, Nat.reduceLT, Nat.reduceLeDiff, Nat.reduceEqDiff, Nat.reduceAdd, Nat.reduceMul, Bool.true_eq_false, Bool.false_eq_true, Nat.add_sub_cancel, Nat.not_lt_zero, Nat.zero_le, k_sub, k_sb1, k_r, k_n, k_ret, k_t1, k_t0, k_nr, k_nn, k_z0, k_z1, k_zb, x_okI, lit_nI, k_in, k_cl, k_lt, k_le, k_eq, k_neg, nI_add, nI_mul, k_clt, k_cgt, k_cle, k_cge, k_ceq, bI_0, k_sh8, ne_eq, Nat.add_eq_zero_iff, Nat.one_ne_zero, Nat.succ_ne_zero, and_false, false_and, not_false_eq_true, not_true_eq_false, ite_true, ite_false, if_true, if_false, sI_uI, sJ_uI, sA_uI, sL_uI, sR_uI, sQ_uI, sI_uJ, sJ_uJ, sA_uJ, sL_uJ, sR_uJ, sQ_uJ, sI_uA, sJ_uA, sA_uA, sL_uA, sR_uA, sQ_uA, sI_uL, sJ_uL, sA_uL, sL_uL, sR_uL, sQ_uL, sI_uR, sJ_uR, sA_uR, sL_uR, sR_uR, sQ_uR, sI_uQ, sJ_uQ, sA_uQ, sL_uQ, sR_uQ, sQ_uQ, bI_f, bI_t, e1, e2, e4, e5, e6, e7, h34, h34']
  · simp (disch := omega) only [q_149_0, q_149_1, q_149_4, q_149_7, q_149_8, q_149_9, q_149_12, q_149_13, q_149_16, q_149_19, q_149_22, q_149_23, q_149_26, q_149_27, q_149_30, q_149_31, q_149_34, q_149_35, q_149_36, q_149_39, q_149_40, q_149_43, q_149_46, q_149_47, q_149_50, q_149_51, q_149_54, q_149_55, q_149_58, q_149_59, og_11_34, og_11_36, or_11_36, ow_11_36, og_11_35, op_11_35, og_11_37, or_11_37, ow_11_37, og_11_33, og_11_38, or_11_38, ow_11_38, og_11_32, og_11_39, or_11_39, ow_11_39, og_11_41, or_11_41, ow_11_41, og_11_42, og_11_40, or_11_40, ow_11_40, og_11_31, o_is, o_ob, ofs_len11, ↓reduceIte, k_cr, k_ci, k_oR, k_oN, k_aR, k_aN, and_true, true_and, and_self, eq_self, Nat.reduceLT, Nat.reduceLeDiff, Nat.reduceEqDiff, Nat.reduceAdd, Nat.reduceMul, Bool.true_eq_false, Bool.false_eq_true, Nat.add_sub_cancel, Nat.not_lt_zero, Nat.zero_le, k_sub, k_sb1, k_r, k_n, k_ret, k_t1, k_t0, k_nr, k_nn, k_z0, k_z1, k_zb, x_okI, lit_nI, k_in, k_cl, k_lt, k_le, k_eq, k_neg, nI_add, nI_mul, k_clt, k_cgt, k_cle, k_cge, k_ceq, bI_0, k_sh8, ne_eq, Nat.add_eq_zero_iff, Nat.one_ne_zero, Nat.succ_ne_zero, and_false, false_and, not_false_eq_true, not_true_eq_false, ite_true, ite_false, if_true, if_false, sI_uI, sJ_uI, sA_uI, sL_uI, sR_uI, sQ_uI, sI_uJ, sJ_uJ, sA_uJ, sL_uJ, sR_uJ, sQ_uJ, sI_uA, sJ_uA, sA_uA, sL_uA, sR_uA, sQ_uA, sI_uL, sJ_uL, sA_uL, sL_uL, sR_uL, sQ_uL, sI_uR, sJ_uR, sA_uR, sL_uR, sR_uR, sQ_uR, sI_uQ, sJ_uQ, sA_uQ, sL_uQ, sR_uQ, sQ_uQ, bI_f, bI_t, e1, e4, e5, e6, e7, h34, h34']
theorem mo_0 (d : Nat) (h : xH) (M : Nat) {t : Nat → Int32} {n : Nat} {S : gS} {i k r : Nat} (dr : Bool) (h7 : n ≤ 700) (hv : rV t n S i) (h34 : sI S 34 = -nI 1) (h35 : sI S 35 = nI k) (h42 : sI S 42 = nI r) (hk : k < 700) (hr : r ≤ 700) (hd : pWd (pcs t n) i 1685221232 = dr) (hm : dr = false → pWd (pcs t n) i 1836021349 = true) (hn : pNm (pcs t n) (i + 1) = true) : xm (d + 6) 149 [.ref M] (oh 11 h M S) = xrun (d + 5) 149 122 [(1, .ref M), (1, .int (bI dr))] [] (oh 11 h M (rdN (mhS (rdN S n (psF t n (i + 1))) k (bI dr) ((pcs t n).2.2 (i + 1)) (nI ((pcs t n).2.1 (i + 1))) (nI r)) n (psF t n (i + 2)))) := by
  have e1 := m_isWordNow (d + 4) h M S 1685221232
  have e2 := m_isWordNow (d + 4) h M S 1836021349
  have e4 := m_readR (d + 3) h M h7 hv
  have v1 := hv.read
  have h34' : sI (rdN S n (psF t n (i + 1))) 34 = -nI 1 := h34
  have h35' : sI (rdN S n (psF t n (i + 1))) 35 = nI k := h35
  have h42' : sI (rdN S n (psF t n (i + 1))) 42 = nI r := h42
  generalize rdN S n (psF t n (i + 1)) = S1 at *
  have e5 := m_isNameNow (d + 3) h M S1
  have h32 := v1.2.2.2.2.1
  have h33 := v1.2.2.2.2.2
  have e6 := m_readR (d + 3) h M h7 (mhS_rV (k := k) (dr := bI dr) (nm := (pcs t n).2.2 (i + 1)) (a := nI ((pcs t n).2.1 (i + 1))) (f := nI r) v1)
  rw [wdN_V hv, hd] at e1
  rw [wdN_V hv] at e2
  rw [nmN_V v1, hn] at e5
  rw [E_149 _ _ _ rfl]
  unfold mhS at e6 ⊢
  cases dr
  · rw [hm rfl] at e2
    rw [bI_f] at e6 ⊢
    simp (disch := omega) only [q_149_0, q_149_1, q_149_4, q_149_7, q_149_8, q_149_9, q_149_12, q_149_13, q_149_16, q_149_19, q_149_22, q_149_23, q_149_26, q_149_27, q_149_30, q_149_31, q_149_34, q_149_35, q_149_36, q_149_39, q_149_40, q_149_43, q_149_46, q_149_47, q_149_50, q_149_51, q_149_54, q_149_55, q_149_58, q_149_59, q_149_60, q_149_63, q_149_64, q_149_67, q_149_68, q_149_69, q_149_70, q_149_73, q_149_74, q_149_77, q_149_78, q_149_81, q_149_82, q_149_83, q_149_86, q_149_87, q_149_90, q_149_91, q_149_94, q_149_95, q_149_96, q_149_99, q_149_100, q_149_103, q_149_104, q_149_105, q_149_106, q_149_109, q_149_110, q_149_113, q_149_114, q_149_117, q_149_118, q_149_119, og_11_34, og_11_36, or_11_36, ow_11_36, og_11_35, op_11_35, og_11_37, or_11_37, ow_11_37, og_11_33, og_11_38, or_11_38, ow_11_38, og_11_32, og_11_39, or_11_39, ow_11_39, og_11_41, or_11_41, ow_11_41, og_11_42, og_11_40, or_11_40, ow_11_40, og_11_31, o_is, o_ob, ofs_len11, ↓reduceIte, k_cr, k_ci, k_oR, k_oN, k_aR, k_aN, and_true, true_and, and_self, eq_self, Nat.reduceLT, Nat.reduceLeDiff, Nat.reduceEqDiff, Nat.reduceAdd, Nat.reduceMul, Bool.true_eq_false, Bool.false_eq_true, Nat.add_sub_cancel, Nat.not_lt_zero, Nat.zero_le, k_sub, k_sb1, k_r, k_n, k_ret, k_t1, k_t0, k_nr, k_nn, k_z0, k_z1, k_zb, x_okI, lit_nI, k_in, k_cl, k_lt, k_le, k_eq, k_neg, nI_add, nI_mul, k_clt, k_cgt, k_cle, k_cge, k_ceq, bI_0, k_sh8, ne_eq, Nat.add_eq_zero_iff, Nat.one_ne_zero, Nat.succ_ne_zero, and_false, false_and, not_false_eq_true, not_true_eq_false, ite_true, ite_false, if_true, if_false, sI_uI, sJ_uI, sA_uI, sL_uI, sR_uI, sQ_uI, sI_uJ, sJ_uJ, sA_uJ, sL_uJ, sR_uJ, sQ_uJ, sI_uA, sJ_uA, sA_uA, sL_uA, sR_uA, sQ_uA, sI_uL, sJ_uL, sA_uL, sL_uL, sR_uL, sQ_uL, sI_uR, sJ_uR, sA_uR, sL_uR, sR_uR, sQ_uR, sI_uQ, sJ_uQ, sA_uQ, sL_uQ, sR_uQ, sQ_uQ, a_01, a_11, bI_f, bI_t, e1, e2, e4, e5, e6, h32, h33, h34, h34', h35', h42']
  · rw [bI_t] at e6 ⊢
    simp (disch := omega) only [q_149_0, q_149_1, q_149_4, q_149_7, q_149_8, q_149_9, q_149_12, q_149_13, q_149_16, q_149_19, q_149_22, q_149_23, q_149_26, q_149_27, q_149_30, q_149_31, q_149_34, q_149_35, q_149_36, q_149_39, q_149_40, q_149_43, q_149_46, q_149_47, q_149_50, q_149_51, q_149_54, q_149_55, q_149_58, q_149_59, q_149_60, q_149_63, q_149_64, q_149_67, q_149_68, q_149_69, q_149_70, q_149_73, q_149_74, q_149_77, q_149_78, q_149_81, q_149_82, q_149_83, q_149_86, q_149_87, q_149_90, q_149_91, q_149_94, q_149_95, q_149_96, q_149_99, q_149_100, q_149_103, q_149_104, q_149_105, q_149_106, q_149_109, q_149_110, q_149_113, q_149_114, q_149_117, q_149_118, q_149_119, og_11_34, og_11_36, or_11_36, ow_11_36, og_11_35, op_11_35, og_11_37, or_11_37, ow_11_37, og_11_33, og_11_38, or_11_38, ow_11_38, og_11_32, og_11_39, or_11_39, ow_11_39, og_11_41, or_11_41, ow_11_41, og_11_42, og_11_40, or_11_40, ow_11_40, og_11_31, o_is, o_ob, ofs_len11, ↓reduceIte, k_cr, k_ci, k_oR, k_oN, k_aR, k_aN, and_true, true_and, and_self, eq_self, Nat.reduceLT, Nat.reduceLeDiff, Nat.reduceEqDiff, Nat.reduceAdd, Nat.reduceMul, Bool.true_eq_false, Bool.false_eq_true, Nat.add_sub_cancel, Nat.not_lt_zero, Nat.zero_le, k_sub, k_sb1, k_r, k_n, k_ret, k_t1, k_t0, k_nr, k_nn, k_z0, k_z1, k_zb, x_okI, lit_nI, k_in, k_cl, k_lt, k_le, k_eq, k_neg, nI_add, nI_mul, k_clt, k_cgt, k_cle, k_cge, k_ceq, bI_0, k_sh8, ne_eq, Nat.add_eq_zero_iff, Nat.one_ne_zero, Nat.succ_ne_zero, and_false, false_and, not_false_eq_true, not_true_eq_false, ite_true, ite_false, if_true, if_false, sI_uI, sJ_uI, sA_uI, sL_uI, sR_uI, sQ_uI, sI_uJ, sJ_uJ, sA_uJ, sL_uJ, sR_uJ, sQ_uJ, sI_uA, sJ_uA, sA_uA, sL_uA, sR_uA, sQ_uA, sI_uL, sJ_uL, sA_uL, sL_uL, sR_uL, sQ_uL, sI_uR, sJ_uR, sA_uR, sL_uR, sR_uR, sQ_uR, sI_uQ, sJ_uQ, sA_uQ, sL_uQ, sR_uQ, sQ_uQ, a_01, a_11, bI_f, bI_t, e1, e4, e5, e6, h32, h33, h34, h34', h35', h42']
theorem mo_dr {d : Nat} {h : xH} {M : Nat} {S S' : gS} {k : Nat} (hk : k < 700) (e : xm (d + 5) 153 [.ref M, .int (nI 59)] (oh 11 h M S) = some (none, oh 11 h M S')) (h35 : sI S' 35 = nI k) : xrun (d + 5) 149 122 [(1, .ref M), (1, .int (bI true))] [] (oh 11 h M S) = some (none, oh 11 h M (uI S' 35 (nI (k + 1)))) := by
  simp (disch := omega) only [q_149_0, q_149_1, q_149_4, q_149_7, q_149_8, q_149_9, q_149_12, q_149_13, q_149_16, q_149_19, q_149_22, q_149_23, q_149_26, q_149_27, q_149_30, q_149_31, q_149_34, q_149_35, q_149_36, q_149_39, q_149_40, q_149_43, q_149_46, q_149_47, q_149_50, q_149_51, q_149_54, q_149_55, q_149_58, q_149_59, q_149_60, q_149_63, q_149_64, q_149_67, q_149_68, q_149_69, q_149_70, q_149_73, q_149_74, q_149_77, q_149_78, q_149_81, q_149_82, q_149_83, q_149_86, q_149_87, q_149_90, q_149_91, q_149_94, q_149_95, q_149_96, q_149_99, q_149_100, q_149_103, q_149_104, q_149_105, q_149_106, q_149_109, q_149_110, q_149_113, q_149_114, q_149_117, q_149_118, q_149_119, q_149_122, q_149_123, q_149_126, q_149_127, q_149_129, q_149_132, q_149_133, q_149_134, q_149_137, q_149_138, q_149_139, q_149_142, q_149_143, q_149_144, q_149_147, q_149_150, q_149_153, q_149_154, q_149_157, q_149_158, q_149_161, q_149_162, q_149_165, q_149_166, q_149_167, q_149_170, q_149_171, q_149_174, q_149_177, q_149_178, q_149_181, q_149_182, q_149_185, q_149_186, q_149_189, q_149_190, q_149_191, q_149_194, q_149_195, q_149_198, q_149_199, q_149_202, q_149_203, q_149_204, q_149_207, q_149_208, q_149_211, q_149_212, q_149_215, q_149_216, q_149_217, q_149_220, q_149_221, q_149_222, q_149_225, q_149_226, q_149_227, q_149_230, q_149_231, q_149_233, og_11_34, og_11_36, or_11_36, ow_11_36, og_11_35, op_11_35, og_11_37, or_11_37, ow_11_37, og_11_33, og_11_38, or_11_38, ow_11_38, og_11_32, og_11_39, or_11_39, ow_11_39, og_11_41, or_11_41, ow_11_41, og_11_42, og_11_40, or_11_40, ow_11_40, og_11_31, o_is, o_ob, ofs_len11, ↓reduceIte, k_cr, k_ci, k_oR, k_oN, k_aR, k_aN, and_true, true_and, and_self, eq_self, Nat.reduceLT, Nat.reduceLeDiff, Nat.reduceEqDiff, Nat.reduceAdd, Nat.reduceMul, Bool.true_eq_false, Bool.false_eq_true, Nat.add_sub_cancel, Nat.not_lt_zero, Nat.zero_le, k_sub, k_sb1, k_r, k_n, k_ret, k_t1, k_t0, k_nr, k_nn, k_z0, k_z1, k_zb, x_okI, lit_nI, k_in, k_cl, k_lt, k_le, k_eq, k_neg, nI_add, nI_mul, k_clt, k_cgt, k_cle, k_cge, k_ceq, bI_0, k_sh8, ne_eq, Nat.add_eq_zero_iff, Nat.one_ne_zero, Nat.succ_ne_zero, and_false, false_and, not_false_eq_true, not_true_eq_false, ite_true, ite_false, if_true, if_false, sI_uI, sJ_uI, sA_uI, sL_uI, sR_uI, sQ_uI, sI_uJ, sJ_uJ, sA_uJ, sL_uJ, sR_uJ, sQ_uJ, sI_uA, sJ_uA, sA_uA, sL_uA, sR_uA, sQ_uA, sI_uL, sJ_uL, sA_uL, sL_uL, sR_uL, sQ_uL, sI_uR, sJ_uR, sA_uR, sL_uR, sR_uR, sQ_uR, sI_uQ, sJ_uQ, sA_uQ, sL_uQ, sR_uQ, sQ_uQ, bI_t, e, h35]
theorem mo_t0 (d : Nat) (h : xH) (M : Nat) {t : Nat → Int32} {n : Nat} {S : gS} {i : Nat} (h7 : n ≤ 700) (hv : rV t n S i) (h34 : sI S 34 = -nI 1) (hd : pWd (pcs t n) i 29807 = false) : xrun (d + 5) 149 122 [(1, .ref M), (1, .int (bI false))] [] (oh 11 h M S) = some (none, oh 11 h M (uI S 34 (nI ((pcs t n).2.1 i)))) := by
  have e1 := m_isWordNow (d + 4) h M S 29807
  have e4 := m_failR (d + 4) h M hv h34
  have e5 := place_ne h7 (t := t) i
  rw [wdN_V hv, hd] at e1
  simp (disch := omega) only [q_149_0, q_149_1, q_149_4, q_149_7, q_149_8, q_149_9, q_149_12, q_149_13, q_149_16, q_149_19, q_149_22, q_149_23, q_149_26, q_149_27, q_149_30, q_149_31, q_149_34, q_149_35, q_149_36, q_149_39, q_149_40, q_149_43, q_149_46, q_149_47, q_149_50, q_149_51, q_149_54, q_149_55, q_149_58, q_149_59, q_149_60, q_149_63, q_149_64, q_149_67, q_149_68, q_149_69, q_149_70, q_149_73, q_149_74, q_149_77, q_149_78, q_149_81, q_149_82, q_149_83, q_149_86, q_149_87, q_149_90, q_149_91, q_149_94, q_149_95, q_149_96, q_149_99, q_149_100, q_149_103, q_149_104, q_149_105, q_149_106, q_149_109, q_149_110, q_149_113, q_149_114, q_149_117, q_149_118, q_149_119, q_149_122, q_149_123, q_149_126, q_149_127, q_149_129, q_149_132, q_149_133, q_149_134, q_149_137, q_149_138, q_149_139, q_149_142, q_149_143, q_149_144, q_149_147, q_149_150, q_149_153, q_149_154, q_149_157, q_149_158, q_149_161, q_149_162, q_149_165, q_149_166, q_149_167, q_149_170, q_149_171, q_149_174, q_149_177, q_149_178, q_149_181, q_149_182, q_149_185, q_149_186, q_149_189, q_149_190, q_149_191, q_149_194, q_149_195, q_149_198, q_149_199, q_149_202, q_149_203, q_149_204, q_149_207, q_149_208, q_149_211, q_149_212, q_149_215, q_149_216, q_149_217, q_149_220, q_149_221, q_149_222, q_149_225, q_149_226, q_149_227, q_149_230, q_149_231, q_149_233, og_11_34, og_11_36, or_11_36, ow_11_36, og_11_35, op_11_35, og_11_37, or_11_37, ow_11_37, og_11_33, og_11_38, or_11_38, ow_11_38, og_11_32, og_11_39, or_11_39, ow_11_39, og_11_41, or_11_41, ow_11_41, og_11_42, og_11_40, or_11_40, ow_11_40, og_11_31, o_is, o_ob, ofs_len11, ↓reduceIte, k_cr, k_ci, k_oR, k_oN, k_aR, k_aN, and_true, true_and, and_self, eq_self, Nat.reduceLT, Nat.reduceLeDiff, Nat.reduceEqDiff, Nat.reduceAdd, Nat.reduceMul, Bool.true_eq_false, Bool.false_eq_true, Nat.add_sub_cancel, Nat.not_lt_zero, Nat.zero_le, k_sub, k_sb1, k_r, k_n, k_ret, k_t1, k_t0, k_nr, k_nn, k_z0, k_z1, k_zb, x_okI, lit_nI, k_in, k_cl, k_lt, k_le, k_eq, k_neg, nI_add, nI_mul, k_clt, k_cgt, k_cle, k_cge, k_ceq, bI_0, k_sh8, ne_eq, Nat.add_eq_zero_iff, Nat.one_ne_zero, Nat.succ_ne_zero, and_false, false_and, not_false_eq_true, not_true_eq_false, ite_true, ite_false, if_true, if_false, sI_uI, sJ_uI, sA_uI, sL_uI, sR_uI, sQ_uI, sI_uJ, sJ_uJ, sA_uJ, sL_uJ, sR_uJ, sQ_uJ, sI_uA, sJ_uA, sA_uA, sL_uA, sR_uA, sQ_uA, sI_uL, sJ_uL, sA_uL, sL_uL, sR_uL, sQ_uL, sI_uR, sJ_uR, sA_uR, sL_uR, sR_uR, sQ_uR, sI_uQ, sJ_uQ, sA_uQ, sL_uQ, sR_uQ, sQ_uQ, bI_f, bI_t, e1, e4, e5]
theorem mo_t1 (d : Nat) (h : xH) (M : Nat) {t : Nat → Int32} {n : Nat} {S : gS} {i : Nat} (h7 : n ≤ 700) (hv : rV t n S i) (h34 : sI S 34 = -nI 1) (hd : pWd (pcs t n) i 29807 = true) (hn : pNm (pcs t n) (i + 1) = false) : xrun (d + 5) 149 122 [(1, .ref M), (1, .int (bI false))] [] (oh 11 h M S) = some (none, oh 11 h M (uI (rdN S n (psF t n (i + 1))) 34 (nI ((pcs t n).2.1 (i + 1))))) := by
  have e1 := m_isWordNow (d + 4) h M S 29807
  have e4 := m_readR (d + 3) h M h7 hv
  have v1 := hv.read
  have h34' : sI (rdN S n (psF t n (i + 1))) 34 = -nI 1 := h34
  generalize rdN S n (psF t n (i + 1)) = S1 at *
  have e5 := m_isNameNow (d + 3) h M S1
  have e6 := m_failR (d + 4) h M v1 h34'
  have e7 := place_ne h7 (t := t) (i + 1)
  rw [wdN_V hv, hd] at e1
  rw [nmN_V v1, hn] at e5
  simp (disch := omega) only [q_149_0, q_149_1, q_149_4, q_149_7, q_149_8, q_149_9, q_149_12, q_149_13, q_149_16, q_149_19, q_149_22, q_149_23, q_149_26, q_149_27, q_149_30, q_149_31, q_149_34, q_149_35, q_149_36, q_149_39, q_149_40, q_149_43, q_149_46, q_149_47, q_149_50, q_149_51, q_149_54, q_149_55, q_149_58, q_149_59, q_149_60, q_149_63, q_149_64, q_149_67, q_149_68, q_149_69, q_149_70, q_149_73, q_149_74, q_149_77, q_149_78, q_149_81, q_149_82, q_149_83, q_149_86, q_149_87, q_149_90, q_149_91, q_149_94, q_149_95, q_149_96, q_149_99, q_149_100, q_149_103, q_149_104, q_149_105, q_149_106, q_149_109, q_149_110, q_149_113, q_149_114, q_149_117, q_149_118, q_149_119, q_149_122, q_149_123, q_149_126, q_149_127, q_149_129, q_149_132, q_149_133, q_149_134, q_149_137, q_149_138, q_149_139, q_149_142, q_149_143, q_149_144, q_149_147, q_149_150, q_149_153, q_149_154, q_149_157, q_149_158, q_149_161, q_149_162, q_149_165, q_149_166, q_149_167, q_149_170, q_149_171, q_149_174, q_149_177, q_149_178, q_149_181, q_149_182, q_149_185, q_149_186, q_149_189, q_149_190, q_149_191, q_149_194, q_149_195, q_149_198, q_149_199, q_149_202, q_149_203, q_149_204, q_149_207, q_149_208, q_149_211, q_149_212, q_149_215, q_149_216, q_149_217, q_149_220, q_149_221, q_149_222, q_149_225, q_149_226, q_149_227, q_149_230, q_149_231, q_149_233, og_11_34, og_11_36, or_11_36, ow_11_36, og_11_35, op_11_35, og_11_37, or_11_37, ow_11_37, og_11_33, og_11_38, or_11_38, ow_11_38, og_11_32, og_11_39, or_11_39, ow_11_39, og_11_41, or_11_41, ow_11_41, og_11_42, og_11_40, or_11_40, ow_11_40, og_11_31, o_is, o_ob, ofs_len11, ↓reduceIte, k_cr, k_ci, k_oR, k_oN, k_aR, k_aN, and_true, true_and, and_self, eq_self, Nat.reduceLT, Nat.reduceLeDiff, Nat.reduceEqDiff, Nat.reduceAdd, Nat.reduceMul, Bool.true_eq_false, Bool.false_eq_true, Nat.add_sub_cancel, Nat.not_lt_zero, Nat.zero_le, k_sub, k_sb1, k_r, k_n, k_ret, k_t1, k_t0, k_nr, k_nn, k_z0, k_z1, k_zb, x_okI, lit_nI, k_in, k_cl, k_lt, k_le, k_eq, k_neg, nI_add, nI_mul, k_clt, k_cgt, k_cle, k_cge, k_ceq, bI_0, k_sh8, ne_eq, Nat.add_eq_zero_iff, Nat.one_ne_zero, Nat.succ_ne_zero, and_false, false_and, not_false_eq_true, not_true_eq_false, ite_true, ite_false, if_true, if_false, sI_uI, sJ_uI, sA_uI, sL_uI, sR_uI, sQ_uI, sI_uJ, sJ_uJ, sA_uJ, sL_uJ, sR_uJ, sQ_uJ, sI_uA, sJ_uA, sA_uA, sL_uA, sR_uA, sQ_uA, sI_uL, sJ_uL, sA_uL, sL_uL, sR_uL, sQ_uL, sI_uR, sJ_uR, sA_uR, sL_uR, sR_uR, sQ_uR, sI_uQ, sJ_uQ, sA_uQ, sL_uQ, sR_uQ, sQ_uQ, bI_f, bI_t, e1, e4, e5, e6, e7, h34, h34']
theorem mo_t1j (d : Nat) (h : xH) (M : Nat) {t : Nat → Int32} {n : Nat} {S : gS} {i j : Nat} (hj : j = i + 1) (h7 : n ≤ 700) (hv : rV t n S i) (h34 : sI S 34 = -nI 1) (hd : pWd (pcs t n) i 29807 = true) (hn : pNm (pcs t n) j = false) : xrun (d + 5) 149 122 [(1, .ref M), (1, .int (bI false))] [] (oh 11 h M S) = some (none, oh 11 h M (uI (rdN S n (psF t n j)) 34 (nI ((pcs t n).2.1 j)))) := by
  subst hj
  exact mo_t1 d h M h7 hv h34 hd hn
theorem mo_t2 (d : Nat) (h : xH) (M : Nat) {t : Nat → Int32} {n : Nat} {S : gS} {i k : Nat} (h7 : n ≤ 700) (hv : rV t n S i) (h34 : sI S 34 = -nI 1) (h35 : sI S 35 = nI k) (hk : k < 700) (hd : pWd (pcs t n) i 29807 = true) (hn : pNm (pcs t n) (i + 1) = true) : xrun (d + 5) 149 122 [(1, .ref M), (1, .int (bI false))] [] (oh 11 h M S) = xrun (d + 5) 149 230 [(1, .ref M), (1, .int (bI false))] [] (oh 11 h M (uI (rdN (uA (uL (rdN S n (psF t n (i + 1))) 39 k ((pcs t n).2.2 (i + 1))) 40 k (nI ((pcs t n).2.1 (i + 1)))) n (psF t n (i + 2))) 35 (nI (k + 1)))) := by
  have e1 := m_isWordNow (d + 4) h M S 29807
  have e4 := m_readR (d + 3) h M h7 hv
  have v1 := hv.read
  have h34' : sI (rdN S n (psF t n (i + 1))) 34 = -nI 1 := h34
  have h35' : sI (rdN S n (psF t n (i + 1))) 35 = nI k := h35
  generalize rdN S n (psF t n (i + 1)) = S1 at *
  have e5 := m_isNameNow (d + 3) h M S1
  have h32 := v1.2.2.2.2.1
  have h33 := v1.2.2.2.2.2
  have v2 : rV t n (uA (uL S1 39 k ((pcs t n).2.2 (i + 1))) 40 k (nI ((pcs t n).2.1 (i + 1)))) (i + 1) := rV.uA (S := uL S1 39 k ((pcs t n).2.2 (i + 1))) v1 (by decide)
  have e6 := m_readRj (d + 3) h M (j := i + 2) rfl h7 v2
  have h35'' : sI (rdN (uA (uL S1 39 k ((pcs t n).2.2 (i + 1))) 40 k (nI ((pcs t n).2.1 (i + 1)))) n (psF t n (i + 2))) 35 = nI k := (rd_I (by decide)).trans h35'
  rw [wdN_V hv, hd] at e1
  rw [nmN_V v1, hn] at e5
  generalize rdN (uA (uL S1 39 k ((pcs t n).2.2 (i + 1))) 40 k (nI ((pcs t n).2.1 (i + 1)))) n (psF t n (i + 2)) = S2 at *
  simp (disch := omega) only [q_149_0, q_149_1, q_149_4, q_149_7, q_149_8, q_149_9, q_149_12, q_149_13, q_149_16, q_149_19, q_149_22, q_149_23, q_149_26, q_149_27, q_149_30, q_149_31, q_149_34, q_149_35, q_149_36, q_149_39, q_149_40, q_149_43, q_149_46, q_149_47, q_149_50, q_149_51, q_149_54, q_149_55, q_149_58, q_149_59, q_149_60, q_149_63, q_149_64, q_149_67, q_149_68, q_149_69, q_149_70, q_149_73, q_149_74, q_149_77, q_149_78, q_149_81, q_149_82, q_149_83, q_149_86, q_149_87, q_149_90, q_149_91, q_149_94, q_149_95, q_149_96, q_149_99, q_149_100, q_149_103, q_149_104, q_149_105, q_149_106, q_149_109, q_149_110, q_149_113, q_149_114, q_149_117, q_149_118, q_149_119, q_149_122, q_149_123, q_149_126, q_149_127, q_149_129, q_149_132, q_149_133, q_149_134, q_149_137, q_149_138, q_149_139, q_149_142, q_149_143, q_149_144, q_149_147, q_149_150, q_149_153, q_149_154, q_149_157, q_149_158, q_149_161, q_149_162, q_149_165, q_149_166, q_149_167, q_149_170, q_149_171, q_149_174, q_149_177, q_149_178, q_149_181, q_149_182, q_149_185, q_149_186, q_149_189, q_149_190, q_149_191, q_149_194, q_149_195, q_149_198, q_149_199, q_149_202, q_149_203, q_149_204, q_149_207, q_149_208, q_149_211, q_149_212, q_149_215, q_149_216, q_149_217, q_149_220, q_149_221, q_149_222, q_149_225, q_149_226, q_149_227, og_11_34, og_11_36, or_11_36, ow_11_36, og_11_35, op_11_35, og_11_37, or_11_37, ow_11_37, og_11_33, og_11_38, or_11_38, ow_11_38, og_11_32, og_11_39, or_11_39, ow_11_39, og_11_41, or_11_41, ow_11_41, og_11_42, og_11_40, or_11_40, ow_11_40, og_11_31, o_is, o_ob, ofs_len11, ↓reduceIte, k_cr, k_ci, k_oR, k_oN, k_aR, k_aN, and_true, true_and, and_self, eq_self, Nat.reduceLT, Nat.reduceLeDiff, Nat.reduceEqDiff, Nat.reduceAdd, Nat.reduceMul, Bool.true_eq_false, Bool.false_eq_true, Nat.add_sub_cancel, Nat.not_lt_zero, Nat.zero_le, k_sub, k_sb1, k_r, k_n, k_ret, k_t1, k_t0, k_nr, k_nn, k_z0, k_z1, k_zb, x_okI, lit_nI, k_in, k_cl, k_lt, k_le, k_eq, k_neg, nI_add, nI_mul, k_clt, k_cgt, k_cle, k_cge, k_ceq, bI_0, k_sh8, ne_eq, Nat.add_eq_zero_iff, Nat.one_ne_zero, Nat.succ_ne_zero, and_false, false_and, not_false_eq_true, not_true_eq_false, ite_true, ite_false, if_true, if_false, sI_uI, sJ_uI, sA_uI, sL_uI, sR_uI, sQ_uI, sI_uJ, sJ_uJ, sA_uJ, sL_uJ, sR_uJ, sQ_uJ, sI_uA, sJ_uA, sA_uA, sL_uA, sR_uA, sQ_uA, sI_uL, sJ_uL, sA_uL, sL_uL, sR_uL, sQ_uL, sI_uR, sJ_uR, sA_uR, sL_uR, sR_uR, sQ_uR, sI_uQ, sJ_uQ, sA_uQ, sL_uQ, sR_uQ, sQ_uQ, bI_f, bI_t, e1, e4, e5, e6, h32, h33, h34, h34', h35', h35'']
theorem mo_t2j (d : Nat) (h : xH) (M : Nat) {t : Nat → Int32} {n : Nat} {S : gS} {i j1 j2 k : Nat} (hj1 : j1 = i + 1) (hj2 : j2 = i + 2) (h7 : n ≤ 700) (hv : rV t n S i) (h34 : sI S 34 = -nI 1) (h35 : sI S 35 = nI k) (hk : k < 700) (hd : pWd (pcs t n) i 29807 = true) (hn : pNm (pcs t n) j1 = true) : xrun (d + 5) 149 122 [(1, .ref M), (1, .int (bI false))] [] (oh 11 h M S) = xrun (d + 5) 149 230 [(1, .ref M), (1, .int (bI false))] [] (oh 11 h M (uI (rdN (uA (uL (rdN S n (psF t n j1)) 39 k ((pcs t n).2.2 j1)) 40 k (nI ((pcs t n).2.1 j1))) n (psF t n j2)) 35 (nI (k + 1)))) := by
  subst hj1
  subst hj2
  exact mo_t2 d h M h7 hv h34 h35 hk hd hn
theorem mo_br {d : Nat} {h : xH} {M : Nat} {S S' : gS} {dr : Int32} (e : xm (d + 5) 153 [.ref M, .int (nI 123)] (oh 11 h M S) = some (none, oh 11 h M S')) : xrun (d + 5) 149 230 [(1, .ref M), (1, .int dr)] [] (oh 11 h M S) = xrun (d + 5) 149 236 [(1, .ref M), (1, .int dr)] [] (oh 11 h M S') := by
  simp (disch := omega) only [q_149_0, q_149_1, q_149_4, q_149_7, q_149_8, q_149_9, q_149_12, q_149_13, q_149_16, q_149_19, q_149_22, q_149_23, q_149_26, q_149_27, q_149_30, q_149_31, q_149_34, q_149_35, q_149_36, q_149_39, q_149_40, q_149_43, q_149_46, q_149_47, q_149_50, q_149_51, q_149_54, q_149_55, q_149_58, q_149_59, q_149_60, q_149_63, q_149_64, q_149_67, q_149_68, q_149_69, q_149_70, q_149_73, q_149_74, q_149_77, q_149_78, q_149_81, q_149_82, q_149_83, q_149_86, q_149_87, q_149_90, q_149_91, q_149_94, q_149_95, q_149_96, q_149_99, q_149_100, q_149_103, q_149_104, q_149_105, q_149_106, q_149_109, q_149_110, q_149_113, q_149_114, q_149_117, q_149_118, q_149_119, q_149_122, q_149_123, q_149_126, q_149_127, q_149_129, q_149_132, q_149_133, q_149_134, q_149_137, q_149_138, q_149_139, q_149_142, q_149_143, q_149_144, q_149_147, q_149_150, q_149_153, q_149_154, q_149_157, q_149_158, q_149_161, q_149_162, q_149_165, q_149_166, q_149_167, q_149_170, q_149_171, q_149_174, q_149_177, q_149_178, q_149_181, q_149_182, q_149_185, q_149_186, q_149_189, q_149_190, q_149_191, q_149_194, q_149_195, q_149_198, q_149_199, q_149_202, q_149_203, q_149_204, q_149_207, q_149_208, q_149_211, q_149_212, q_149_215, q_149_216, q_149_217, q_149_220, q_149_221, q_149_222, q_149_225, q_149_226, q_149_227, q_149_230, q_149_231, q_149_233, og_11_34, og_11_36, or_11_36, ow_11_36, og_11_35, op_11_35, og_11_37, or_11_37, ow_11_37, og_11_33, og_11_38, or_11_38, ow_11_38, og_11_32, og_11_39, or_11_39, ow_11_39, og_11_41, or_11_41, ow_11_41, og_11_42, og_11_40, or_11_40, ow_11_40, og_11_31, o_is, o_ob, ofs_len11, ↓reduceIte, k_cr, k_ci, k_oR, k_oN, k_aR, k_aN, and_true, true_and, and_self, eq_self, Nat.reduceLT, Nat.reduceLeDiff, Nat.reduceEqDiff, Nat.reduceAdd, Nat.reduceMul, Bool.true_eq_false, Bool.false_eq_true, Nat.add_sub_cancel, Nat.not_lt_zero, Nat.zero_le, k_sub, k_sb1, k_r, k_n, k_ret, k_t1, k_t0, k_nr, k_nn, k_z0, k_z1, k_zb, x_okI, lit_nI, k_in, k_cl, k_lt, k_le, k_eq, k_neg, nI_add, nI_mul, k_clt, k_cgt, k_cle, k_cge, k_ceq, bI_0, k_sh8, ne_eq, Nat.add_eq_zero_iff, Nat.one_ne_zero, Nat.succ_ne_zero, and_false, false_and, not_false_eq_true, not_true_eq_false, ite_true, ite_false, if_true, if_false, e]
def moR (d : Nat) (h : xH) (M : Nat) (t : Nat → Int32) (n N : Nat) (S0 : gS) (i : Nat) (L : List mT) (S : gS) : Nat ⊕ (Nat × mT) → Prop
  | .inl q => q ≤ N ∧ ∃ S', xm (d + 6) 149 [.ref M] (oh 11 h M S) = some (none, oh 11 h M S') ∧ bdM t n S0 S' q
  | .inr (j, m) => i + 3 + 3 * m.2.2.2.2.2.length + (acR m.2.2.2.2.2).length ≤ j ∧ j ≤ N ∧ ∃ S', xm (d + 6) 149 [.ref M] (oh 11 h M S) = some (none, oh 11 h M S') ∧ vM t n S0 S' j (L ++ [m])
theorem mhS_re {S : gS} {k : Nat} {dr : Int32} {nm : Int64} {a f : Int32} {R : List rT} (h : reR S R) : reR (mhS S k dr nm a f) R := h.same (mhS_A (by decide)) (mhS_L (by decide)) (mhS_A (by decide)) (mhS_A (by decide)) (mhS_A (by decide)) (mhS_A (by decide))
theorem mhS_isA {S : gS} {k : Nat} {dr : Int32} {nm : Int64} {a f : Int32} {A : List aT} (h : isA S A) : isA (mhS S k dr nm a f) A := h.same rfl (mhS_A (by decide)) (mhS_L (by decide)) (mhS_A (by decide))
theorem mo_X1j (d : Nat) (h : xH) (M : Nat) {t : Nat → Int32} {n : Nat} {S : gS} {i j : Nat} (hj : j = i + 1) (dr : Bool) (h7 : n ≤ 700) (hv : rV t n S i) (h34 : sI S 34 = -nI 1) (hd : pWd (pcs t n) i 1685221232 = dr) (hm : dr = false → pWd (pcs t n) i 1836021349 = true) (hn : pNm (pcs t n) j = false) : xm (d + 6) 149 [.ref M] (oh 11 h M S) = some (none, oh 11 h M (uI (rdN S n (psF t n j)) 34 (nI ((pcs t n).2.1 j)))) := by
  subst hj
  exact mo_X1 d h M dr h7 hv h34 hd hm hn
theorem mo_0j (d : Nat) (h : xH) (M : Nat) {t : Nat → Int32} {n : Nat} {S : gS} {i j1 j2 k r : Nat} (hj1 : j1 = i + 1) (hj2 : j2 = i + 2) (dr : Bool) (h7 : n ≤ 700) (hv : rV t n S i) (h34 : sI S 34 = -nI 1) (h35 : sI S 35 = nI k) (h42 : sI S 42 = nI r) (hk : k < 700) (hr : r ≤ 700) (hd : pWd (pcs t n) i 1685221232 = dr) (hm : dr = false → pWd (pcs t n) i 1836021349 = true) (hn : pNm (pcs t n) j1 = true) : xm (d + 6) 149 [.ref M] (oh 11 h M S) = xrun (d + 5) 149 122 [(1, .ref M), (1, .int (bI dr))] [] (oh 11 h M (rdN (mhS (rdN S n (psF t n j1)) k (bI dr) ((pcs t n).2.2 j1) (nI ((pcs t n).2.1 j1)) (nI r)) n (psF t n j2))) := by
  subst hj1
  subst hj2
  exact mo_0 d h M dr h7 hv h34 h35 h42 hk hr hd hm hn
theorem uI_o {S : gS} {k q : Nat} {v : Int32} (h : q ≠ k) : sI (uI S k v) q = sI S q := by
  rw [sI_uI, if_neg h]
theorem uI_s {S : gS} {k : Nat} {v : Int32} : sI (uI S k v) k = v := by
  rw [sI_uI, if_pos rfl]
theorem reM.uI {S : gS} {L : List mT} {k : Nat} {v : Int32} (h : reM S L) : reM (uI S k v) L := h.congr fun q _ => ⟨rfl, rfl, rfl, rfl, rfl, rfl⟩
theorem reR.uI {S : gS} {R : List rT} {k : Nat} {v : Int32} (h : reR S R) : reR (uI S k v) R := h.congr fun q _ => ⟨rfl, rfl, rfl, rfl, rfl, rfl⟩
theorem isA.uI {S : gS} {A : List aT} {k : Nat} {v : Int32} (h : isA S A) (hk : 49 ≠ k) : isA (uI S k v) A := h.same (uI_o hk) rfl rfl rfl
theorem rV.uI {t : Nat → Int32} {n i : Nat} {S : gS} {k : Nat} {v : Int32} (h : rV t n S i) (hk : ¬ (k = 29 ∨ k = 30 ∨ k = 31 ∨ k = 32)) : rV t n (uI S k v) i := ⟨h.1, (uI_o (by omega)).trans h.2.1, (uI_o (by omega)).trans h.2.2.1, (uI_o (by omega)).trans h.2.2.2.1, (uI_o (by omega)).trans h.2.2.2.2.1, h.2.2.2.2.2⟩
def mvG (p : pP) (i i1 i2 i3 i4 i5 : Nat) : Nat ⊕ (Nat × mT) :=
  if pWd p i 1685221232 = true then (if pNm p i1 = true then (if p.1 i2 = nI 59 then .inr (i3, (true, p.2.2 i1, p.2.1 i1, 0, 0, [])) else .inl i2) else .inl i1)
  else if pWd p i 1836021349 = true then (if pNm p i1 = true then (if pWd p i2 29807 = true then (if pNm p i3 = true then (if p.1 i4 = nI 123 then (match rlF p 701 i5 with
      | .inl q => .inl q
      | .inr (q, L) => .inr (q, (false, p.2.2 i1, p.2.1 i1, p.2.2 i3, p.2.1 i3, L))) else .inl i4) else .inl i3) else .inl i2) else .inl i1)
  else .inl i
theorem mvF_G (p : pP) (i : Nat) : mvF p i = mvG p i (i + 1) (i + 2) (i + 3) (i + 4) (i + 5) := rfl
theorem m_moveG (d : Nat) (h : xH) (M : Nat) {t : Nat → Int32} {n N : Nat} {S0 S : gS} {i i1 i2 i3 i4 i5 : Nat} {L : List mT} (e1 : i1 = i + 1) (e2 : i2 = i + 2) (e3 : i3 = i + 3) (e4 : i4 = i + 4) (e5 : i5 = i + 5) (h7 : n ≤ 700) (hN : nN (pcs t n) N) (hv : vM t n S0 S i L) (hl : 3 * L.length + 3 * (ruM L).length + (acR (ruM L)).length ≤ i) (hi : i ≤ N) : moR d h M t n N S0 i L S (mvG (pcs t n) i i1 i2 i3 i4 i5) := by
  obtain ⟨v, h34, h35, hm, h42, hre, hA, hfr⟩ := hv
  have hN7 := hN.1
  have wd1 : ∀ w, pWd (pcs t n) i w = true → (pcs t n).1 i = nI 1 := by
    intro w q
    unfold pWd at q
    rw [Bool.and_eq_true, decide_eq_true_eq] at q
    exact q.1
  have key : ∀ dr : Bool, pWd (pcs t n) i 1685221232 = dr → (dr = false → pWd (pcs t n) i 1836021349 = true) → i < N → (pNm (pcs t n) i1 = false → moR d h M t n N S0 i L S (.inl i1)) ∧ (pNm (pcs t n) i1 = true → i2 ≤ N ∧ ∃ S3, xm (d + 6) 149 [.ref M] (oh 11 h M S) = xrun (d + 5) 149 122 [(1, .ref M), (1, .int (bI dr))] [] (oh 11 h M S3) ∧ rV t n S3 i2 ∧ sI S3 34 = -nI 1 ∧ sI S3 35 = nI L.length ∧ reM S3 L ∧ sI S3 42 = nI (ruM L).length ∧ reR S3 (ruM L) ∧ isA S3 (acR (ruM L)) ∧ fr pMo S0 S3 ∧ (sA S3 36 L.length = bI dr ∧ sL S3 37 L.length = (pcs t n).2.2 i1 ∧ sA S3 38 L.length = nI ((pcs t n).2.1 i1) ∧ sL S3 39 L.length = 0 ∧ sA S3 41 L.length = nI (ruM L).length)) := by
    intro dr hd hm2 hj
    refine ⟨fun hn => ?_, fun hn => ?_⟩
    · exact ⟨by omega, _, mo_X1j d h M e1 dr h7 v h34 hd hm2 hn, uI_s, ⟨L.length, (uI_o (by decide)).trans ((rd_I (by decide)).trans h35), by omega⟩, ⟨(ruM L).length, (uI_o (by decide)).trans ((rd_I (by decide)).trans h42), by omega⟩, (hfr.rdN (by decide) (by decide) (by decide) (by decide)).uI (by decide)⟩
    · have hj2 : i2 ≤ N := by
        have := hN.ltc (show i1 ≤ N by omega) (pNm_1 hn).1 (by decide)
        omega
      have e := mo_0j d h M e1 e2 dr h7 v h34 h35 h42 (by omega) (by omega) hd hm2 hn
      have v1 : rV t n (rdN S n (psF t n i1)) i1 := v.rd e1
      have g1 : reM (rdN S n (psF t n i1)) L := hm.rd
      have g2 : reR (rdN S n (psF t n i1)) (ruM L) := hre.rd
      have g3 : isA (rdN S n (psF t n i1)) (acR (ruM L)) := hA.rd
      have g4 : fr pMo S0 (rdN S n (psF t n i1)) := hfr.rdN (by decide) (by decide) (by decide) (by decide)
      have g5 : sI (rdN S n (psF t n i1)) 34 = -nI 1 := (rd_I (by decide)).trans h34
      have g6 : sI (rdN S n (psF t n i1)) 35 = nI L.length := (rd_I (by decide)).trans h35
      have g7 : sI (rdN S n (psF t n i1)) 42 = nI (ruM L).length := (rd_I (by decide)).trans h42
      generalize rdN S n (psF t n i1) = S1 at *
      have k1 : rV t n (mhS S1 L.length (bI dr) ((pcs t n).2.2 i1) (nI ((pcs t n).2.1 i1)) (nI (ruM L).length)) i1 := mhS_rV v1
      have k34 : sI (mhS S1 L.length (bI dr) ((pcs t n).2.2 i1) (nI ((pcs t n).2.1 i1)) (nI (ruM L).length)) 34 = -nI 1 := g5
      have k35 : sI (mhS S1 L.length (bI dr) ((pcs t n).2.2 i1) (nI ((pcs t n).2.1 i1)) (nI (ruM L).length)) 35 = nI L.length := g6
      have k42 : sI (mhS S1 L.length (bI dr) ((pcs t n).2.2 i1) (nI ((pcs t n).2.1 i1)) (nI (ruM L).length)) 42 = nI (ruM L).length := g7
      have km : reM (mhS S1 L.length (bI dr) ((pcs t n).2.2 i1) (nI ((pcs t n).2.1 i1)) (nI (ruM L).length)) L := mhS_reM g1
      have kr : reR (mhS S1 L.length (bI dr) ((pcs t n).2.2 i1) (nI ((pcs t n).2.1 i1)) (nI (ruM L).length)) (ruM L) := mhS_re g2
      have kA : isA (mhS S1 L.length (bI dr) ((pcs t n).2.2 i1) (nI ((pcs t n).2.1 i1)) (nI (ruM L).length)) (acR (ruM L)) := mhS_isA g3
      have kf : fr pMo S0 (mhS S1 L.length (bI dr) ((pcs t n).2.2 i1) (nI ((pcs t n).2.1 i1)) (nI (ruM L).length)) := mhS_fr g4
      have kat := mhS_at S1 L.length (bI dr) ((pcs t n).2.2 i1) (nI ((pcs t n).2.1 i1)) (nI (ruM L).length)
      generalize mhS S1 L.length (bI dr) ((pcs t n).2.2 i1) (nI ((pcs t n).2.1 i1)) (nI (ruM L).length) = Y at *
      refine ⟨hj2, _, e, k1.rd (by omega), (rd_I (by decide)).trans k34, (rd_I (by decide)).trans k35, km.rd, (rd_I (by decide)).trans k42, kr.rd, kA.rd, kf.rdN (by decide) (by decide) (by decide) (by decide), ?_⟩
      rw [rd_A, rd_L]
      exact kat
  suffices main : ∀ p, p = pcs t n → moR d h M t n N S0 i L S (mvG p i i1 i2 i3 i4 i5) from main _ rfl
  intro p hp
  unfold mvG
  by_cases cd : pWd p i 1685221232 = true
  · rw [if_pos cd]
    rw [hp] at cd
    have hj := hN.ltc hi (wd1 _ cd) (by decide)
    obtain ⟨k1, k2⟩ := key true cd (fun z => by cases z) hj
    by_cases cn : pNm p i1 = true
    · rw [if_pos cn]
      rw [hp] at cn
      obtain ⟨hj2, S3, e, v3, a34, a35, am, a42, ar, aA, af, at1, at2, at3, at4, at5⟩ := k2 cn
      by_cases cs : p.1 i2 = nI 59
      · rw [if_pos cs]
        rw [hp] at cs
        have hj3 : i3 ≤ N := by
          have := hN.ltc hj2 cs (by decide)
          omega
        subst hp
        refine ⟨by show i + 3 + 3 * 0 + 0 ≤ i3; omega, hj3, _, e.trans (mo_dr (k := L.length) (by omega) (m_signOj (d + 2) h M (j := i3) (by omega) h7 v3 a34 cs) ((rd_I (by decide)).trans a35)), (v3.rd (by omega)).uI (by decide), (uI_o (by decide)).trans ((rd_I (by decide)).trans a34), by rw [List.length_append]; exact uI_s, ?_, ?_, ?_, ?_, (af.rdN (by decide) (by decide) (by decide) (by decide)).uI (by decide)⟩
        · have x : reM S3 (L ++ [(true, (pcs t n).2.2 i1, (pcs t n).2.1 i1, 0, 0, [])]) := am.snoc ⟨at1, at2, at3, at4, fun z => by cases z⟩ at5
          exact x.rd.uI
        · rw [ruM_snoc, List.append_nil]
          exact (uI_o (by decide)).trans ((rd_I (by decide)).trans a42)
        · rw [ruM_snoc, List.append_nil]
          exact ar.rd.uI
        · rw [ruM_snoc, List.append_nil]
          exact aA.rd.uI (by decide)
      · rw [if_neg cs]
        rw [hp] at cs
        subst hp
        exact ⟨hj2, _, e.trans (mo_dr (k := L.length) (by omega) (m_signB (d + 2) h M h7 v3 a34 cs) a35), rfl, ⟨L.length + 1, rfl, by omega⟩, ⟨(ruM L).length, a42, by omega⟩, (af.uI (by decide)).uI (by decide)⟩
    · rw [if_neg cn]
      rw [hp] at cn
      rw [Bool.not_eq_true] at cn
      exact k1 cn
  · rw [if_neg cd]
    rw [hp] at cd
    rw [Bool.not_eq_true] at cd
    by_cases cm : pWd p i 1836021349 = true
    · rw [if_pos cm]
      rw [hp] at cm
      have hj := hN.ltc hi (wd1 _ cm) (by decide)
      obtain ⟨k1, k2⟩ := key false cd (fun _ => cm) hj
      by_cases cn : pNm p i1 = true
      · rw [if_pos cn]
        rw [hp] at cn
        obtain ⟨hj2, S3, e, v3, a34, a35, am, a42, ar, aA, af, at1, at2, at3, at4, at5⟩ := k2 cn
        by_cases ct : pWd p i2 29807 = true
        · rw [if_pos ct]
          rw [hp] at ct
          have ct1 : (pcs t n).1 i2 = nI 1 := by
            unfold pWd at ct
            rw [Bool.and_eq_true, decide_eq_true_eq] at ct
            exact ct.1
          have hj3 : i3 ≤ N := by
            have := hN.ltc hj2 ct1 (by decide)
            omega
          by_cases cn2 : pNm p i3 = true
          · rw [if_pos cn2]
            rw [hp] at cn2
            have hj4 : i4 ≤ N := by
              have := hN.ltc hj3 (pNm_1 cn2).1 (by decide)
              omega
            have E2 := e.trans (mo_t2j d h M (j1 := i3) (j2 := i4) (by omega) (by omega) h7 v3 a34 a35 (by omega) ct cn2)
            have w1 : rV t n (rdN S3 n (psF t n i3)) i3 := v3.rd (by omega)
            have w34 : sI (rdN S3 n (psF t n i3)) 34 = -nI 1 := (rd_I (by decide)).trans a34
            have w42 : sI (rdN S3 n (psF t n i3)) 42 = nI (ruM L).length := (rd_I (by decide)).trans a42
            have wm : reM (rdN S3 n (psF t n i3)) L := am.rd
            have wr : reR (rdN S3 n (psF t n i3)) (ruM L) := ar.rd
            have wA : isA (rdN S3 n (psF t n i3)) (acR (ruM L)) := aA.rd
            have wf : fr pMo S0 (rdN S3 n (psF t n i3)) := af.rdN (by decide) (by decide) (by decide) (by decide)
            have wat : sA (rdN S3 n (psF t n i3)) 36 L.length = bI false ∧ sL (rdN S3 n (psF t n i3)) 37 L.length = (pcs t n).2.2 i1 ∧ sA (rdN S3 n (psF t n i3)) 38 L.length = nI ((pcs t n).2.1 i1) ∧ sA (rdN S3 n (psF t n i3)) 41 L.length = nI (ruM L).length := by
              rw [rd_A, rd_L]
              exact ⟨at1, at2, at3, at5⟩
            generalize rdN S3 n (psF t n i3) = S4 at *
            have u1 : rV t n (uA (uL S4 39 L.length ((pcs t n).2.2 i3)) 40 L.length (nI ((pcs t n).2.1 i3))) i3 := rV.uA (S := uL S4 39 L.length ((pcs t n).2.2 i3)) w1 (by decide)
            have u34 : sI (uA (uL S4 39 L.length ((pcs t n).2.2 i3)) 40 L.length (nI ((pcs t n).2.1 i3))) 34 = -nI 1 := w34
            have u42 : sI (uA (uL S4 39 L.length ((pcs t n).2.2 i3)) 40 L.length (nI ((pcs t n).2.1 i3))) 42 = nI (ruM L).length := w42
            have um : ∀ Rl, reM (uA (uL S4 39 L.length ((pcs t n).2.2 i3)) 40 L.length (nI ((pcs t n).2.1 i3))) (L ++ [(false, (pcs t n).2.2 i1, (pcs t n).2.1 i1, (pcs t n).2.2 i3, (pcs t n).2.1 i3, Rl)]) := by
              intro Rl
              refine reM.snoc ?_ ⟨?_, ?_, ?_, ?_, fun _ => ?_⟩ ?_
              · refine wm.congr fun q hq => ⟨by rw [sA_uA_ne _ _ _ (by decide)]; rfl, by show sL (uL S4 39 _ _) 37 q = _; rw [sL_uL_ne _ _ _ (by decide)], by rw [sA_uA_ne _ _ _ (by decide)]; rfl, ?_, ?_, by rw [sA_uA_ne _ _ _ (by decide)]; rfl⟩
                · show sL (uL S4 39 _ _) 39 q = _
                  rw [sL_uL, if_neg (by rintro ⟨_, z⟩; omega)]
                · rw [sA_uA, if_neg (by rintro ⟨_, z⟩; omega)]
                  rfl
              · rw [sA_uA_ne _ _ _ (by decide)]
                exact wat.1
              · show sL (uL S4 39 _ _) 37 _ = _
                rw [sL_uL_ne _ _ _ (by decide)]
                exact wat.2.1
              · rw [sA_uA_ne _ _ _ (by decide)]
                exact wat.2.2.1
              · show sL (uL S4 39 _ _) 39 _ = _
                rw [sL_uL, if_pos ⟨rfl, rfl⟩]
              · rw [sA_uA, if_pos ⟨rfl, rfl⟩]
              · rw [sA_uA_ne _ _ _ (by decide)]
                exact wat.2.2.2
            have ur : reR (uA (uL S4 39 L.length ((pcs t n).2.2 i3)) 40 L.length (nI ((pcs t n).2.1 i3))) (ruM L) := wr.same (by rw [sA_uA_ne _ _ _ (by decide)]; rfl) (by show sL (uL S4 39 _ _) 44 = _; rw [sL_uL_ne _ _ _ (by decide)]) (by rw [sA_uA_ne _ _ _ (by decide)]; rfl) (by rw [sA_uA_ne _ _ _ (by decide)]; rfl) (by rw [sA_uA_ne _ _ _ (by decide)]; rfl) (by rw [sA_uA_ne _ _ _ (by decide)]; rfl)
            have ua : isA (uA (uL S4 39 L.length ((pcs t n).2.2 i3)) 40 L.length (nI ((pcs t n).2.1 i3))) (acR (ruM L)) := wA.same rfl (by rw [sA_uA_ne _ _ _ (by decide)]; rfl) (by show sL (uL S4 39 _ _) 51 = _; rw [sL_uL_ne _ _ _ (by decide)]) (by rw [sA_uA_ne _ _ _ (by decide)]; rfl)
            have uf : fr pMo S0 (uA (uL S4 39 L.length ((pcs t n).2.2 i3)) 40 L.length (nI ((pcs t n).2.1 i3))) := (wf.uL (by decide)).uA (by decide)
            generalize uA (uL S4 39 L.length ((pcs t n).2.2 i3)) 40 L.length (nI ((pcs t n).2.1 i3)) = U at *
            have v4 : rV t n (rdN U n (psF t n i4)) i4 := u1.rd (by omega)
            have b34 : sI (rdN U n (psF t n i4)) 34 = -nI 1 := (rd_I (by decide)).trans u34
            have b42 : sI (rdN U n (psF t n i4)) 42 = nI (ruM L).length := (rd_I (by decide)).trans u42
            have bm := fun Rl => (um Rl).rd (n := n) (p := psF t n i4)
            have br : reR (rdN U n (psF t n i4)) (ruM L) := ur.rd
            have bA : isA (rdN U n (psF t n i4)) (acR (ruM L)) := ua.rd
            have bf : fr pMo S0 (rdN U n (psF t n i4)) := uf.rdN (by decide) (by decide) (by decide) (by decide)
            generalize rdN U n (psF t n i4) = T at *
            by_cases cb : p.1 i4 = nI 123
            · rw [if_pos cb]
              rw [hp] at cb
              have hj5 : i5 ≤ N := by
                have := hN.ltc hj4 cb (by decide)
                omega
              have vv : rV t n (uI T 35 (nI (L.length + 1))) i4 := v4.uI (by decide)
              have x34 : sI (uI T 35 (nI (L.length + 1))) 34 = -nI 1 := (uI_o (by decide)).trans b34
              have x42 : sI (uI T 35 (nI (L.length + 1))) 42 = nI (ruM L).length := (uI_o (by decide)).trans b42
              have xm1 : ∀ Rl, reM (uI T 35 (nI (L.length + 1))) (L ++ [(false, (pcs t n).2.2 i1, (pcs t n).2.1 i1, (pcs t n).2.2 i3, (pcs t n).2.1 i3, Rl)]) := fun Rl => (bm Rl).uI
              have xr : reR (uI T 35 (nI (L.length + 1))) (ruM L) := br.uI
              have xA : isA (uI T 35 (nI (L.length + 1))) (acR (ruM L)) := bA.uI (by decide)
              have xf : fr pMo S0 (uI T 35 (nI (L.length + 1))) := bf.uI (by decide)
              have x35 : sI (uI T 35 (nI (L.length + 1))) 35 = nI (L.length + 1) := uI_s
              generalize uI T 35 (nI (L.length + 1)) = X at *
              have E3 := E2.trans (mo_br (m_signOj (d + 2) h M (j := i5) (by omega) h7 vv x34 cb))
              have c1 : vR t n (rdN X n (psF t n i5)) (rdN X n (psF t n i5)) i5 (ruM L) := ⟨vv.rd (by omega), (rd_I (by decide)).trans x34, (rd_I (by decide)).trans x42, xr.rd, xA.rd, fr.rfl⟩
              have c2 : fr pMo S0 (rdN X n (psF t n i5)) := xf.rdN (by decide) (by decide) (by decide) (by decide)
              have c3 := fun Rl => (xm1 Rl).rd (n := n) (p := psF t n i5)
              have c4 : sI (rdN X n (psF t n i5)) 35 = nI (L.length + 1) := (rd_I (by decide)).trans x35
              generalize rdN X n (psF t n i5) = T2 at *
              have hr : rlR d h M t n N T2 (bI false) i5 (ruM L) T2 (rlF p 701 i5) := by
                rw [hp]
                exact mo_loop d h M (bI false) h7 hN 701 i5 (ruM L) T2 c1 (by omega) (by omega) (by omega) (by omega)
              cases hq : rlF p 701 i5 with
              | inl q =>
                rw [hq] at hr
                obtain ⟨r0, S', r1, r2, r3, r4⟩ := hr
                refine ⟨r0, S', E3.trans r1, r2, ⟨L.length + 1, ?_, by omega⟩, r3, c2.trans (r4.wide pRu_pMo)⟩
                rw [(r4 35 (by decide)).1]
                exact c4
              | inr z =>
                obtain ⟨j, Rl⟩ := z
                rw [hq] at hr
                obtain ⟨r0, r1, S', r2, r3⟩ := hr
                subst hp
                refine ⟨by show i + 3 + 3 * Rl.length + (acR Rl).length ≤ j; omega, r1, S', E3.trans r2, r3.1, r3.2.1, ?_, (c3 Rl).fr r3.2.2.2.2.2 (by decide), ?_, ?_, ?_, c2.trans (r3.2.2.2.2.2.wide pRu_pMo)⟩
                · rw [(r3.2.2.2.2.2 35 (by decide)).1, List.length_append]
                  exact c4
                · rw [ruM_snoc]
                  exact r3.2.2.1
                · rw [ruM_snoc]
                  exact r3.2.2.2.1
                · rw [ruM_snoc]
                  exact r3.2.2.2.2.1
            · rw [if_neg cb]
              rw [hp] at cb
              have vv : rV t n (uI T 35 (nI (L.length + 1))) i4 := v4.uI (by decide)
              have x34 : sI (uI T 35 (nI (L.length + 1))) 34 = -nI 1 := (uI_o (by decide)).trans b34
              have x35 : sI (uI T 35 (nI (L.length + 1))) 35 = nI (L.length + 1) := uI_s
              have x42 : sI (uI T 35 (nI (L.length + 1))) 42 = nI (ruM L).length := (uI_o (by decide)).trans b42
              have xf : fr pMo S0 (uI T 35 (nI (L.length + 1))) := bf.uI (by decide)
              generalize uI T 35 (nI (L.length + 1)) = X at *
              have E3 := E2.trans (mo_br (m_signB (d + 2) h M h7 vv x34 cb))
              have ne : (sI (uI X 34 (nI ((pcs t n).2.1 i4))) 34 = -nI 1) = False := by
                rw [uI_s]
                exact place_ne h7 i4
              subst hp
              exact ⟨hj4, _, E3.trans (mo_266 (m_signX (d + 2) h M _ (nI 125) ne) (Or.inl ne)), uI_s, ⟨L.length + 1, (uI_o (by decide)).trans x35, by omega⟩, ⟨(ruM L).length, (uI_o (by decide)).trans x42, by omega⟩, xf.uI (by decide)⟩
          · rw [if_neg cn2]
            rw [hp] at cn2
            rw [Bool.not_eq_true] at cn2
            subst hp
            exact ⟨hj3, _, e.trans (mo_t1j d h M (j := i3) (by omega) h7 v3 a34 ct cn2), uI_s, ⟨L.length, (uI_o (by decide)).trans ((rd_I (by decide)).trans a35), by omega⟩, ⟨(ruM L).length, (uI_o (by decide)).trans ((rd_I (by decide)).trans a42), by omega⟩, (af.rdN (by decide) (by decide) (by decide) (by decide)).uI (by decide)⟩
        · rw [if_neg ct]
          rw [hp] at ct
          rw [Bool.not_eq_true] at ct
          subst hp
          exact ⟨hj2, _, e.trans (mo_t0 d h M h7 v3 a34 ct), rfl, ⟨L.length, a35, by omega⟩, ⟨(ruM L).length, a42, by omega⟩, af.uI (by decide)⟩
      · rw [if_neg cn]
        rw [hp] at cn
        rw [Bool.not_eq_true] at cn
        exact k1 cn
    · rw [if_neg cm]
      rw [hp] at cm
      rw [Bool.not_eq_true] at cm
      subst hp
      exact ⟨hi, _, mo_X0 d h M h7 v h34 cd cm, rfl, ⟨L.length, h35, by omega⟩, ⟨(ruM L).length, h42, by omega⟩, hfr.uI (by decide)⟩
theorem m_move (d : Nat) (h : xH) (M : Nat) {t : Nat → Int32} {n N : Nat} {S0 S : gS} {i : Nat} {L : List mT} (h7 : n ≤ 700) (hN : nN (pcs t n) N) (hv : vM t n S0 S i L) (hl : 3 * L.length + 3 * (ruM L).length + (acR (ruM L)).length ≤ i) (hi : i ≤ N) : moR d h M t n N S0 i L S (mvF (pcs t n) i) := by
  rw [mvF_G]
  exact m_moveG d h M rfl rfl rfl rfl rfl h7 hN hv hl hi
