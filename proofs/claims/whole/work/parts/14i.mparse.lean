/-! The reference: parse. -/
/-- what a text that is not WRONG leaves behind -/
def isT (S : gS) (L : List mT) : Prop := sI S 34 = -nI 1 ∧ sI S 35 = nI L.length ∧ reM S L ∧ sA S 41 L.length = nI (ruM L).length ∧ sI S 42 = nI (ruM L).length ∧ reR S (ruM L) ∧ sA S 48 (ruM L).length = nI (acR (ruM L)).length ∧ isA S (acR (ruM L)) ∧ L.length ≤ 699 ∧ (ruM L).length ≤ 699 ∧ (acR (ruM L)).length ≤ 700
def txR (d : Nat) (h : xH) (M : Nat) (t : Nat → Int32) (n N : Nat) (S0 : gS) (L : List mT) (S : gS) : Nat ⊕ List mT → Prop
  | .inl q => q ≤ N ∧ ∃ S', xrun (d + 6) 147 29 [(1, .ref M)] [] (oh 11 h M S) = some (none, oh 11 h M S') ∧ sI S' 34 = nI ((pcs t n).2.1 q) ∧ fr pMo S0 S'
  | .inr L' => ∃ S', xrun (d + 6) 147 29 [(1, .ref M)] [] (oh 11 h M S) = some (none, oh 11 h M S') ∧ isT S' (L ++ L') ∧ fr pMo S0 S'
theorem pa_end {d : Nat} {h : xH} {M : Nat} {S : gS} {k r : Nat} (h35 : sI S 35 = nI k) (h42 : sI S 42 = nI r) (hk : k < 700) (hr : r < 700) (hc : (sI S 34 = -nI 1) = False ∨ sI S 34 = -nI 1 ∧ sI S 31 = nI 0) : xrun (d + 6) 147 29 [(1, .ref M)] [] (oh 11 h M S) = some (none, oh 11 h M (uA (uA S 41 k (nI r)) 48 r (sI S 49))) := by
  rw [q_147_29]
  rcases hc with q | q
  · simp (disch := omega) only [q_147_30, q_147_33, q_147_34, q_147_37, q_147_38, q_147_41, q_147_44, q_147_45, q_147_48, q_147_51, q_147_52, q_147_55, q_147_56, q_147_59, q_147_60, q_147_63, q_147_64, q_147_65, q_147_68, q_147_69, q_147_72, q_147_73, q_147_76, q_147_77, og_11_34, op_11_34, og_11_30, op_11_30, og_11_35, op_11_35, og_11_42, op_11_42, og_11_49, op_11_49, og_11_31, og_11_41, or_11_41, ow_11_41, og_11_48, or_11_48, ow_11_48, o_is, o_ob, ofs_len11, ↓reduceIte, k_cr, k_ci, k_oR, k_oN, k_aR, k_aN, and_true, true_and, and_self, eq_self, Nat.reduceLT, Nat.reduceLeDiff, Nat.reduceEqDiff, Nat.reduceAdd, Nat.reduceMul, Bool.true_eq_false, Bool.false_eq_true, Nat.add_sub_cancel, Nat.not_lt_zero, Nat.zero_le, k_sub, k_sb1, k_r, k_n, k_ret, k_t1, k_t0, k_nr, k_nn, k_z0, k_z1, k_zb, x_okI, lit_nI, k_in, k_cl, k_lt, k_le, k_eq, k_neg, nI_add, nI_mul, k_clt, k_cgt, k_cle, k_cge, k_ceq, bI_0, k_sh8, ne_eq, Nat.add_eq_zero_iff, Nat.one_ne_zero, Nat.succ_ne_zero, and_false, false_and, not_false_eq_true, not_true_eq_false, ite_true, ite_false, if_true, if_false, sI_uI, sJ_uI, sA_uI, sL_uI, sR_uI, sQ_uI, sI_uJ, sJ_uJ, sA_uJ, sL_uJ, sR_uJ, sQ_uJ, sI_uA, sJ_uA, sA_uA, sL_uA, sR_uA, sQ_uA, sI_uL, sJ_uL, sA_uL, sL_uL, sR_uL, sQ_uL, sI_uR, sJ_uR, sA_uR, sL_uR, sR_uR, sQ_uR, sI_uQ, sJ_uQ, sA_uQ, sL_uQ, sR_uQ, sQ_uQ, q, h35, h42]
  · simp (disch := omega) only [q_147_30, q_147_33, q_147_34, q_147_37, q_147_38, q_147_41, q_147_44, q_147_45, q_147_48, q_147_51, q_147_52, q_147_55, q_147_56, q_147_59, q_147_60, q_147_63, q_147_64, q_147_65, q_147_68, q_147_69, q_147_72, q_147_73, q_147_76, q_147_77, og_11_34, op_11_34, og_11_30, op_11_30, og_11_35, op_11_35, og_11_42, op_11_42, og_11_49, op_11_49, og_11_31, og_11_41, or_11_41, ow_11_41, og_11_48, or_11_48, ow_11_48, o_is, o_ob, ofs_len11, ↓reduceIte, k_cr, k_ci, k_oR, k_oN, k_aR, k_aN, and_true, true_and, and_self, eq_self, Nat.reduceLT, Nat.reduceLeDiff, Nat.reduceEqDiff, Nat.reduceAdd, Nat.reduceMul, Bool.true_eq_false, Bool.false_eq_true, Nat.add_sub_cancel, Nat.not_lt_zero, Nat.zero_le, k_sub, k_sb1, k_r, k_n, k_ret, k_t1, k_t0, k_nr, k_nn, k_z0, k_z1, k_zb, x_okI, lit_nI, k_in, k_cl, k_lt, k_le, k_eq, k_neg, nI_add, nI_mul, k_clt, k_cgt, k_cle, k_cge, k_ceq, bI_0, k_sh8, ne_eq, Nat.add_eq_zero_iff, Nat.one_ne_zero, Nat.succ_ne_zero, and_false, false_and, not_false_eq_true, not_true_eq_false, ite_true, ite_false, if_true, if_false, sI_uI, sJ_uI, sA_uI, sL_uI, sR_uI, sQ_uI, sI_uJ, sJ_uJ, sA_uJ, sL_uJ, sR_uJ, sQ_uJ, sI_uA, sJ_uA, sA_uA, sL_uA, sR_uA, sQ_uA, sI_uL, sJ_uL, sA_uL, sL_uL, sR_uL, sQ_uL, sI_uR, sJ_uR, sA_uR, sL_uR, sR_uR, sQ_uR, sI_uQ, sJ_uQ, sA_uQ, sL_uQ, sR_uQ, sQ_uQ, q.1, q.2, h35, h42]
theorem pa_step {d : Nat} {h : xH} {M : Nat} {S S' : gS} (hw : sI S 34 = -nI 1) (hc : ¬ sI S 31 = nI 0) (e : xm (d + 6) 149 [.ref M] (oh 11 h M S) = some (none, oh 11 h M S')) : xrun (d + 6) 147 29 [(1, .ref M)] [] (oh 11 h M S) = xrun (d + 6) 147 29 [(1, .ref M)] [] (oh 11 h M S') := by
  rw [q_147_29]
  simp (disch := omega) only [q_147_30, q_147_33, q_147_34, q_147_37, q_147_38, q_147_41, q_147_44, q_147_45, q_147_48, q_147_51, q_147_52, q_147_55, q_147_56, q_147_59, q_147_60, q_147_63, q_147_64, q_147_65, q_147_68, q_147_69, q_147_72, q_147_73, q_147_76, q_147_77, og_11_34, op_11_34, og_11_30, op_11_30, og_11_35, op_11_35, og_11_42, op_11_42, og_11_49, op_11_49, og_11_31, og_11_41, or_11_41, ow_11_41, og_11_48, or_11_48, ow_11_48, o_is, o_ob, ofs_len11, ↓reduceIte, k_cr, k_ci, k_oR, k_oN, k_aR, k_aN, and_true, true_and, and_self, eq_self, Nat.reduceLT, Nat.reduceLeDiff, Nat.reduceEqDiff, Nat.reduceAdd, Nat.reduceMul, Bool.true_eq_false, Bool.false_eq_true, Nat.add_sub_cancel, Nat.not_lt_zero, Nat.zero_le, k_sub, k_sb1, k_r, k_n, k_ret, k_t1, k_t0, k_nr, k_nn, k_z0, k_z1, k_zb, x_okI, lit_nI, k_in, k_cl, k_lt, k_le, k_eq, k_neg, nI_add, nI_mul, k_clt, k_cgt, k_cle, k_cge, k_ceq, bI_0, k_sh8, ne_eq, Nat.add_eq_zero_iff, Nat.one_ne_zero, Nat.succ_ne_zero, and_false, false_and, not_false_eq_true, not_true_eq_false, ite_true, ite_false, if_true, if_false, hw, hc, e]
theorem pa_loop (d : Nat) (h : xH) (M : Nat) {t : Nat → Int32} {n N : Nat} {S0 : gS} (h7 : n ≤ 700) (hN : nN (pcs t n) N) : ∀ (f i : Nat) (L : List mT) (S : gS), vM t n S0 S i L → 3 * L.length + 3 * (ruM L).length + (acR (ruM L)).length ≤ i → i ≤ N → N < i + f → txR d h M t n N S0 L S (txF (pcs t n) f i)
  | 0, i, L, S, hv, hl, hi, hf => absurd hf (by omega)
  | f + 1, i, L, S, hv, hl, hi, hf => by
    have hN7 := hN.1
    have h31 : sI S 31 = (pcs t n).1 i := hv.1.2.2.2.1
    have h35 := hv.2.2.1
    have h42 := hv.2.2.2.2.1
    unfold txF
    by_cases c1 : (pcs t n).1 i = nI 0
    · rw [if_pos c1]
      have h49 : sI S 49 = nI (acR (ruM L)).length := hv.2.2.2.2.2.2.1.1
      refine ⟨_, pa_end h35 h42 (by omega) (by omega) (Or.inr ⟨hv.2.1, h31.trans c1⟩), ?_, (hv.2.2.2.2.2.2.2.uA (by decide)).uA (by decide)⟩
      rw [List.append_nil, h49]
      refine ⟨hv.2.1, h35, ?_, ?_, h42, ?_, ?_, ?_, by omega, by omega, by omega⟩
      · refine hv.2.2.2.1.congr fun q hq => ⟨by rw [sA_uA_ne _ _ _ (by decide), sA_uA_ne _ _ _ (by decide)], rfl, by rw [sA_uA_ne _ _ _ (by decide), sA_uA_ne _ _ _ (by decide)], rfl, by rw [sA_uA_ne _ _ _ (by decide), sA_uA_ne _ _ _ (by decide)], ?_⟩
        rw [sA_uA_ne _ _ _ (by decide), sA_uA, if_neg (by rintro ⟨_, z⟩; omega)]
      · rw [sA_uA_ne _ _ _ (by decide), sA_uA, if_pos ⟨rfl, rfl⟩]
      · refine hv.2.2.2.2.2.1.congr fun q hq => ⟨by rw [sA_uA_ne _ _ _ (by decide), sA_uA_ne _ _ _ (by decide)], rfl, by rw [sA_uA_ne _ _ _ (by decide), sA_uA_ne _ _ _ (by decide)], by rw [sA_uA_ne _ _ _ (by decide), sA_uA_ne _ _ _ (by decide)], by rw [sA_uA_ne _ _ _ (by decide), sA_uA_ne _ _ _ (by decide)], ?_⟩
        rw [sA_uA, if_neg (by rintro ⟨_, z⟩; omega), sA_uA_ne _ _ _ (by decide)]
      · rw [sA_uA, if_pos ⟨rfl, rfl⟩]
      · exact hv.2.2.2.2.2.2.1.same rfl (by rw [sA_uA_ne _ _ _ (by decide), sA_uA_ne _ _ _ (by decide)]) rfl (by rw [sA_uA_ne _ _ _ (by decide), sA_uA_ne _ _ _ (by decide)])
    · rw [if_neg c1]
      have hr := m_move d h M h7 hN hv hl hi
      have hs := fun S' e => pa_step (d := d) (h := h) (M := M) (S := S) (S' := S') hv.2.1 (by rw [h31]; exact c1) e
      cases hq : mvF (pcs t n) i with
      | inl q =>
        rw [hq] at hr
        obtain ⟨r0, S', r1, r2, ⟨z1, z2, z3⟩, ⟨y1, y2, y3⟩, r5⟩ := hr
        have ne : (sI S' 34 = -nI 1) = False := by
          rw [r2]
          exact place_ne h7 q
        exact ⟨r0, _, (hs S' r1).trans (pa_end z2 y2 (by omega) (by omega) (Or.inl ne)), r2, (r5.uA (by decide)).uA (by decide)⟩
      | inr z =>
        obtain ⟨j, m⟩ := z
        rw [hq] at hr
        obtain ⟨r0, r1, S', r2, r3⟩ := hr
        have ea : (acR (ruM (L ++ [m]))).length = (acR (ruM L)).length + (acR m.2.2.2.2.2).length := by
          rw [ruM_snoc]
          unfold acR
          rw [List.map_append, List.flatten_append, List.length_append]
        have ih := pa_loop d h M h7 hN f j (L ++ [m]) S' r3 (by rw [ea, ruM_snoc, List.length_append, List.length_append, List.length_singleton]; omega) r1 (by omega)
        show txR d h M t n N S0 L S (match txF (pcs t n) f j with
          | .inl z => .inl z
          | .inr L => .inr (m :: L))
        cases hq2 : txF (pcs t n) f j with
        | inl z =>
          rw [hq2] at ih
          obtain ⟨s0, S2, s1, s2⟩ := ih
          exact ⟨s0, S2, (hs S' r2).trans s1, s2⟩
        | inr L2 =>
          rw [hq2] at ih
          obtain ⟨S2, s2, s3, s4⟩ := ih
          rw [List.append_assoc] at s3
          exact ⟨S2, (hs S' r2).trans s2, s3, s4⟩
def paR (d : Nat) (h : xH) (M : Nat) (t : Nat → Int32) (n : Nat) (S : gS) : Nat ⊕ List mT → Prop
  | .inl q => ∃ S', xm (d + 7) 147 [.ref M] (oh 11 h M S) = some (none, oh 11 h M S') ∧ sI S' 34 = nI ((pcs t n).2.1 q) ∧ fr pMo S S'
  | .inr L => ∃ S', xm (d + 7) 147 [.ref M] (oh 11 h M S) = some (none, oh 11 h M S') ∧ isT S' L ∧ fr pMo S S'
theorem m_parse (d : Nat) (h : xH) (M : Nat) {t : Nat → Int32} {n a : Nat} {S : gS} (h7 : n ≤ 700) (ht : sA S 28 = t) (hn : sI S 29 = nI n) (h32 : sI S 32 = nI a) : paR d h M t n S (teF (pcs t n)) := by
  obtain ⟨N, hN1, hN2, hN3, hN4⟩ := pcs_N t n
  have hN : nN (pcs t n) N := ⟨by omega, hN2, hN3⟩
  have e1 := m_readS (d + 4) h M n 0 a (uI (uI (uI (uI (uI S 34 (-nI 1)) 30 (nI 0)) 35 (nI 0)) 42 (nI 0)) 49 (nI 0)) hn h7 (Nat.zero_le _) rfl h32
  have e2 : xm (d + 7) 147 [.ref M] (oh 11 h M S) = xrun (d + 6) 147 29 [(1, .ref M)] [] (oh 11 h M (rdN (uI (uI (uI (uI (uI S 34 (-nI 1)) 30 (nI 0)) 35 (nI 0)) 42 (nI 0)) 49 (nI 0)) n 0)) := by
    rw [E_147 _ _ _ rfl]
    simp (disch := omega) only [q_147_0, q_147_1, q_147_2, q_147_5, q_147_6, q_147_7, q_147_10, q_147_11, q_147_12, q_147_15, q_147_16, q_147_17, q_147_20, q_147_21, q_147_22, q_147_25, q_147_26, og_11_34, op_11_34, og_11_30, op_11_30, og_11_35, op_11_35, og_11_42, op_11_42, og_11_49, op_11_49, og_11_31, og_11_41, or_11_41, ow_11_41, og_11_48, or_11_48, ow_11_48, o_is, o_ob, ofs_len11, ↓reduceIte, k_cr, k_ci, k_oR, k_oN, k_aR, k_aN, and_true, true_and, and_self, eq_self, Nat.reduceLT, Nat.reduceLeDiff, Nat.reduceEqDiff, Nat.reduceAdd, Nat.reduceMul, Bool.true_eq_false, Bool.false_eq_true, Nat.add_sub_cancel, Nat.not_lt_zero, Nat.zero_le, k_sub, k_sb1, k_r, k_n, k_ret, k_t1, k_t0, k_nr, k_nn, k_z0, k_z1, k_zb, x_okI, lit_nI, k_in, k_cl, k_lt, k_le, k_eq, k_neg, nI_add, nI_mul, k_clt, k_cgt, k_cle, k_cge, k_ceq, bI_0, k_sh8, ne_eq, Nat.add_eq_zero_iff, Nat.one_ne_zero, Nat.succ_ne_zero, and_false, false_and, not_false_eq_true, not_true_eq_false, ite_true, ite_false, if_true, if_false, e1]
  have hv : vM t n S (rdN (uI (uI (uI (uI (uI S 34 (-nI 1)) 30 (nI 0)) 35 (nI 0)) 42 (nI 0)) 49 (nI 0)) n 0) 0 [] := by
    have hr : rdN (uI (uI (uI (uI (uI S 34 (-nI 1)) 30 (nI 0)) 35 (nI 0)) 42 (nI 0)) 49 (nI 0)) n 0 = rdS (uI (uI (uI (uI (uI S 34 (-nI 1)) 30 (nI 0)) 35 (nI 0)) 42 (nI 0)) 49 (nI 0)) (pcF t n 0).1 (pcF t n 0).2.1 (pcF t n 0).2.2.1 (pcF t n 0).2.2.2 := by
      unfold rdN
      rw [show sA (uI (uI (uI (uI (uI S 34 (-nI 1)) 30 (nI 0)) 35 (nI 0)) 42 (nI 0)) 49 (nI 0)) 28 = t from ht]
    refine ⟨?_, rfl, rfl, (fun q m hq => by cases hq), rfl, (fun q m hq => by cases hq), ⟨rfl, (fun q m hq => by cases hq)⟩, (((((fr.rfl.uI (by decide)).uI (by decide)).uI (by decide)).uI (by decide)).uI (by decide)).rdN (by decide) (by decide) (by decide) (by decide)⟩
    rw [hr]
    exact ⟨ht, hn, rfl, rfl, rfl, rfl⟩
  have x := pa_loop d h M h7 hN 701 0 [] _ hv (by show 3 * 0 + 3 * 0 + 0 ≤ 0; omega) (Nat.zero_le _) (by omega)
  unfold teF
  cases hq : txF (pcs t n) 701 0 with
  | inl q =>
    rw [hq] at x
    obtain ⟨s0, S2, s1, s2⟩ := x
    exact ⟨S2, e2.trans s1, s2⟩
  | inr L =>
    rw [hq] at x
    obtain ⟨S2, s2, s3, s4⟩ := x
    exact ⟨S2, e2.trans s2, s3, s4⟩
