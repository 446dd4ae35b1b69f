/-! The reference: expression. -/
noncomputable def x14 (d : Nat) (h : xH) (M : Nat) (mu go : Int32) (S : gS) := xrun (d + 3) 155 14 [(1, .ref M), (1, .int mu), (1, .int go)] [] (oh 11 h M S)
noncomputable def x43 (d : Nat) (h : xH) (M : Nat) (mu go : Int32) (S : gS) := xrun (d + 3) 155 43 [(1, .ref M), (1, .int mu), (1, .int go)] [] (oh 11 h M S)
theorem x14_fac {d : Nat} {h : xH} {M : Nat} {S S' : gS} {v : Int32} (e : xm (d + 3) 156 [.ref M] (oh 11 h M S) = some (some (.int v), oh 11 h M S')) (hw : sI S 34 = -nI 1) : x14 d h M (nI 1) (nI 1) S = x43 d h M v (nI 1) S' := by
  unfold x14 x43
  rw [q_155_14]
  simp (disch := omega) only [q_155_0, q_155_1, q_155_2, q_155_5, q_155_6, q_155_7, q_155_10, q_155_11, q_155_12, q_155_13, q_155_15, q_155_18, q_155_19, q_155_22, q_155_23, q_155_26, q_155_27, q_155_30, q_155_31, q_155_34, q_155_35, q_155_38, q_155_39, q_155_42, og_11_56, op_11_56, og_11_57, op_11_57, og_11_34, o_is, o_ob, ofs_len11, ↓reduceIte, k_cr, k_ci, k_oR, k_oN, k_aR, k_aN, and_true, true_and, and_self, eq_self, Nat.reduceLT, Nat.reduceLeDiff, Nat.reduceEqDiff, Nat.reduceAdd, Nat.reduceMul, Bool.true_eq_false, Bool.false_eq_true, Nat.add_sub_cancel, Nat.not_lt_zero, Nat.zero_le, k_sub, k_sb1, k_r, k_n, k_ret, k_t1, k_t0, k_nr, k_nn, k_z0, k_z1, k_zb, x_okI, lit_nI, k_in, k_cl, k_lt, k_le, k_eq, k_neg, nI_add, nI_mul, k_clt, k_cgt, k_cle, k_cge, k_ceq, bI_0, k_sh8, ne_eq, Nat.add_eq_zero_iff, Nat.one_ne_zero, Nat.succ_ne_zero, and_false, false_and, not_false_eq_true, not_true_eq_false, ite_true, ite_false, if_true, if_false, hw, e]
theorem x14_beh {d : Nat} {h : xH} {M : Nat} {S S' : gS} {v : Int32} (e : xm (d + 3) 161 [.ref M] (oh 11 h M S) = some (some (.int v), oh 11 h M S')) (hw : sI S 34 = -nI 1) : x14 d h M (nI 0) (nI 1) S = x43 d h M (nI 0) v S' := by
  unfold x14 x43
  rw [q_155_14]
  simp (disch := omega) only [q_155_0, q_155_1, q_155_2, q_155_5, q_155_6, q_155_7, q_155_10, q_155_11, q_155_12, q_155_13, q_155_15, q_155_18, q_155_19, q_155_22, q_155_23, q_155_26, q_155_27, q_155_30, q_155_31, q_155_34, q_155_35, q_155_38, q_155_39, q_155_42, og_11_56, op_11_56, og_11_57, op_11_57, og_11_34, o_is, o_ob, ofs_len11, ↓reduceIte, k_cr, k_ci, k_oR, k_oN, k_aR, k_aN, and_true, true_and, and_self, eq_self, Nat.reduceLT, Nat.reduceLeDiff, Nat.reduceEqDiff, Nat.reduceAdd, Nat.reduceMul, Bool.true_eq_false, Bool.false_eq_true, Nat.add_sub_cancel, Nat.not_lt_zero, Nat.zero_le, k_sub, k_sb1, k_r, k_n, k_ret, k_t1, k_t0, k_nr, k_nn, k_z0, k_z1, k_zb, x_okI, lit_nI, k_in, k_cl, k_lt, k_le, k_eq, k_neg, nI_add, nI_mul, k_clt, k_cgt, k_cle, k_cge, k_ceq, bI_0, k_sh8, ne_eq, Nat.add_eq_zero_iff, Nat.one_ne_zero, Nat.succ_ne_zero, and_false, false_and, not_false_eq_true, not_true_eq_false, ite_true, ite_false, if_true, if_false, hw, e]
theorem x43_go {d : Nat} {h : xH} {M : Nat} {S : gS} : x43 d h M (nI 1) (nI 1) S = x14 d h M (nI 1) (nI 1) S := by
  unfold x14 x43
  simp (disch := omega) only [q_155_43, q_155_44, q_155_47, q_155_48, q_155_51, q_155_52, q_155_55, q_155_58, q_155_59, q_155_62, q_155_63, q_155_64, q_155_67, og_11_56, op_11_56, og_11_57, op_11_57, og_11_34, o_is, o_ob, ofs_len11, ↓reduceIte, k_cr, k_ci, k_oR, k_oN, k_aR, k_aN, and_true, true_and, and_self, eq_self, Nat.reduceLT, Nat.reduceLeDiff, Nat.reduceEqDiff, Nat.reduceAdd, Nat.reduceMul, Bool.true_eq_false, Bool.false_eq_true, Nat.add_sub_cancel, Nat.not_lt_zero, Nat.zero_le, k_sub, k_sb1, k_r, k_n, k_ret, k_t1, k_t0, k_nr, k_nn, k_z0, k_z1, k_zb, x_okI, lit_nI, k_in, k_cl, k_lt, k_le, k_eq, k_neg, nI_add, nI_mul, k_clt, k_cgt, k_cle, k_cge, k_ceq, bI_0, k_sh8, ne_eq, Nat.add_eq_zero_iff, Nat.one_ne_zero, Nat.succ_ne_zero, and_false, false_and, not_false_eq_true, not_true_eq_false, ite_true, ite_false, if_true, if_false]
theorem x43_no {d : Nat} {h : xH} {M : Nat} {S : gS} (hop : isOp (sI S 31) = false) : x43 d h M (nI 0) (nI 1) S = x14 d h M (nI 0) (nI 1) S := by
  have e := m_isOperator (d + 2) h M S
  rw [hop, bI_f] at e
  unfold x14 x43
  simp (disch := omega) only [q_155_43, q_155_44, q_155_47, q_155_48, q_155_51, q_155_52, q_155_55, q_155_58, q_155_59, q_155_62, q_155_63, q_155_64, q_155_67, og_11_56, op_11_56, og_11_57, op_11_57, og_11_34, o_is, o_ob, ofs_len11, ↓reduceIte, k_cr, k_ci, k_oR, k_oN, k_aR, k_aN, and_true, true_and, and_self, eq_self, Nat.reduceLT, Nat.reduceLeDiff, Nat.reduceEqDiff, Nat.reduceAdd, Nat.reduceMul, Bool.true_eq_false, Bool.false_eq_true, Nat.add_sub_cancel, Nat.not_lt_zero, Nat.zero_le, k_sub, k_sb1, k_r, k_n, k_ret, k_t1, k_t0, k_nr, k_nn, k_z0, k_z1, k_zb, x_okI, lit_nI, k_in, k_cl, k_lt, k_le, k_eq, k_neg, nI_add, nI_mul, k_clt, k_cgt, k_cle, k_cge, k_ceq, bI_0, k_sh8, ne_eq, Nat.add_eq_zero_iff, Nat.one_ne_zero, Nat.succ_ne_zero, and_false, false_and, not_false_eq_true, not_true_eq_false, ite_true, ite_false, if_true, if_false, e]
theorem x43_op {d : Nat} {h : xH} {M : Nat} {S S' : gS} (hop : isOp (sI S 31) = true) (e : xm (d + 3) 164 [.ref M] (oh 11 h M S) = some (none, oh 11 h M S')) : x43 d h M (nI 0) (nI 1) S = x14 d h M (nI 1) (nI 1) S' := by
  have e0 := m_isOperator (d + 2) h M S
  rw [hop, bI_t] at e0
  unfold x14 x43
  simp (disch := omega) only [q_155_43, q_155_44, q_155_47, q_155_48, q_155_51, q_155_52, q_155_55, q_155_58, q_155_59, q_155_62, q_155_63, q_155_64, q_155_67, og_11_56, op_11_56, og_11_57, op_11_57, og_11_34, o_is, o_ob, ofs_len11, ↓reduceIte, k_cr, k_ci, k_oR, k_oN, k_aR, k_aN, and_true, true_and, and_self, eq_self, Nat.reduceLT, Nat.reduceLeDiff, Nat.reduceEqDiff, Nat.reduceAdd, Nat.reduceMul, Bool.true_eq_false, Bool.false_eq_true, Nat.add_sub_cancel, Nat.not_lt_zero, Nat.zero_le, k_sub, k_sb1, k_r, k_n, k_ret, k_t1, k_t0, k_nr, k_nn, k_z0, k_z1, k_zb, x_okI, lit_nI, k_in, k_cl, k_lt, k_le, k_eq, k_neg, nI_add, nI_mul, k_clt, k_cgt, k_cle, k_cge, k_ceq, bI_0, k_sh8, ne_eq, Nat.add_eq_zero_iff, Nat.one_ne_zero, Nat.succ_ne_zero, and_false, false_and, not_false_eq_true, not_true_eq_false, ite_true, ite_false, if_true, if_false, e0, e]
theorem x43_end {d : Nat} {h : xH} {M : Nat} {S : gS} : x43 d h M (nI 0) (nI 0) S = some (none, oh 11 h M S) := by
  unfold x43
  simp (disch := omega) only [q_155_43, q_155_44, q_155_47, q_155_48, q_155_51, q_155_52, q_155_55, q_155_58, q_155_59, q_155_62, q_155_63, q_155_64, q_155_67, og_11_56, op_11_56, og_11_57, op_11_57, og_11_34, o_is, o_ob, ofs_len11, q_155_14, q_155_15, ↓reduceIte, k_cr, k_ci, k_oR, k_oN, k_aR, k_aN, and_true, true_and, and_self, eq_self, Nat.reduceLT, Nat.reduceLeDiff, Nat.reduceEqDiff, Nat.reduceAdd, Nat.reduceMul, Bool.true_eq_false, Bool.false_eq_true, Nat.add_sub_cancel, Nat.not_lt_zero, Nat.zero_le, k_sub, k_sb1, k_r, k_n, k_ret, k_t1, k_t0, k_nr, k_nn, k_z0, k_z1, k_zb, x_okI, lit_nI, k_in, k_cl, k_lt, k_le, k_eq, k_neg, nI_add, nI_mul, k_clt, k_cgt, k_cle, k_cge, k_ceq, bI_0, k_sh8, ne_eq, Nat.add_eq_zero_iff, Nat.one_ne_zero, Nat.succ_ne_zero, and_false, false_and, not_false_eq_true, not_true_eq_false, ite_true, ite_false, if_true, if_false]
theorem x14_X {d : Nat} {h : xH} {M : Nat} {S : gS} {mu : Int32} (hw : (sI S 34 = -nI 1) = False) : x14 d h M mu (nI 1) S = some (none, oh 11 h M S) := by
  unfold x14
  rw [q_155_14]
  simp (disch := omega) only [q_155_0, q_155_1, q_155_2, q_155_5, q_155_6, q_155_7, q_155_10, q_155_11, q_155_12, q_155_13, q_155_15, q_155_18, q_155_19, q_155_22, q_155_23, q_155_26, q_155_27, q_155_30, q_155_31, q_155_34, q_155_35, q_155_38, q_155_39, q_155_42, q_155_43, q_155_44, q_155_47, q_155_48, q_155_51, q_155_52, q_155_55, q_155_58, q_155_59, q_155_62, q_155_63, q_155_64, q_155_67, og_11_56, op_11_56, og_11_57, op_11_57, og_11_34, o_is, o_ob, ofs_len11, ↓reduceIte, k_cr, k_ci, k_oR, k_oN, k_aR, k_aN, and_true, true_and, and_self, eq_self, Nat.reduceLT, Nat.reduceLeDiff, Nat.reduceEqDiff, Nat.reduceAdd, Nat.reduceMul, Bool.true_eq_false, Bool.false_eq_true, Nat.add_sub_cancel, Nat.not_lt_zero, Nat.zero_le, k_sub, k_sb1, k_r, k_n, k_ret, k_t1, k_t0, k_nr, k_nn, k_z0, k_z1, k_zb, x_okI, lit_nI, k_in, k_cl, k_lt, k_le, k_eq, k_neg, nI_add, nI_mul, k_clt, k_cgt, k_cle, k_cge, k_ceq, bI_0, k_sh8, ne_eq, Nat.add_eq_zero_iff, Nat.one_ne_zero, Nat.succ_ne_zero, and_false, false_and, not_false_eq_true, not_true_eq_false, ite_true, ite_false, if_true, if_false, hw]
def okH (H : List aT) : Prop := ∀ x, x ∈ H → opN false x ∨ nsW x.1 = true
theorem okH.cons {x : aT} {H : List aT} (hx : opN false x ∨ nsW x.1 = true) (h : okH H) : okH (x :: H) := by
  intro y hy
  rcases List.mem_cons.mp hy with q | q
  · rw [q]
    exact hx
  · exact h y q
theorem opN.wide {pr : Bool} {x : aT} (h : opN pr x) : opN false x := by
  rcases h with q | q | q | q
  · exact Or.inl q
  · exact Or.inr (Or.inl q)
  · exact Or.inr (Or.inr (Or.inl q))
  · exact Or.inr (Or.inr (Or.inr ⟨rfl, q.2⟩))
theorem H_split (pr : Bool) : ∀ H : List aT, okH H → ∃ P H', H = P ++ H' ∧ (∀ x, x ∈ P → opN pr x) ∧ stN pr H'
  | [], _ => ⟨[], [], rfl, fun x hx => absurd hx List.not_mem_nil, Or.inl rfl⟩
  | x :: H, ho => by
    have stop : (x.1 = nI 6 ∨ x.1 = nI 12 ∨ x.1 = nI 13 ∨ (pr = true ∧ (x.1 = nI 7 ∨ x.1 = nI 8))) → ∃ P H', x :: H = P ++ H' ∧ (∀ x, x ∈ P → opN pr x) ∧ stN pr H' :=
      fun q => ⟨[], x :: H, rfl, fun x hx => absurd hx List.not_mem_nil, Or.inr ⟨x, H, rfl, q⟩⟩
    have go : opN pr x → ∃ P H', x :: H = P ++ H' ∧ (∀ x, x ∈ P → opN pr x) ∧ stN pr H' := by
      intro hx
      obtain ⟨P, H', e, hP, hs⟩ := H_split pr H (fun y hy => ho y (List.mem_cons_of_mem _ hy))
      refine ⟨x :: P, H', by rw [e]; rfl, fun y hy => ?_, hs⟩
      rcases List.mem_cons.mp hy with q | q
      · rw [q]
        exact hx
      · exact hP y q
    rcases ho x List.mem_cons_self with q | q
    · rcases q with q | q | q | ⟨_, q⟩
      · exact go (Or.inl q)
      · exact go (Or.inr (Or.inl q))
      · exact go (Or.inr (Or.inr (Or.inl q)))
      · cases pr
        · exact go (Or.inr (Or.inr (Or.inr ⟨rfl, q⟩)))
        · exact stop (Or.inr (Or.inr (Or.inr ⟨rfl, by rcases q with q | q; exact Or.inl (by rw [q]); exact Or.inr (by rw [q])⟩)))
    · unfold nsW at q
      rw [Bool.or_eq_true, Bool.or_eq_true, decide_eq_true_eq, decide_eq_true_eq, decide_eq_true_eq] at q
      rcases q with (q | q) | q
      · exact stop (Or.inl q)
      · exact stop (Or.inr (Or.inl q))
      · exact stop (Or.inr (Or.inr (Or.inl q)))
theorem x43_X {d : Nat} {h : xH} {M : Nat} {t : Nat → Int32} {n : Nat} {S0 S : gS} {i q : Nat} {A H : List aT} (h7 : n ≤ 700) (hb : bU (nI ((pcs t n).2.1 q)) t n S0 S i A H) (ho : okH H) (hl : isOp ((pcs t n).1 i) = true → A.length + H.length ≤ 699) : ∃ S', x43 d h M (nI 0) (nI 1) S = some (none, oh 11 h M S') ∧ bdV t n S0 S' q := by
  by_cases hop : isOp ((pcs t n).1 i) = true
  · obtain ⟨P, H', e, hP, hs⟩ := H_split (isTm ((pcs t n).1 i)) H ho
    subst e
    obtain ⟨S', e1, b1⟩ := m_operator d h M h7 hop hs hP hb (hl hop)
    refine ⟨S', ?_, b1.bd⟩
    rw [x43_op (by rw [hb.1.2.2.2.1]; exact hop) e1, x14_X (b1.bd.ne h7)]
  · rw [Bool.not_eq_true] at hop
    refine ⟨S, ?_, hb.bd⟩
    rw [x43_no (by rw [hb.1.2.2.2.1]; exact hop), x14_X (hb.bd.ne h7)]
/-- N is where the text ends -/
def nN (p : pP) (N : Nat) : Prop := N ≤ 700 ∧ p.1 N = nI 0 ∧ ∀ q, q < N → ¬ p.1 q = nI 0
theorem nN.lt {p : pP} {N i : Nat} (h : nN p N) (hi : i ≤ N) (hc : ¬ p.1 i = nI 0) : i < N := by
  rcases Nat.lt_or_ge i N with q | q
  · exact q
  · have : i = N := by omega
    rw [this] at hc
    exact absurd h.2.1 hc
theorem nN.ltc {p : pP} {N i : Nat} {c : Int32} (h : nN p N) (hi : i ≤ N) (hc : p.1 i = c) (h0 : ¬ c = nI 0) : i < N := h.lt hi (by rw [hc]; exact h0)
def facR (d : Nat) (h : xH) (M : Nat) (t : Nat → Int32) (n N : Nat) (S0 : gS) (i : Nat) (A H : List aT) (S : gS) : eR → Prop
  | .inl q => q ≤ N ∧ ∃ S', x14 d h M (nI 1) (nI 1) S = some (none, oh 11 h M S') ∧ bdV t n S0 S' q
  | .inr (j, B) => i < j ∧ j ≤ N ∧ B.length + i ≤ j ∧ ∃ S', x14 d h M (nI 1) (nI 1) S = x43 d h M (nI 0) (nI 1) S' ∧ bV t n S0 S' j (whA H (A ++ B)) (whH H)
def facOK (d : Nat) (h : xH) (M : Nat) (t : Nat → Int32) (n N : Nat) (S0 : gS) (k : Nat) (g : Nat → eR) : Prop :=
  ∀ (i : Nat) (A H : List aT) (S : gS), nst H = k → okH H → bV t n S0 S i A H → A.length + H.length ≤ i → i ≤ N → facR d h M t n N S0 i A H S (g i)
def tlR (d : Nat) (h : xH) (M : Nat) (t : Nat → Int32) (n N : Nat) (S0 : gS) (j : Nat) (A : List aT) (T w : Option Int32) (H : List aT) (S : gS) : eR → Prop
  | .inl q => q ≤ N ∧ ∃ S', x43 d h M (nI 0) (nI 1) S = some (none, oh 11 h M S') ∧ bdV t n S0 S' q
  | .inr (j', B) => j ≤ j' ∧ j' ≤ N ∧ isOp ((pcs t n).1 j') = false ∧ B.length + j ≤ j' + (opL w).length ∧ ∃ S' A' P, (∀ x, x ∈ P → opN false x) ∧ A' ++ P = A ++ opL T ++ B ∧ x43 d h M (nI 0) (nI 1) S = x43 d h M (nI 0) (nI 1) S' ∧ bV t n S0 S' j' A' (P ++ H)
def bsN (H : List aT) : Prop := H = [] ∨ ∃ x H', H = x :: H' ∧ (x.1 = nI 12 ∨ x.1 = nI 13)
theorem bsN.st {H : List aT} (h : bsN H) (pr : Bool) : stN pr H := by
  rcases h with q | ⟨x, H', e, q | q⟩
  · exact Or.inl q
  · exact Or.inr ⟨x, H', e, Or.inr (Or.inl q)⟩
  · exact Or.inr ⟨x, H', e, Or.inr (Or.inr (Or.inl q))⟩
theorem isPl_op {c : Int32} (h : isPl c = true) : isOp c = true ∧ isTm c = false ∧ ¬ c = nI 0 ∧ opN false (opA c) ∧ nsW (opA c).1 = false ∧ ¬ (opA c).1 = nI 6 ∧ ((opA c).1 = nI 7 ∨ (opA c).1 = nI 8) := by
  unfold isPl at h
  rw [Bool.or_eq_true, decide_eq_true_eq, decide_eq_true_eq] at h
  rcases h with q | q
  · rw [q]
    exact ⟨by decide, by decide, by decide, Or.inr (Or.inr (Or.inr ⟨rfl, Or.inl (by decide)⟩)), by decide, by decide, Or.inl (by decide)⟩
  · rw [q]
    exact ⟨by decide, by decide, by decide, Or.inr (Or.inr (Or.inr ⟨rfl, Or.inr (by decide)⟩)), by decide, by decide, Or.inr (by decide)⟩
theorem isTm_op {c : Int32} (h : isTm c = true) : isOp c = true ∧ ¬ c = nI 0 ∧ opN true (opA c) ∧ nsW (opA c).1 = false ∧ ¬ (opA c).1 = nI 6 := by
  unfold isTm at h
  rw [Bool.or_eq_true, Bool.or_eq_true, decide_eq_true_eq, decide_eq_true_eq, decide_eq_true_eq] at h
  rcases h with (q | q) | q
  · rw [q]
    exact ⟨by decide, by decide, Or.inl (by decide), by decide, by decide⟩
  · rw [q]
    exact ⟨by decide, by decide, Or.inr (Or.inl (by decide)), by decide, by decide⟩
  · rw [q]
    exact ⟨by decide, by decide, Or.inr (Or.inr (Or.inl (by decide))), by decide, by decide⟩
theorem isOp_no {c : Int32} (h1 : ¬ isPl c = true) (h2 : ¬ isTm c = true) : isOp c = false := by
  unfold isPl at h1
  unfold isTm at h2
  unfold isOp
  rw [Bool.not_eq_true] at h1 h2
  rw [Bool.or_eq_false_iff] at h1
  rw [Bool.or_eq_false_iff, Bool.or_eq_false_iff] at h2
  rw [h1.1, h1.2, h2.1.1, h2.1.2, h2.2]
  rfl
theorem opL_T {T : Option Int32} (hT : ∀ c, T = some c → isTm c = true) : ∀ x, x ∈ opL T → opN true x := by
  cases T with
  | none => exact fun x hx => absurd hx List.not_mem_nil
  | some c =>
    intro x hx
    rw [List.mem_singleton.mp hx]
    exact (isTm_op (hT c rfl)).2.2.1
theorem opL_w {w : Option Int32} (hw : ∀ c, w = some c → isPl c = true) : ∀ x, x ∈ opL w → opN false x := by
  cases w with
  | none => exact fun x hx => absurd hx List.not_mem_nil
  | some c =>
    intro x hx
    rw [List.mem_singleton.mp hx]
    exact (isPl_op (hw c rfl)).2.2.2.1
theorem opL_P {T w : Option Int32} (hT : ∀ c, T = some c → isTm c = true) (hw : ∀ c, w = some c → isPl c = true) : ∀ x, x ∈ opL T ++ opL w → opN false x := by
  intro x hx
  rcases List.mem_append.mp hx with q | q
  · exact (opL_T hT x q).wide
  · exact opL_w hw x q
theorem opL_st {w : Option Int32} {H : List aT} (hw : ∀ c, w = some c → isPl c = true) (hs : bsN H) : stN true (opL w ++ H) := by
  cases w with
  | none => exact hs.st true
  | some c => exact Or.inr ⟨opA c, H, rfl, Or.inr (Or.inr (Or.inr ⟨rfl, (isPl_op (hw c rfl)).2.2.2.2.2.2⟩))⟩
theorem opL_ns {w : Option Int32} {H : List aT} : nst (opL w ++ H) = nst H := by
  cases w with
  | none => rfl
  | some c => exact nst_no (opW_ns c)
theorem opL_ok {w : Option Int32} {H : List aT} (hw : ∀ c, w = some c → isPl c = true) (ho : okH H) : okH (opL w ++ H) := by
  cases w with
  | none => exact ho
  | some c => exact okH.cons (Or.inl (isPl_op (hw c rfl)).2.2.2.1) ho
theorem whA_no {x : aT} {H A : List aT} (h : ¬ x.1 = nI 6) : whA (x :: H) A = A := by
  show (if x.1 = nI 6 then whA H (A ++ [(nI 6, 0, 0)]) else A) = A
  rw [if_neg h]
theorem whH_no {x : aT} {H : List aT} (h : ¬ x.1 = nI 6) : whH (x :: H) = x :: H := by
  show (if x.1 = nI 6 then whH H else x :: H) = _
  rw [if_neg h]
theorem whA_min {x : aT} {H A : List aT} (h : x.1 = nI 6) : whA (x :: H) A = whA H (A ++ [(nI 6, 0, 0)]) := by
  show (if x.1 = nI 6 then whA H (A ++ [(nI 6, 0, 0)]) else A) = _
  rw [if_pos h]
theorem whH_min {x : aT} {H : List aT} (h : x.1 = nI 6) : whH (x :: H) = whH H := by
  show (if x.1 = nI 6 then whH H else x :: H) = _
  rw [if_pos h]
theorem tl_ok {d : Nat} {h : xH} {M : Nat} {t : Nat → Int32} {n N : Nat} {S0 : gS} {k : Nat} {g : Nat → eR} (hg : facOK d h M t n N S0 k g) (h7 : n ≤ 700) (hN : nN (pcs t n) N) : ∀ (f j : Nat) (A : List aT) (T w : Option Int32) (H : List aT) (S : gS), (∀ c, T = some c → isTm c = true) → (∀ c, w = some c → isPl c = true) → bsN H → nst H = k → okH H → bV t n S0 S j A (opL T ++ opL w ++ H) → A.length + (opL T ++ opL w ++ H).length ≤ j → j ≤ N → N < j + f → tlR d h M t n N S0 j A T w H S (tlF (pcs t n) g f j w)
  | 0, j, A, T, w, H, S, hT, hw, hs, hk, ho, hb, hl, hj, hf => absurd hf (by omega)
  | f + 1, j, A, T, w, H, S, hT, hw, hs, hk, ho, hb, hl, hj, hf => by
    have hN7 := hN.1
    have hlen : (opL T ++ opL w ++ H).length = (opL T).length + (opL w).length + H.length := by rw [List.length_append, List.length_append]
    unfold tlF
    by_cases c1 : isPl ((pcs t n).1 j) = true
    · rw [if_pos c1]
      obtain ⟨o1, o2, o3, o4, o5, o6, o7⟩ := isPl_op c1
      have hj1 : j < N := hN.lt hj o3
      obtain ⟨S1, e1, b1⟩ := m_operator d h M h7 (P := opL T ++ opL w) (H := H) o1 (hs.st _) (by rw [o2]; exact opL_P hT hw) hb (by omega)
      have e2 := x43_op (by rw [hb.1.2.2.2.1]; exact o1) e1
      have hr := hg (j + 1) (A ++ (opL T ++ opL w)) (opA ((pcs t n).1 j) :: H) S1 (by rw [nst_no o5]; exact hk) (okH.cons (Or.inl o4) ho) b1 (by rw [List.length_append, List.length_append, List.length_cons]; omega) hj1
      cases hgq : g (j + 1) with
      | inl q =>
        rw [hgq] at hr
        obtain ⟨r0, S', e3, b3⟩ := hr
        exact ⟨r0, S', by rw [e2]; exact e3, b3⟩
      | inr z =>
        obtain ⟨q, B⟩ := z
        rw [hgq] at hr
        obtain ⟨r1, r2, r3, S2, e3, b3⟩ := hr
        rw [whA_no o6, whH_no o6] at b3
        have hl2 : (A ++ (opL T ++ opL w) ++ B).length = A.length + ((opL T).length + (opL w).length) + B.length := by rw [List.length_append, List.length_append, List.length_append]
        have ih := tl_ok hg h7 hN f q (A ++ (opL T ++ opL w) ++ B) none (some ((pcs t n).1 j)) H S2 (fun c e => by cases e) (fun c e => by cases e; exact c1) hs hk ho b3 (by rw [hl2]; show _ + (H.length + 1) ≤ q; omega) r2 (by omega)
        show tlR d h M t n N S0 j A T w H S (ePre (opL w ++ B) (tlF (pcs t n) g f q (some ((pcs t n).1 j))))
        cases hq2 : tlF (pcs t n) g f q (some ((pcs t n).1 j)) with
        | inl z =>
          rw [hq2] at ih
          obtain ⟨r0, S', e5, b5⟩ := ih
          exact ⟨r0, S', by rw [e2, e3]; exact e5, b5⟩
        | inr z =>
          obtain ⟨j', B'⟩ := z
          rw [hq2] at ih
          obtain ⟨s1, s2, s3, s4, S', A', P, p1, p2, p3, p4⟩ := ih
          have s5 : B'.length + q ≤ j' + 1 := s4
          refine ⟨by omega, s2, s3, ?_, S', A', P, p1, ?_, by rw [e2, e3]; exact p3, p4⟩
          · rw [List.length_append, List.length_append]
            omega
          · rw [p2]
            show A ++ (opL T ++ opL w) ++ B ++ [] ++ B' = _
            simp only [List.append_assoc, List.nil_append]
    · rw [if_neg c1]
      by_cases c2 : isTm ((pcs t n).1 j) = true
      · rw [if_pos c2]
        obtain ⟨o1, o3, o4, o5, o6⟩ := isTm_op c2
        have hj1 : j < N := hN.lt hj o3
        obtain ⟨S1, e1, b1⟩ := m_operator d h M h7 (P := opL T) (H := opL w ++ H) o1 (by rw [c2]; exact opL_st hw hs) (by rw [c2]; exact opL_T hT) (by rw [← List.append_assoc]; exact hb) (by rw [← List.append_assoc]; omega)
        have e2 := x43_op (by rw [hb.1.2.2.2.1]; exact o1) e1
        have hr := hg (j + 1) (A ++ opL T) (opA ((pcs t n).1 j) :: (opL w ++ H)) S1 (by rw [nst_no o5, opL_ns]; exact hk) (okH.cons (Or.inl o4.wide) (opL_ok hw ho)) b1 (by rw [List.length_append, List.length_cons, List.length_append]; omega) hj1
        cases hgq : g (j + 1) with
        | inl q =>
          rw [hgq] at hr
          obtain ⟨r0, S', e3, b3⟩ := hr
          exact ⟨r0, S', by rw [e2]; exact e3, b3⟩
        | inr z =>
          obtain ⟨q, B⟩ := z
          rw [hgq] at hr
          obtain ⟨r1, r2, r3, S2, e3, b3⟩ := hr
          rw [whA_no o6, whH_no o6] at b3
          have hl2 : (A ++ opL T ++ B).length = A.length + (opL T).length + B.length := by rw [List.length_append, List.length_append]
          have ih := tl_ok hg h7 hN f q (A ++ opL T ++ B) (some ((pcs t n).1 j)) w H S2 (fun c e => by cases e; exact c2) hw hs hk ho b3 (by rw [hl2]; show _ + ((opL w ++ H).length + 1) ≤ q; rw [List.length_append]; omega) r2 (by omega)
          show tlR d h M t n N S0 j A T w H S (ePre (B ++ [opA ((pcs t n).1 j)]) (tlF (pcs t n) g f q w))
          cases hq2 : tlF (pcs t n) g f q w with
          | inl z =>
            rw [hq2] at ih
            obtain ⟨r0, S', e5, b5⟩ := ih
            exact ⟨r0, S', by rw [e2, e3]; exact e5, b5⟩
          | inr z =>
            obtain ⟨j', B'⟩ := z
            rw [hq2] at ih
            obtain ⟨s1, s2, s3, s4, S', A', P, p1, p2, p3, p4⟩ := ih
            refine ⟨by omega, s2, s3, ?_, S', A', P, p1, ?_, by rw [e2, e3]; exact p3, p4⟩
            · rw [List.length_append, List.length_append, List.length_singleton]
              omega
            · rw [p2]
              show A ++ opL T ++ B ++ [opA ((pcs t n).1 j)] ++ B' = _
              simp only [List.append_assoc]
      · rw [if_neg c2]
        exact ⟨Nat.le_refl _, hj, isOp_no c1 c2, by omega, S, A, opL T ++ opL w, opL_P hT hw, by rw [List.append_assoc], rfl, hb⟩
def smR (d : Nat) (h : xH) (M : Nat) (t : Nat → Int32) (n N : Nat) (S0 : gS) (i : Nat) (A H : List aT) (S : gS) : eR → Prop
  | .inl q => q ≤ N ∧ ∃ S', x14 d h M (nI 1) (nI 1) S = some (none, oh 11 h M S') ∧ bdV t n S0 S' q
  | .inr (j, B) => i < j ∧ j ≤ N ∧ isOp ((pcs t n).1 j) = false ∧ B.length + i ≤ j ∧ ∃ S' A' P, (∀ x, x ∈ P → opN false x) ∧ A' ++ P = A ++ B ∧ x14 d h M (nI 1) (nI 1) S = x43 d h M (nI 0) (nI 1) S' ∧ bV t n S0 S' j A' (P ++ H)
theorem sm_ok {d : Nat} {h : xH} {M : Nat} {t : Nat → Int32} {n N : Nat} {S0 : gS} {k : Nat} {g : Nat → eR} (hg : facOK d h M t n N S0 k g) (h7 : n ≤ 700) (hN : nN (pcs t n) N) {i : Nat} {A H : List aT} {S : gS} (hs : bsN H) (hk : nst H = k) (ho : okH H) (hb : bV t n S0 S i A H) (hl : A.length + H.length ≤ i) (hi : i ≤ N) : smR d h M t n N S0 i A H S (smF (pcs t n) g i) := by
  have hr := hg i A H S hk ho hb hl hi
  have hN7 := hN.1
  unfold smF
  cases hgq : g i with
  | inl q =>
    rw [hgq] at hr
    exact hr
  | inr z =>
    obtain ⟨j, B⟩ := z
    rw [hgq] at hr
    obtain ⟨r1, r2, r3, S2, e3, b3⟩ := hr
    have hb2 : bV t n S0 S2 j (A ++ B) H := by
      rcases hs with q | ⟨x, H', q, hx⟩
      · subst q
        exact b3
      · subst q
        have h6 : ¬ x.1 = nI 6 := by rcases hx with q | q <;> (rw [q]; decide)
        rw [whA_no h6, whH_no h6] at b3
        exact b3
    have ih := tl_ok hg h7 hN 701 j (A ++ B) none none H S2 (fun c e => by cases e) (fun c e => by cases e) hs hk ho hb2 (by rw [List.length_append]; show _ + H.length ≤ j; omega) r2 (by omega)
    show smR d h M t n N S0 i A H S (ePre B (tlF (pcs t n) g 701 j none))
    cases hq2 : tlF (pcs t n) g 701 j none with
    | inl z =>
      rw [hq2] at ih
      obtain ⟨r0, S', e5, b5⟩ := ih
      exact ⟨r0, S', by rw [e3]; exact e5, b5⟩
    | inr z =>
      obtain ⟨j', B'⟩ := z
      rw [hq2] at ih
      obtain ⟨s1, s2, s3, s4, S', A', P, p1, p2, p3, p4⟩ := ih
      have s5 : B'.length + j ≤ j' := s4
      refine ⟨by omega, s2, s3, ?_, S', A', P, p1, ?_, by rw [e3]; exact p3, p4⟩
      · rw [List.length_append]
        omega
      · rw [p2]
        show A ++ B ++ [] ++ B' = _
        simp only [List.append_assoc, List.nil_append]
/-- ( or [ , as far as its other side -/
theorem clo_ok {d : Nat} {h : xH} {M : Nat} {t : Nat → Int32} {n N : Nat} {S0 : gS} {i i0 : Nat} {A H : List aT} {S Sa : gS} {w c : Int32} {v : Int64} {a : Nat} {L : List aT} (h7 : n ≤ 700) (hN : nN (pcs t n) N) (hw : w = nI 12 ∧ c = nI 41 ∧ L = [] ∨ w = nI 13 ∧ c = nI 93 ∧ L = [(nI 4, v, a)]) (hl : A.length + H.length + 1 ≤ i) (hi0 : i0 < i) {e : eR} (hr : smR d h M t n N S0 i A ((w, v, a) :: H) S e) (he : x14 d h M (nI 1) (nI 1) Sa = x14 d h M (nI 1) (nI 1) S) : facR d h M t n N S0 i0 A H Sa (eClo (pcs t n) c L e) := by
  cases e with
  | inl q =>
    obtain ⟨r0, S', e5, b5⟩ := hr
    exact ⟨r0, S', by rw [he]; exact e5, b5⟩
  | inr z =>
    obtain ⟨j, B⟩ := z
    obtain ⟨s1, s2, s3, s4, S', A', P, p1, p2, p3, p4⟩ := hr
    have hN7 := hN.1
    have hlen : A'.length + P.length = A.length + B.length := by rw [← List.length_append, p2, List.length_append]
    have hl2 : A'.length + (P ++ (w, v, a) :: H).length ≤ 700 := by
      rw [List.length_append, List.length_cons]
      omega
    have e1 := x43_no (d := d) (h := h) (M := M) (S := S') (by rw [p4.1.2.2.2.1]; exact s3)
    show facR d h M t n N S0 i0 A H Sa (if (pcs t n).1 j = c then .inr (j + 1, B ++ L) else .inl j)
    by_cases hc : (pcs t n).1 j = c
    · rw [if_pos hc]
      rcases hw with ⟨q1, q2, q3⟩ | ⟨q1, q2, q3⟩
      · subst q1
        subst q2
        subst q3
        have hj : j < N := hN.ltc s2 hc (by decide)
        obtain ⟨S2, e2, b2⟩ := m_beh_par d h M v a h7 s3 p1 p4 hl2 hc
        rw [p2] at b2
        refine ⟨by omega, hj, ?_, S2, ?_, ?_⟩
        · rw [List.append_nil]
          omega
        · rw [he, p3, e1, x14_beh e2 p4.2.1]
        · rw [List.append_nil]
          exact b2
      · subst q1
        subst q2
        subst q3
        have hj : j < N := hN.ltc s2 hc (by decide)
        obtain ⟨S2, e2, b2⟩ := m_beh_brk d h M v a h7 s3 p1 p4 hl2 hc
        rw [p2, List.append_assoc] at b2
        refine ⟨by omega, hj, ?_, S2, ?_, b2⟩
        · rw [List.length_append, List.length_singleton]
          omega
        · rw [he, p3, e1, x14_beh e2 p4.2.1]
    · rw [if_neg hc]
      obtain ⟨S2, e2, b2⟩ := m_beh_X d h M w c v a h7 (by rcases hw with ⟨q1, q2, _⟩ | ⟨q1, q2, _⟩; exact Or.inl ⟨q1, q2⟩; exact Or.inr ⟨q1, q2⟩) s3 p1 p4 hl2 hc
      refine ⟨s2, S2, ?_, b2⟩
      rw [he, p3, e1, x14_beh e2 p4.2.1, x43_end]
theorem fcG_ok {d : Nat} {h : xH} {M : Nat} {t : Nat → Int32} {n N : Nat} {S0 : gS} {k : Nat} {r : Option (Nat → eR)} (h7 : n ≤ 700) (hN : nN (pcs t n) N) (hr : r = none ∧ k = 20 ∨ ∃ g, r = some g ∧ k < 20 ∧ facOK d h M t n N S0 (k + 1) g) : facOK d h M t n N S0 k (fcG (pcs t n) r) := by
  intro i A H S hk ho hb hl hi
  have hN7 := hN.1
  have one : ∀ x : aT, ([x] : List aT).length = 1 := fun _ => rfl
  unfold fcG
  by_cases c1 : (pcs t n).1 i = nI 45
  · rw [if_pos c1]
    have hj := hN.ltc hi c1 (by decide)
    rcases hr with ⟨q1, q2⟩ | ⟨g, q1, q2, hg⟩
    · subst q1
      obtain ⟨S', e, b⟩ := m_fac_inX d h M (nI 45) (nI 6) (Or.inl ⟨rfl, rfl⟩) h7 hb (by omega) c1 (by omega)
      exact ⟨hi, S', by rw [x14_fac e hb.2.1, x43_go, x14_X (b.ne h7)], b⟩
    · subst q1
      obtain ⟨S1, e, b⟩ := m_fac_in d h M (nI 45) (nI 6) (Or.inl ⟨rfl, rfl⟩) h7 hb (by omega) c1 (by omega)
      have e1 := (x14_fac e hb.2.1).trans x43_go
      have hr := hg (i + 1) A ((nI 6, 0, (pcs t n).2.1 i) :: H) S1 (by rw [nst_in (by show nsW (nI 6) = true; decide)]; omega) (okH.cons (Or.inr (by show nsW (nI 6) = true; decide)) ho) b (by rw [List.length_cons]; omega) hj
      show facR d h M t n N S0 i A H S (ePost [(nI 6, 0, 0)] (g (i + 1)))
      cases hgq : g (i + 1) with
      | inl q =>
        rw [hgq] at hr
        obtain ⟨r0, S', e3, b3⟩ := hr
        exact ⟨r0, S', by rw [e1]; exact e3, b3⟩
      | inr z =>
        obtain ⟨j, B⟩ := z
        rw [hgq] at hr
        obtain ⟨r1, r2, r3, S2, e3, b3⟩ := hr
        rw [whA_min (show ((nI 6, 0, (pcs t n).2.1 i) : aT).1 = nI 6 from rfl), whH_min (show ((nI 6, 0, (pcs t n).2.1 i) : aT).1 = nI 6 from rfl), List.append_assoc] at b3
        refine ⟨by omega, r2, ?_, S2, by rw [e1]; exact e3, b3⟩
        rw [List.length_append, one]
        omega
  rw [if_neg c1]
  by_cases c2 : (pcs t n).1 i = nI 40
  · rw [if_pos c2]
    have hj := hN.ltc hi c2 (by decide)
    rcases hr with ⟨q1, q2⟩ | ⟨g, q1, q2, hg⟩
    · subst q1
      obtain ⟨S', e, b⟩ := m_fac_inX d h M (nI 40) (nI 12) (Or.inr ⟨rfl, rfl⟩) h7 hb (by omega) c2 (by omega)
      exact ⟨hi, S', by rw [x14_fac e hb.2.1, x43_go, x14_X (b.ne h7)], b⟩
    · subst q1
      obtain ⟨S1, e, b⟩ := m_fac_in d h M (nI 40) (nI 12) (Or.inr ⟨rfl, rfl⟩) h7 hb (by omega) c2 (by omega)
      have e1 := (x14_fac e hb.2.1).trans x43_go
      have hr := sm_ok hg h7 hN (Or.inr ⟨_, _, rfl, Or.inl rfl⟩) (by rw [nst_in (by show nsW (nI 12) = true; decide)]; omega) (okH.cons (Or.inr (by show nsW (nI 12) = true; decide)) ho) b (by rw [List.length_cons]; omega) hj
      exact clo_ok h7 hN (Or.inl ⟨rfl, rfl, rfl⟩) (by omega) (by omega) hr e1
  rw [if_neg c2]
  by_cases c3 : (pcs t n).1 i = nI 2
  · rw [if_pos c3]
    have hj := hN.ltc hi c3 (by decide)
    obtain ⟨S', e, b⟩ := m_fac_num d h M h7 hb (by omega) c3
    exact ⟨by omega, hj, by rw [one]; omega, S', x14_fac e hb.2.1, b⟩
  rw [if_neg c3]
  by_cases c4 : pWd (pcs t n) i 7038329 = true
  · rw [if_pos c4]
    have c4' : (pcs t n).1 i = nI 1 := by
      unfold pWd at c4
      rw [Bool.and_eq_true, decide_eq_true_eq] at c4
      exact c4.1
    have hj := hN.ltc hi c4' (by decide)
    obtain ⟨S', e, b⟩ := m_fac_key d h M h7 hb (by omega) c4
    exact ⟨by omega, hj, by rw [one]; omega, S', x14_fac e hb.2.1, b⟩
  rw [if_neg c4]
  by_cases c5 : (pcs t n).1 i = nI 35
  · rw [if_pos c5]
    have hj := hN.ltc hi c5 (by decide)
    by_cases c6 : pNm (pcs t n) (i + 1) = true
    · rw [if_pos c6]
      have hj2 := hN.ltc hj (pNm_1 c6).1 (by decide)
      obtain ⟨S', e, b⟩ := m_fac_len d h M h7 hb (by omega) c5 c6
      exact ⟨by omega, hj2, by rw [one]; omega, S', x14_fac e hb.2.1, b⟩
    · rw [if_neg c6]
      rw [Bool.not_eq_true] at c6
      obtain ⟨S1, e, b⟩ := m_fac_lenX d h M h7 hb (by omega) c5 c6
      obtain ⟨S', e2, b2⟩ := x43_X (d := d) (h := h) (M := M) h7 b ho (fun q => by
        have hj2 : i + 1 < N := hN.lt hj (fun z => by rw [z] at q; revert q; decide)
        rw [List.length_append, one]
        omega)
      exact ⟨hj, S', by rw [x14_fac e hb.2.1]; exact e2, b2⟩
  rw [if_neg c5]
  by_cases c6 : pNm (pcs t n) i = true
  · rw [if_pos c6]
    have hj := hN.ltc hi (pNm_1 c6).1 (by decide)
    by_cases c7 : (pcs t n).1 (i + 1) = nI 91
    · rw [if_pos c7]
      have hj2 := hN.ltc hj c7 (by decide)
      rcases hr with ⟨q1, q2⟩ | ⟨g, q1, q2, hg⟩
      · subst q1
        obtain ⟨S', e, b⟩ := m_fac_rowX d h M h7 hb (by omega) c6 c7 (by omega)
        exact ⟨hj, S', by rw [x14_fac e hb.2.1, x43_go, x14_X (b.ne h7)], b⟩
      · subst q1
        obtain ⟨S1, e, b⟩ := m_fac_row d h M h7 hb (by omega) c6 c7 (by omega)
        have e1 := (x14_fac e hb.2.1).trans x43_go
        have hr := sm_ok hg h7 hN (Or.inr ⟨_, _, rfl, Or.inr rfl⟩) (by rw [nst_in (by show nsW (nI 13) = true; decide)]; omega) (okH.cons (Or.inr (by show nsW (nI 13) = true; decide)) ho) b (by rw [List.length_cons]; omega) hj2
        exact clo_ok h7 hN (Or.inr ⟨rfl, rfl, rfl⟩) (by omega) (by omega) hr e1
    · rw [if_neg c7]
      obtain ⟨S', e, b⟩ := m_fac_name d h M h7 hb (by omega) c6 c7
      exact ⟨by omega, hj, by rw [one]; omega, S', x14_fac e hb.2.1, b⟩
  rw [if_neg c6]
  rw [Bool.not_eq_true] at c4 c6
  obtain ⟨S1, e, b⟩ := m_fac_no d h M h7 hb c1 c2 c3 c5 c4 c6
  obtain ⟨S', e2, b2⟩ := x43_X (d := d) (h := h) (M := M) h7 b ho (fun q => by
    have hj2 : i < N := hN.lt hi (fun z => by rw [z] at q; revert q; decide)
    omega)
  exact ⟨hi, S', by rw [x14_fac e hb.2.1]; exact e2, b2⟩
theorem fcF_ok (d : Nat) (h : xH) (M : Nat) {t : Nat → Int32} {n N : Nat} (S0 : gS) (h7 : n ≤ 700) (hN : nN (pcs t n) N) : ∀ r, r ≤ 20 → facOK d h M t n N S0 (20 - r) (fcF (pcs t n) r)
  | 0, _ => fcG_ok h7 hN (Or.inl ⟨rfl, rfl⟩)
  | r + 1, hr => by
    have ih := fcF_ok d h M S0 h7 hN r (by omega)
    have e : 20 - r = 20 - (r + 1) + 1 := by omega
    rw [e] at ih
    exact fcG_ok h7 hN (Or.inr ⟨_, rfl, by omega, ih⟩)
def exR (d : Nat) (h : xH) (M : Nat) (t : Nat → Int32) (n N : Nat) (S0 : gS) (i : Nat) (A : List aT) (S : gS) : eR → Prop
  | .inl q => q ≤ N ∧ ∃ S', xm (d + 4) 155 [.ref M] (oh 11 h M S) = some (none, oh 11 h M S') ∧ bdV t n S0 S' q
  | .inr (j, B) => i < j ∧ j ≤ N ∧ B.length + i ≤ j ∧ ∃ S', xm (d + 4) 155 [.ref M] (oh 11 h M S) = some (none, oh 11 h M S') ∧ bV t n S0 S' j (A ++ B) []
theorem m_expression (d : Nat) (h : xH) (M : Nat) {t : Nat → Int32} {n N : Nat} {S0 S : gS} {i : Nat} {A : List aT} (h7 : n ≤ 700) (hN : nN (pcs t n) N) (h1 : rV t n S i) (h2 : sI S 34 = -nI 1) (h3 : isA S A) (h6 : fr pEx S0 S) (hl : A.length ≤ i) (hi : i ≤ N) : exR d h M t n N S0 i A S (exF (pcs t n) i) := by
  have hb : bV t n S0 (uI (uI S 56 (nI 0)) 57 (nI 0)) i A [] := ⟨h1, h2, h3, ⟨rfl, trivial⟩, rfl, (h6.uI (by decide)).uI (by decide)⟩
  have hr := sm_ok (fcF_ok d h M S0 h7 hN 20 (Nat.le_refl _)) h7 hN (Or.inl rfl) rfl (fun x hx => absurd hx List.not_mem_nil) hb hl hi
  have e0 : xm (d + 4) 155 [.ref M] (oh 11 h M S) = x14 d h M (nI 1) (nI 1) (uI (uI S 56 (nI 0)) 57 (nI 0)) := by
    rw [E_155 _ _ _ rfl]
    unfold x14
    simp (disch := omega) only [q_155_0, q_155_1, q_155_2, q_155_5, q_155_6, q_155_7, q_155_10, q_155_11, q_155_12, q_155_13, og_11_56, op_11_56, og_11_57, op_11_57, og_11_34, o_is, o_ob, ofs_len11, ↓reduceIte, k_cr, k_ci, k_oR, k_oN, k_aR, k_aN, and_true, true_and, and_self, eq_self, Nat.reduceLT, Nat.reduceLeDiff, Nat.reduceEqDiff, Nat.reduceAdd, Nat.reduceMul, Bool.true_eq_false, Bool.false_eq_true, Nat.add_sub_cancel, Nat.not_lt_zero, Nat.zero_le, k_sub, k_sb1, k_r, k_n, k_ret, k_t1, k_t0, k_nr, k_nn, k_z0, k_z1, k_zb, x_okI, lit_nI, k_in, k_cl, k_lt, k_le, k_eq, k_neg, nI_add, nI_mul, k_clt, k_cgt, k_cle, k_cge, k_ceq, bI_0, k_sh8, ne_eq, Nat.add_eq_zero_iff, Nat.one_ne_zero, Nat.succ_ne_zero, and_false, false_and, not_false_eq_true, not_true_eq_false, ite_true, ite_false, if_true, if_false]
  have hN7 := hN.1
  unfold exF
  cases hq : smF (pcs t n) (fcF (pcs t n) 20) i with
  | inl q =>
    rw [hq] at hr
    obtain ⟨r0, S', e5, b5⟩ := hr
    exact ⟨r0, S', by rw [e0]; exact e5, b5⟩
  | inr z =>
    obtain ⟨j, B⟩ := z
    rw [hq] at hr
    obtain ⟨s1, s2, s3, s4, S', A', P, p1, p2, p3, p4⟩ := hr
    have hlen : A'.length + P.length = A.length + B.length := by rw [← List.length_append, p2, List.length_append]
    obtain ⟨S2, e2, b2⟩ := m_beh_end d h M s3 p1 p4 (by rw [List.append_nil]; omega)
    rw [p2] at b2
    refine ⟨s1, s2, s4, S2, ?_, b2⟩
    rw [e0, p3, x43_no (by rw [p4.1.2.2.2.1]; exact s3), x14_beh e2 p4.2.1, x43_end]
