/-! The class reads the RULES of a MOVE. -/
def kA (κ0 : Nat) (κ : Nat → Nat) : Option Nat → Nat
  | none => κ0
  | some c => κ c
def kT (SK0 : gS) (SK : Nat → gS) : Option Nat → gS
  | none => SK0
  | some c => SK c
def kC (m : Nat → Nat) : Option Nat → Nat
  | none => 0
  | some c => m c
theorem kR_A (κ0 : Nat) (κ : Nat → Nat) (o : Option Nat) : kR κ0 κ o = .ref (kA κ0 κ o) := by cases o <;> rfl
theorem pE.k1 {Q P β1 β2 κ0 n0 : Nat} {SP SB1 SB2 SK0 : gS} {n1 n2 : Nat} {κ1 κ2 : Nat → Nat} {SK1 SK2 : Nat → gS} {h : xH} {m1 : Nat → Nat} {o : Option Nat} (H : pE Q P β1 β2 κ0 n0 SP SB1 SB2 SK0 n1 n2 κ1 κ2 SK1 SK2 h) (hK : ∀ c, c < n1 → kOK (SK1 c) (m1 c)) (ho : ∀ c, o = some c → c < n1) : isB 1 h (kA κ0 κ1 o) (kT SK0 SK1 o) ∧ kOK (kT SK0 SK1 o) (kC m1 o) ∧ dj 4 Q 1 (kA κ0 κ1 o) ∧ below 1 (kA κ0 κ1 o) n0 := by
  obtain ⟨a1, a2, a3, a4, a5, a6, a7, a8, a9, a10, a11, a12, a13⟩ := H
  cases o with
  | none => exact ⟨a4, a13, a12, a8⟩
  | some c =>
    have hc := ho c rfl
    exact ⟨(a2.2.1.2.2 c hc).2, hK c hc, a2.2.2.2 c hc, a9 c hc⟩
theorem pE.k2 {Q P β1 β2 κ0 n0 : Nat} {SP SB1 SB2 SK0 : gS} {n1 n2 : Nat} {κ1 κ2 : Nat → Nat} {SK1 SK2 : Nat → gS} {h : xH} {m2 : Nat → Nat} {o : Option Nat} (H : pE Q P β1 β2 κ0 n0 SP SB1 SB2 SK0 n1 n2 κ1 κ2 SK1 SK2 h) (hK : ∀ c, c < n2 → kOK (SK2 c) (m2 c)) (ho : ∀ c, o = some c → c < n2) : isB 1 h (kA κ0 κ2 o) (kT SK0 SK2 o) ∧ kOK (kT SK0 SK2 o) (kC m2 o) ∧ dj 4 Q 1 (kA κ0 κ2 o) ∧ below 1 (kA κ0 κ2 o) n0 := by
  obtain ⟨a1, a2, a3, a4, a5, a6, a7, a8, a9, a10, a11, a12, a13⟩ := H
  cases o with
  | none => exact ⟨a4, a13, a12, a8⟩
  | some c =>
    have hc := ho c rfl
    exact ⟨(a3.2.1.2.2 c hc).2, hK c hc, a3.2.2.2 c hc, a10 c hc⟩
/-- RULES do it one after the other -/
def rusM (eo en : kE) : Nat → mS → List rT → mS
  | _, ms, [] => ms
  | c0, ms, r :: R => rusM eo en (c0 + (ruCod eo r).length) (ruStep eo en c0 ms r) R
theorem hV.rule {P κ A : Nat} {S0 S S' : gS} {i z j z' : Nat} {C C' : List cT} (h : hV P S0 S i z C) (hv : cV P κ A S S' j z' C') : hV P S0 S' j z' C' :=
  ⟨h.1, hv.2.2.2.1, hv.2.2.2.2.1, hv.2.2.2.2.2.1, hv.2.2.2.2.2.2.1, hv.2.2.2.2.2.2.2.1, h.2.2.2.2.2.2.trans (hv.2.2.2.2.2.2.2.2.mono (fun k hk => by
    unfold pHd at hk
    unfold pCx
    simp only [Bool.or_eq_false_iff, Bool.and_eq_false_iff, decide_eq_false_iff_not] at hk ⊢
    omega))⟩
theorem hV.ruleX {P κ A : Nat} {S0 S S' : gS} {i z q : Nat} {C : List cT} (h : hV P S0 S i z C) (hv : cX P κ A S S' q) : hX P S0 S' q :=
  ⟨h.1, hv.2.2.2.1, hv.2.2.2.2.1, hv.2.2.2.2.2.1, h.2.2.2.2.2.2.trans (hv.2.2.2.2.2.2.2.mono (fun k hk => by
    unfold pHd at hk
    unfold pCx
    simp only [Bool.or_eq_false_iff, Bool.and_eq_false_iff, decide_eq_false_iff_not] at hk ⊢
    omega))⟩
theorem ruCod_le (eo : kE) (r : rT) : (ruCod eo r).length ≤ r.2.2.2.2.2.length := by
  unfold ruCod
  split
  · exact Nat.zero_le _
  · rw [List.length_map]
    exact Nat.le_refl _
theorem rlF_e {p : pP} {f j : Nat} (h : p.1 j = nI 125) : rlF p (f + 1) j = .inr (j + 1, []) := by
  show (if p.1 j = nI 125 then Sum.inr (j + 1, []) else _) = _
  rw [if_pos h]
theorem rlF_n {p : pP} {f j : Nat} (h : ¬ p.1 j = nI 125) : rlF p (f + 1) j = (match ruF p j with
    | .inl q => .inl q
    | .inr (q, r) => (match rlF p f q with
      | .inl z => .inl z
      | .inr (z, L) => .inr (z, r :: L))) := by
  show (if p.1 j = nI 125 then Sum.inr (j + 1, []) else _) = _
  rw [if_neg h]
  rfl
theorem rlF_1 {p : pP} {f j q : Nat} (h : ¬ p.1 j = nI 125) (h1 : ruF p j = .inl q) : rlF p (f + 1) j = .inl q := by
  rw [rlF_n h, h1]
theorem rlF_2 {p : pP} {f j q z : Nat} {r : rT} (h : ¬ p.1 j = nI 125) (h1 : ruF p j = .inr (q, r)) (h2 : rlF p f q = .inl z) : rlF p (f + 1) j = .inl z := by
  rw [rlF_n h, h1]
  show (match rlF p f q with
    | .inl z => Sum.inl z
    | .inr (z, L) => Sum.inr (z, r :: L)) = _
  rw [h2]
theorem rlF_3 {p : pP} {f j q z : Nat} {r : rT} {L : List rT} (h : ¬ p.1 j = nI 125) (h1 : ruF p j = .inr (q, r)) (h2 : rlF p f q = .inr (z, L)) : rlF p (f + 1) j = .inr (z, r :: L) := by
  rw [rlF_n h, h1]
  show (match rlF p f q with
    | .inl z => Sum.inl z
    | .inr (z, L) => Sum.inr (z, r :: L)) = _
  rw [h2]
def rlI (D Q P A : Nat) (S0 : gS) (eo en : kE) (nm : Nat → Int64) (nN N j k kk z : Nat) (C : List cT) (tg : Int32) (ms : mS) (l1 l3 l4 : Value) (l2 : Int32) (S T : gS) (h : xH) : Nat ⊕ (Nat × List rT) → Prop
  | .inl q => q ≤ N ∧ ∃ S' T' k', xrun D 40 19 [(1, .ref Q), (1, l1), (1, .int l2), (1, l3), (1, l4), (1, .int (nI k))] [] (oh 4 (oh 3 h A T) Q S) = xrun D 40 114 [(1, .ref Q), (1, l1), (1, .int l2), (1, l3), (1, l4), (1, .int (nI k'))] [] (oh 4 (oh 3 h A T') Q S') ∧ hX P S0 S' q
  | .inr (j', R) => j < j' ∧ j' ≤ N ∧ ∃ S' T' k', xrun D 40 19 [(1, .ref Q), (1, l1), (1, .int l2), (1, l3), (1, l4), (1, .int (nI k))] [] (oh 4 (oh 3 h A T) Q S) = xrun D 40 19 [(1, .ref Q), (1, l1), (1, .int l2), (1, l3), (1, l4), (1, .int (nI k'))] [] (oh 4 (oh 3 h A T') Q S') ∧ k' ≤ j' ∧ hV P S0 S' j' (mnF (crusB eo en nN C.length ms R) z) (C ++ R.flatMap (ruCod eo)) ∧ sI S' 8 = nI kk ∧ sI S' 12 = nI 0 ∧ msT T' tg (ihP eo en nm nN 0 (rusM eo en C.length ms R)) ∧ (C ++ R.flatMap (ruCod eo)).length + 5 ≤ j'
theorem rd_rules (d : Nat) {Q P κ A κN N kk : Nat} {SP SK SN S0 : gS} {nO nN : Nat} {p : pP} {h : xH} {tg : Int32} {l1 l3 l4 : Value} {l2 : Int32} (hs : cS2 Q P κ A κN SP SK SN nO nN N p) (hu : ∀ i, ¬ p.1 i = nI 0 → p.2.1 i < p.2.1 (i + 1)) (h3 : sI SP 3 = nI (N + 1)) (hP : isB 0 h P SP) (hκ : isB 1 h κ SK) (hκN : isB 1 h κN SN) : ∀ (f j k : Nat) (S T : gS) (z : Nat) (C : List cT) (ms : mS), hV P S0 S j z C → sI S 8 = nI kk → sI S 12 = nI 1 → sR S 9 = .ref κ → sR S 10 = .ref κN → sR S 11 = .ref A → msT T tg ms → C.length + 5 ≤ j → j ≤ N → k ≤ j → N < f + j → rlI (d + 67) Q P A S0 (eC SK nO) (eC SN nN) (sL SN 1) nN N j k kk z C tg ms l1 l3 l4 l2 S T h (rlF p f j)
  | 0, j, k, S, T, z, C, ms, hv, h8, h12, r9, r10, r11, hm, hC, hj, hk, hf => by omega
  | f + 1, j, k, S, T, z, C, ms, hv, h8, h12, r9, r10, r11, hm, hC, hj, hk, hf => by
    have hN := hs.1.2.2.2.2.2.2.2.1
    have hN7 := hN.1
    have HA : isB 3 (oh 3 h A T) A T := isB_oh _ _ _ _
    have hh : cH2 P κ A κN SP SK SN T (oh 3 h A T) := ⟨⟨hP.frame hs.1.2.2.2.1, hκ.frame hs.1.2.2.2.2.1, HA⟩, hκN.frame hs.2.2.1⟩
    have hv0 : cV P κ A S S j z C := ⟨hv.r0, r9, r11, hv.2.1, hv.2.2.1, hv.2.2.2.1, hv.2.2.2.2.1, hv.2.2.2.2.2.1, fr.rfl⟩
    have eK : xm (d + 67) 47 [.ref Q] (oh 4 (oh 3 h A T) Q S) = _ := k_kind (d + 66) hs.1 hh.1 hv.r0 hv.2.1 hj
    have h14 := hv.2.2.1
    have k7 : ¬ 700 < k := by omega
    have iA := k_isA hs.1 hh.1
    by_cases cb : p.1 j = nI 125
    · have hj1 : j + 1 ≤ N := hN.ltc hj cb (by decide)
      rw [rlF_e cb]
      have ec : cK p j = nI 125 := (cK_c (by decide)).mpr cb
      rw [ec] at eK
      obtain ⟨T', eI, hm'⟩ := n_inherit (d + 65) (Q := Q) (S := S) hs hh hm
      rw [oh_oh] at eI
      have eI : xm (d + 67) 54 [.ref A, .ref κ, .ref κN] (oh 4 (oh 3 h A T) Q S) = _ := eI
      refine ⟨by omega, hj1, uI (uI S 12 (nI 0)) 13 (nI (j + 1)), T', k + 1, ?_, by omega, ?_, h8, rfl, hm', ?_⟩
      · have h13 := hv.2.1
        rw [q_40_19]
        simp (disch := omega) only [q_40_0, q_40_1, q_40_2, q_40_4, q_40_7, q_40_8, q_40_11, q_40_12, q_40_13, q_40_16, q_40_17, q_40_21, q_40_24, q_40_27, q_40_28, q_40_31, q_40_34, q_40_35, q_40_38, q_40_41, q_40_42, q_40_45, q_40_48, q_40_49, q_40_52, q_40_55, q_40_56, q_40_59, q_40_62, q_40_63, q_40_66, q_40_68, q_40_71, q_40_72, q_40_75, q_40_76, q_40_79, q_40_80, q_40_83, q_40_86, q_40_87, q_40_88, q_40_91, q_40_92, q_40_93, q_40_96, q_40_97, q_40_98, q_40_101, q_40_104, q_40_105, q_40_108, q_40_111, q_40_114, q_40_115, q_40_118, q_40_119, q_40_122, q_40_123, q_40_124, q_40_125, q_40_128, q_40_131, q_40_132, q_40_133, q_40_136, q_40_137, q_40_140, q_40_141, q_40_144, q_40_147, q_40_148, q_40_151, q_40_152, q_40_155, q_40_158, q_40_159, q_40_162, q_40_163, q_40_166, q_40_169, og_4_0, og_4_14, og_4_12, op_4_12, og_4_11, og_4_9, og_4_10, og_4_13, op_4_13, og_4_7, og_4_2, or_4_2, ow_4_2, og_4_4, og_4_3, or_4_3, ow_4_3, og_4_6, og_4_8, o_is, o_ob, ofs_len4, ↓reduceIte, k_cr, k_ci, k_oR, k_oN, k_aR, k_aN, and_true, true_and, and_self, eq_self, Nat.reduceLT, Nat.reduceLeDiff, Nat.reduceEqDiff, Nat.reduceAdd, Nat.reduceMul, Bool.true_eq_false, Bool.false_eq_true, Nat.add_sub_cancel, Nat.not_lt_zero, Nat.zero_le, k_sub, k_sb1, k_r, k_n, k_ret, k_t1, k_t0, k_nr, k_nn, k_z0, k_z1, k_zb, x_okI, lit_nI, k_in, k_cl, k_lt, k_le, k_eq, k_neg, nI_add, nI_mul, k_clt, k_cgt, k_cle, k_cge, k_ceq, bI_0, k_sh8, ne_eq, Nat.add_eq_zero_iff, Nat.one_ne_zero, Nat.succ_ne_zero, and_false, false_and, not_false_eq_true, not_true_eq_false, ite_true, ite_false, if_true, if_false, sI_uI, sJ_uI, sA_uI, sL_uI, sR_uI, sQ_uI, sI_uJ, sJ_uJ, sA_uJ, sL_uJ, sR_uJ, sQ_uJ, sI_uA, sJ_uA, sA_uA, sL_uA, sR_uA, sQ_uA, sI_uL, sJ_uL, sA_uL, sL_uL, sR_uL, sQ_uL, sI_uR, sJ_uR, sA_uR, sL_uR, sR_uR, sQ_uR, sI_uQ, sJ_uQ, sA_uQ, sL_uQ, sR_uQ, sQ_uQ, iA, k7, h14, h12, h13, r9, r10, r11, eK, eI]
      · show hV P S0 _ (j + 1) z (C ++ [])
        rw [List.append_nil]
        exact ⟨hv.1, rfl, hv.2.2.1, hv.2.2.2.1, hv.2.2.2.2.1, hv.2.2.2.2.2.1, (hv.2.2.2.2.2.2.uI (by decide)).uI (by decide)⟩
      · show (C ++ []).length + 5 ≤ j + 1
        rw [List.append_nil]
        omega
    · have ec : ¬ cK p j = nI 125 := fun q => cb ((cK_c (by decide)).mp q)
      have hR := k_rule d hs hu hh hv0 r10 h3 hm (by omega) hj
      have go : ∀ h', xm (d + 67) 56 [.ref Q] (oh 4 (oh 3 h A T) Q S) = some (none, h') → xrun (d + 67) 40 19 [(1, .ref Q), (1, l1), (1, .int l2), (1, l3), (1, l4), (1, .int (nI k))] [] (oh 4 (oh 3 h A T) Q S) = xrun (d + 67) 40 19 [(1, .ref Q), (1, l1), (1, .int l2), (1, l3), (1, l4), (1, .int (nI (k + 1)))] [] h' := by
        intro h' e
        generalize cK p j = ck at *
        rw [q_40_19]
        simp (disch := omega) only [q_40_0, q_40_1, q_40_2, q_40_4, q_40_7, q_40_8, q_40_11, q_40_12, q_40_13, q_40_16, q_40_17, q_40_21, q_40_24, q_40_27, q_40_28, q_40_31, q_40_34, q_40_35, q_40_38, q_40_41, q_40_42, q_40_45, q_40_48, q_40_49, q_40_52, q_40_55, q_40_56, q_40_59, q_40_62, q_40_63, q_40_66, q_40_68, q_40_71, q_40_72, q_40_75, q_40_76, q_40_79, q_40_80, q_40_83, q_40_86, q_40_87, q_40_88, q_40_91, q_40_92, q_40_93, q_40_96, q_40_97, q_40_98, q_40_101, q_40_104, q_40_105, q_40_108, q_40_111, q_40_114, q_40_115, q_40_118, q_40_119, q_40_122, q_40_123, q_40_124, q_40_125, q_40_128, q_40_131, q_40_132, q_40_133, q_40_136, q_40_137, q_40_140, q_40_141, q_40_144, q_40_147, q_40_148, q_40_151, q_40_152, q_40_155, q_40_158, q_40_159, q_40_162, q_40_163, q_40_166, q_40_169, og_4_0, og_4_14, og_4_12, op_4_12, og_4_11, og_4_9, og_4_10, og_4_13, op_4_13, og_4_7, og_4_2, or_4_2, ow_4_2, og_4_4, og_4_3, or_4_3, ow_4_3, og_4_6, og_4_8, o_is, o_ob, ofs_len4, ↓reduceIte, k_cr, k_ci, k_oR, k_oN, k_aR, k_aN, and_true, true_and, and_self, eq_self, Nat.reduceLT, Nat.reduceLeDiff, Nat.reduceEqDiff, Nat.reduceAdd, Nat.reduceMul, Bool.true_eq_false, Bool.false_eq_true, Nat.add_sub_cancel, Nat.not_lt_zero, Nat.zero_le, k_sub, k_sb1, k_r, k_n, k_ret, k_t1, k_t0, k_nr, k_nn, k_z0, k_z1, k_zb, x_okI, lit_nI, k_in, k_cl, k_lt, k_le, k_eq, k_neg, nI_add, nI_mul, k_clt, k_cgt, k_cle, k_cge, k_ceq, bI_0, k_sh8, ne_eq, Nat.add_eq_zero_iff, Nat.one_ne_zero, Nat.succ_ne_zero, and_false, false_and, not_false_eq_true, not_true_eq_false, ite_true, ite_false, if_true, if_false, sI_uI, sJ_uI, sA_uI, sL_uI, sR_uI, sQ_uI, sI_uJ, sJ_uJ, sA_uJ, sL_uJ, sR_uJ, sQ_uJ, sI_uA, sJ_uA, sA_uA, sL_uA, sR_uA, sQ_uA, sI_uL, sJ_uL, sA_uL, sL_uL, sR_uL, sQ_uL, sI_uR, sJ_uR, sA_uR, sL_uR, sR_uR, sQ_uR, sI_uQ, sJ_uQ, sA_uQ, sL_uQ, sR_uQ, sQ_uQ, iA, k7, h14, h12, eK, ec, e]
      cases hr : ruF p j with
      | inl q =>
        rw [hr] at hR
        obtain ⟨hq, S', T', e, hx⟩ := hR
        rw [oh_oh] at e
        have hx' := hv.ruleX hx
        rw [rlF_1 cb hr]
        refine ⟨hq, S', T', k + 1, ?_, hx'⟩
        rw [go _ e]
        have f14 := hx'.2.2.1
        rw [q_40_19]
        by_cases k8 : 700 < k + 1
        · simp (disch := omega) only [q_40_21, q_40_24, o_is, ↓reduceIte, k_cr, k_ci, k_oR, k_oN, k_aR, k_aN, and_true, true_and, and_self, eq_self, Nat.reduceLT, Nat.reduceLeDiff, Nat.reduceEqDiff, Nat.reduceAdd, Nat.reduceMul, Bool.true_eq_false, Bool.false_eq_true, Nat.add_sub_cancel, Nat.not_lt_zero, Nat.zero_le, k_sub, k_sb1, k_r, k_n, k_ret, k_t1, k_t0, k_nr, k_nn, k_z0, k_z1, k_zb, x_okI, lit_nI, k_in, k_cl, k_lt, k_le, k_eq, k_neg, nI_add, nI_mul, k_clt, k_cgt, k_cle, k_cge, k_ceq, bI_0, k_sh8, ne_eq, Nat.add_eq_zero_iff, Nat.one_ne_zero, Nat.succ_ne_zero, and_false, false_and, not_false_eq_true, not_true_eq_false, ite_true, ite_false, if_true, if_false, k8]
        · simp (disch := omega) only [q_40_21, q_40_24, q_40_27, q_40_28, q_40_31, og_4_14, o_is, ↓reduceIte, k_cr, k_ci, k_oR, k_oN, k_aR, k_aN, and_true, true_and, and_self, eq_self, Nat.reduceLT, Nat.reduceLeDiff, Nat.reduceEqDiff, Nat.reduceAdd, Nat.reduceMul, Bool.true_eq_false, Bool.false_eq_true, Nat.add_sub_cancel, Nat.not_lt_zero, Nat.zero_le, k_sub, k_sb1, k_r, k_n, k_ret, k_t1, k_t0, k_nr, k_nn, k_z0, k_z1, k_zb, x_okI, lit_nI, k_in, k_cl, k_lt, k_le, k_eq, k_neg, nI_add, nI_mul, k_clt, k_cgt, k_cle, k_cge, k_ceq, bI_0, k_sh8, ne_eq, Nat.add_eq_zero_iff, Nat.one_ne_zero, Nat.succ_ne_zero, and_false, false_and, not_false_eq_true, not_true_eq_false, ite_true, ite_false, if_true, if_false, k8, f14]
      | inr qr =>
        obtain ⟨q, r⟩ := qr
        rw [hr] at hR
        obtain ⟨hq1, hq2, S', T', e, hc', hm'⟩ := hR
        rw [oh_oh] at e
        have hl := ruCod_le (eC SK nO) r
        have hv' := hv.rule hc'
        have fS := hc'.2.2.2.2.2.2.2.2
        have ih := rd_rules d (kk := kk) (l1 := l1) (l2 := l2) (l3 := l3) (l4 := l4) hs hu h3 hP hκ hκN f q (k + 1) S' T' _ _ _ hv' ((fS 8 (by decide)).1.trans h8) ((fS 12 (by decide)).1.trans h12) ((fS 9 (by decide)).2.2.2.2.1.trans r9) ((fS 10 (by decide)).2.2.2.2.1.trans r10) ((fS 11 (by decide)).2.2.2.2.1.trans r11) hm' (by rw [List.length_append]; omega) hq2 (by omega) (by omega)
        cases ht : rlF p f q with
        | inl z' =>
          rw [ht] at ih
          obtain ⟨i1, S2, T2, k2, e2, x2⟩ := ih
          rw [rlF_2 cb hr ht]
          exact ⟨i1, S2, T2, k2, (go _ e).trans e2, x2⟩
        | inr zL =>
          obtain ⟨z', L⟩ := zL
          rw [ht] at ih
          obtain ⟨i1, i2, S2, T2, k2, e2, i3, i4, i5, i6, i7, i8⟩ := ih
          have ea : (C ++ ruCod (eC SK nO) r) ++ L.flatMap (ruCod (eC SK nO)) = C ++ (r :: L).flatMap (ruCod (eC SK nO)) := by
            rw [List.flatMap_cons, List.append_assoc]
          have el : (C ++ ruCod (eC SK nO) r).length = C.length + (ruCod (eC SK nO) r).length := List.length_append
          rw [ea] at i4 i8
          rw [el] at i4 i7
          rw [rlF_3 cb hr ht]
          refine ⟨by omega, i2, S2, T2, k2, (go _ e).trans e2, i3, ?_, i5, i6, i7, i8⟩
          rw [show crusB (eC SK nO) (eC SN nN) nN C.length ms (r :: L) = cruB (eC SK nO) (eC SN nN) nN ms r ++ crusB (eC SK nO) (eC SN nN) nN (C.length + (ruCod (eC SK nO) r).length) (ruStep (eC SK nO) (eC SN nN) C.length ms r) L from rfl, mnF_app]
          exact i4
