/-! The reference: one VALUE after the other. -/
def rsR (S S' : gS) (mN : Nat → Nat) (t x y : Nat) (A : List aX) (h : xH) (M : Nat) (number : Int32) (run : Option xR) (nxt : Option xR → Prop) : rfT ⊕ (List aX × Nat × Nat) → Prop
  | .inl q => run = some (some (.int (nI 0)), oh 11 h M (rfX S' q number))
  | .inr r => nxt run ∧ nvl S' mN t (A ++ r.1) ∧ sA S' 7 2 = nI (A.length + r.1.length) ∧ sI S' 62 = nI (x + r.2.1) ∧ sI S' 63 = nI (y + r.2.2)
theorem rs_loop (d : Nat) (h : xH) (M : Nat) {f t nf : Nat} {cN mN ty : Nat → Nat} {L : List mT} {number l4 : Int32} {dr : Bool} (hf : f < 8) (ht : t < 8) (hP : ∀ m, m ∈ L → moP aOK 700 m) (hnf : nf ≤ 60) : ∀ (V : List (Nat × vW)) (i x y : Nat) (S : gS) (A : List aX) (l6 l7 l8 : Nat × Value), i + V.length = nf → isT S L → refT S cN mN ty → sA S 7 1 = nI nf → sA S 7 2 = nI A.length → A.length ≤ i → sI S 62 = nI x → sI S 63 = nI y → sI S 17 = bI dr → x + 8 * V.length < 500000 → (∀ j v, V[j]? = some v → v.1 < cN f ∧ wkV S f v.1 (mN (6 * f + v.1)) (60 + (i + j)) v.2 ∧ vOK (zK S cN mN ty f t L) v) → gdZ (zK S cN mN ty f t L) (cN f) → nvl S mN t A → ∃ S', stG S S' ∧ rsR S S' mN t x y A h M number (xrun (d + 7) 173 73 [(1, .ref M), (1, .int (nI f)), (1, .int (nI t)), (1, .int number), (1, .int l4), (1, .int (nI (60 + i))), l6, l7, l8] [] (oh 11 h M S)) (fun run => ∃ l5 l6 l7 l8, run = xrun (d + 7) 173 242 [(1, .ref M), (1, .int (nI f)), (1, .int (nI t)), (1, .int number), (1, .int l4), (1, .int l5), l6, l7, l8] [] (oh 11 h M S')) (stF (zK S cN mN ty f t L) dr V)
  | [], i, x, y, S, A, l6, l7, l8, hi, hT, hK, h71, h72, hA, h62, h63, h17, hx, hV, hgd, hnv => by
    have hi : i = nf := hi
    have hle : 60 + nf ≤ 60 + i := by omega
    refine ⟨S, stG.rfl, ⟨nI (60 + i), l6, l7, l8, ?_⟩, ?_, h72, h62, h63⟩
    · rw [q_173_73]
      simp (disch := omega) only [q_173_0, q_173_2, q_173_3, q_173_4, q_173_5, q_173_6, q_173_8, q_173_9, q_173_10, q_173_13, q_173_15, q_173_16, q_173_19, q_173_20, q_173_24, q_173_25, q_173_28, q_173_31, q_173_32, q_173_35, q_173_37, q_173_38, q_173_41, q_173_44, q_173_46, q_173_47, q_173_49, q_173_50, q_173_51, q_173_52, q_173_55, q_173_58, q_173_59, q_173_62, q_173_63, q_173_66, q_173_67, q_173_68, q_173_69, q_173_71, q_173_75, q_173_77, q_173_78, q_173_81, q_173_82, q_173_83, q_173_84, q_173_87, q_173_88, q_173_91, q_173_93, q_173_94, q_173_96, q_173_97, q_173_98, q_173_100, q_173_103, q_173_105, q_173_107, q_173_108, q_173_111, q_173_112, q_173_115, q_173_117, q_173_118, q_173_121, q_173_122, q_173_123, q_173_126, q_173_127, q_173_128, q_173_131, q_173_134, q_173_135, q_173_136, q_173_138, q_173_139, q_173_142, q_173_143, q_173_146, q_173_148, q_173_149, q_173_150, q_173_152, q_173_153, q_173_154, q_173_157, q_173_158, q_173_161, q_173_163, q_173_164, q_173_167, q_173_169, q_173_171, q_173_172, q_173_175, q_173_176, q_173_179, q_173_182, q_173_183, q_173_185, q_173_187, q_173_188, q_173_189, q_173_192, q_173_193, q_173_194, q_173_195, q_173_198, q_173_199, q_173_200, q_173_203, q_173_206, q_173_207, q_173_208, q_173_209, q_173_211, q_173_213, q_173_215, q_173_216, q_173_219, q_173_222, q_173_223, q_173_224, q_173_225, q_173_226, q_173_227, q_173_229, q_173_231, q_173_233, q_173_236, q_173_239, og_11_13, or_11_13, ow_11_13, og_11_29, op_11_29, og_11_28, or_11_28, ow_11_28, og_11_14, or_11_14, ow_11_14, og_11_7, or_11_7, ow_11_7, og_11_9, or_11_9, ow_11_9, og_11_36, or_11_36, ow_11_36, og_11_63, op_11_63, og_11_1, or_11_1, ow_11_1, og_11_39, or_11_39, ow_11_39, og_11_17, o_is, o_ob, ofs_len11, ↓reduceIte, k_cr, k_ci, k_oR, k_oN, k_aR, k_aN, and_true, true_and, and_self, eq_self, Nat.reduceLT, Nat.reduceLeDiff, Nat.reduceEqDiff, Nat.reduceAdd, Nat.reduceMul, Bool.true_eq_false, Bool.false_eq_true, Nat.add_sub_cancel, Nat.not_lt_zero, Nat.zero_le, k_sub, k_sb1, k_r, k_n, k_ret, k_t1, k_t0, k_nr, k_nn, k_z0, k_z1, k_zb, x_okI, lit_nI, k_in, k_cl, k_lt, k_le, k_eq, k_neg, nI_add, nI_mul, k_clt, k_cgt, k_cle, k_cge, k_ceq, bI_0, k_sh8, ne_eq, Nat.add_eq_zero_iff, Nat.one_ne_zero, Nat.succ_ne_zero, and_false, false_and, not_false_eq_true, not_true_eq_false, ite_true, ite_false, if_true, if_false, h71, hle]
    · rw [List.append_nil]
      exact hnv
  | v :: V, i, x, y, S, A, l6, l7, l8, hi, hT, hK, h71, h72, hA, h62, h63, h17, hx, hV, hgd, hnv => by
    have hi : i + (V.length + 1) = nf := hi
    have hlt : i < nf := by omega
    have hle : ¬ 60 + nf ≤ 60 + i := by omega
    obtain ⟨v1, v2, v3⟩ := hV 0 v rfl
    have v2 : wkV S f v.1 (mN (6 * f + v.1)) (60 + i) v.2 := v2
    have hcN := (hK.1.1 f hf).2
    have hc6 : v.1 < 6 := by omega
    have k9 : sA S 9 (60 + i) = nI v.1 := v2.2.2.2.2.2.1
    have k8 : sL S 8 (60 + i) = v.2.1 := v2.2.2.2.2.2.2.1
    have h35 : sI S 35 = nI L.length := hT.2.1
    have hL7 : L.length ≤ 699 := hT.2.2.2.2.2.2.2.2.1
    have eM : xm (d + 7) 174 [.ref M, .int (nI f), .int (nI v.1)] (oh 11 h M S) = _ := m_moveOf (d + 6) h M S f v.1 L.length hf hc6 h35 (by omega)
    have eC : ∀ w, xm (d + 7) 130 [.ref M, .int (nI t), .long w] (oh 11 h M S) = some (some (.int (oI (fC S cN t w))), oh 11 h M S) := fun w => m_findClass (d + 6) h M S t (cN t) w ht (hK.1.1 t ht).1 (hK.1.1 t ht).2
    have hxl : x + 8 * (V.length + 1) < 500000 := hx
    -- it goes on
    have go : ∀ (S1 : gS) (l dd : Nat) (Y : List aX) (fF : rfT ⊕ (List aX × Nat × Nat) → rfT ⊕ (List aX × Nat × Nat)) (m6 m7 m8 : Nat × Value), stG S S1 → xrun (d + 7) 173 73 [(1, .ref M), (1, .int (nI f)), (1, .int (nI t)), (1, .int number), (1, .int l4), (1, .int (nI (60 + i))), l6, l7, l8] [] (oh 11 h M S) = xrun (d + 7) 173 73 [(1, .ref M), (1, .int (nI f)), (1, .int (nI t)), (1, .int number), (1, .int l4), (1, .int (nI (60 + (i + 1)))), m6, m7, m8] [] (oh 11 h M S1) → l ≤ 8 → Y.length ≤ 1 → sA S1 7 2 = nI (A ++ Y).length → sI S1 62 = nI (x + l) → sI S1 63 = nI (y + dd) → nvl S1 mN t (A ++ Y) → (∀ q, fF (.inl q) = .inl q) → (∀ r, fF (.inr r) = .inr (Y ++ r.1, l + r.2.1, dd + r.2.2)) → ∃ S', stG S S' ∧ rsR S S' mN t x y A h M number (xrun (d + 7) 173 73 [(1, .ref M), (1, .int (nI f)), (1, .int (nI t)), (1, .int number), (1, .int l4), (1, .int (nI (60 + i))), l6, l7, l8] [] (oh 11 h M S)) (fun run => ∃ l5 l6 l7 l8, run = xrun (d + 7) 173 242 [(1, .ref M), (1, .int (nI f)), (1, .int (nI t)), (1, .int number), (1, .int l4), (1, .int l5), l6, l7, l8] [] (oh 11 h M S')) (fF (stF (zK S cN mN ty f t L) dr V)) := by
      intro S1 l dd Y fF m6 m7 m8 hG hrun hl hY g72 g62 g63 gnv fi fr1
      have ez := zK_fr hG.1 k15_stQ cN mN ty f t L
      obtain ⟨S', s1, s2⟩ := rs_loop d h M (l4 := l4) (dr := dr) hf ht hP hnf V (i + 1) (x + l) (y + dd) S1 (A ++ Y) m6 m7 m8 (by omega) (hT.fr hG.1 (fun k h1 h2 => by
        unfold stQ
        simp only [Bool.or_eq_false_iff, decide_eq_false_iff_not]
        omega)) (hK.fr hG.1 rfl rfl rfl rfl) (hG.2.2.2.2.2.trans h71) g72 (by rw [List.length_append]; omega) g62 g63 (((hG.1 17 (by decide)).1).trans h17) (by omega) (fun j u hj => by
        obtain ⟨u1, u2, u3⟩ := hV (j + 1) u hj
        refine ⟨u1, ?_, by rw [ez]; exact u3⟩
        rw [show i + (j + 1) = i + 1 + j by omega] at u2
        have hjl := get_lt hj
        exact hG.V u2 (by omega)) (by rw [ez]; exact hgd) gnv
      refine ⟨S', hG.trans s1, ?_⟩
      rw [ez] at s2
      rw [hrun]
      cases hq : stF (zK S cN mN ty f t L) dr V with
      | inl q =>
        rw [hq] at s2
        rw [fi]
        exact s2
      | inr r =>
        rw [hq] at s2
        rw [fr1]
        obtain ⟨z1, z2, z3, z4, z5⟩ := s2
        refine ⟨z1, ?_, z3.trans ?_, z4.trans ?_, z5.trans ?_⟩
        · rw [← List.append_assoc]
          exact z2
        · rw [List.length_append, List.length_append, Nat.add_assoc]
        · rw [Nat.add_assoc]
        · rw [Nat.add_assoc]
    have e0 : stF (zK S cN mN ty f t L) dr (v :: V) = (match oneV (zK S cN mN ty f t L) dr v.1 v.2 with
      | .inl q => .inl (q.1, some v.1, q.2, v.2.1, 0)
      | .inr none => stD (stF (zK S cN mN ty f t L) dr V)
      | .inr (some u) => stC (u.1.2.1, v.2.1, u.1.1, u.1.2) u.2 (stF (zK S cN mN ty f t L) dr V)) := rfl
    rw [e0]
    have eD : zD (zK S cN mN ty f t L) v.1 = dOf (fC S cN t) L (sL S 1 (6 * f + v.1)) := rfl
    -- dropped
    have dropd : ∀ (m6 m7 m8 : Nat × Value), xrun (d + 7) 173 73 [(1, .ref M), (1, .int (nI f)), (1, .int (nI t)), (1, .int number), (1, .int l4), (1, .int (nI (60 + i))), l6, l7, l8] [] (oh 11 h M S) = xrun (d + 7) 173 73 [(1, .ref M), (1, .int (nI f)), (1, .int (nI t)), (1, .int number), (1, .int l4), (1, .int (nI (60 + (i + 1)))), m6, m7, m8] [] (oh 11 h M (uI S 63 (nI (y + 1)))) → oneV (zK S cN mN ty f t L) dr v.1 v.2 = .inr none → ∃ S', stG S S' ∧ rsR S S' mN t x y A h M number (xrun (d + 7) 173 73 [(1, .ref M), (1, .int (nI f)), (1, .int (nI t)), (1, .int number), (1, .int l4), (1, .int (nI (60 + i))), l6, l7, l8] [] (oh 11 h M S)) (fun run => ∃ l5 l6 l7 l8, run = xrun (d + 7) 173 242 [(1, .ref M), (1, .int (nI f)), (1, .int (nI t)), (1, .int number), (1, .int l4), (1, .int l5), l6, l7, l8] [] (oh 11 h M S')) (match oneV (zK S cN mN ty f t L) dr v.1 v.2 with
      | .inl q => .inl (q.1, some v.1, q.2, v.2.1, 0)
      | .inr none => stD (stF (zK S cN mN ty f t L) dr V)
      | .inr (some u) => stC (u.1.2.1, v.2.1, u.1.1, u.1.2) u.2 (stF (zK S cN mN ty f t L) dr V)) := by
      intro m6 m7 m8 hrun ho
      rw [ho]
      refine go (uI S 63 (nI (y + 1))) 0 1 [] stD m6 m7 m8 ⟨fr.rfl.uI (by decide), fun _ _ => rfl, fun _ _ => rfl, fun _ _ => ⟨rfl, rfl⟩, rfl, rfl⟩ hrun (by omega) (by decide) ?_ h62 rfl ?_ (fun q => rfl) (fun r => ?_)
      · rw [List.append_nil]
        exact h72
      · rw [List.append_nil]
        exact hnv.fr (P := fun k => decide (k = 63)) (fr.rfl.uI (j := 63) (by decide)) ⟨rfl, rfl, rfl, rfl, rfl, rfl⟩
      · show Sum.inr (r.1, r.2.1, r.2.2 + 1) = _
        rw [Nat.zero_add, Nat.add_comm]
        rfl
    -- which CLASS it goes to
    have mid : ∀ (kq oe : Option Nat) (b0 : Nat) (af : Nat → Nat) (R : List rT), (∀ k, kq = some k → k < 699) → rkO S kq b0 af R → b0 + R.length ≤ 699 → xrun (d + 7) 173 73 [(1, .ref M), (1, .int (nI f)), (1, .int (nI t)), (1, .int number), (1, .int l4), (1, .int (nI (60 + i))), l6, l7, l8] [] (oh 11 h M S) = xrun (d + 7) 173 169 [(1, .ref M), (1, .int (nI f)), (1, .int (nI t)), (1, .int number), (1, .int l4), (1, .int (nI (60 + i))), (1, .int (nI v.1)), (1, .int (oI kq)), (1, .int (oI oe))] [] (oh 11 h M S) → (∀ e, oe = some e → e < 6) → dOf (fC S cN t) L (sL S 1 (6 * f + v.1)) = oe.map (fun e => some (e, R)) → ∃ S', stG S S' ∧ rsR S S' mN t x y A h M number (xrun (d + 7) 173 73 [(1, .ref M), (1, .int (nI f)), (1, .int (nI t)), (1, .int number), (1, .int l4), (1, .int (nI (60 + i))), l6, l7, l8] [] (oh 11 h M S)) (fun run => ∃ l5 l6 l7 l8, run = xrun (d + 7) 173 242 [(1, .ref M), (1, .int (nI f)), (1, .int (nI t)), (1, .int number), (1, .int l4), (1, .int l5), l6, l7, l8] [] (oh 11 h M S')) (match oneV (zK S cN mN ty f t L) dr v.1 v.2 with
      | .inl q => .inl (q.1, some v.1, q.2, v.2.1, 0)
      | .inr none => stD (stF (zK S cN mN ty f t L) dr V)
      | .inr (some u) => stC (u.1.2.1, v.2.1, u.1.1, u.1.2) u.2 (stF (zK S cN mN ty f t L) dr V)) := by
      intro kq oe b0 af R hkq hrk hb0 st he6 hD
      cases oe with
      | none =>
        have hD : zD (zK S cN mN ty f t L) v.1 = none := hD
        cases dr with
        | true =>
          rw [bI_t] at h17
          refine dropd (1, .int (nI v.1)) (1, .int (oI kq)) (1, .int (oI none)) ?_ ?_
          · rw [st]
            show xrun (d + 7) 173 169 [(1, .ref M), (1, .int (nI f)), (1, .int (nI t)), (1, .int number), (1, .int l4), (1, .int (nI (60 + i))), (1, .int (nI v.1)), (1, .int (oI kq)), (1, .int (-nI 1))] [] (oh 11 h M S) = xrun (d + 7) 173 73 [(1, .ref M), (1, .int (nI f)), (1, .int (nI t)), (1, .int number), (1, .int l4), (1, .int (nI (60 + (i + 1)))), (1, .int (nI v.1)), (1, .int (oI kq)), (1, .int (-nI 1))] [] (oh 11 h M (uI S 63 (nI (y + 1))))
            simp (disch := omega) only [q_173_169, q_173_171, q_173_172, q_173_175, q_173_176, q_173_179, q_173_182, q_173_183, q_173_185, q_173_187, q_173_188, q_173_189, q_173_192, q_173_193, q_173_194, q_173_195, q_173_198, q_173_199, q_173_200, q_173_203, q_173_206, q_173_207, q_173_208, q_173_209, q_173_211, q_173_213, q_173_215, q_173_216, q_173_219, q_173_222, q_173_223, q_173_224, q_173_225, q_173_226, q_173_227, q_173_229, q_173_231, q_173_233, q_173_236, q_173_239, q_173_242, q_173_243, q_173_244, q_173_247, q_173_250, q_173_251, q_173_252, q_173_253, q_173_256, q_173_257, q_173_258, q_173_259, q_173_261, q_173_265, q_173_267, q_173_268, q_173_271, q_173_272, q_173_273, q_173_274, q_173_277, q_173_278, q_173_280, q_173_283, q_173_286, q_173_289, q_173_290, og_11_13, or_11_13, ow_11_13, og_11_29, op_11_29, og_11_28, or_11_28, ow_11_28, og_11_14, or_11_14, ow_11_14, og_11_7, or_11_7, ow_11_7, og_11_9, or_11_9, ow_11_9, og_11_36, or_11_36, ow_11_36, og_11_63, op_11_63, og_11_1, or_11_1, ow_11_1, og_11_39, or_11_39, ow_11_39, og_11_17, o_is, o_ob, ofs_len11, ↓reduceIte, k_cr, k_ci, k_oR, k_oN, k_aR, k_aN, and_true, true_and, and_self, eq_self, Nat.reduceLT, Nat.reduceLeDiff, Nat.reduceEqDiff, Nat.reduceAdd, Nat.reduceMul, Bool.true_eq_false, Bool.false_eq_true, Nat.add_sub_cancel, Nat.not_lt_zero, Nat.zero_le, k_sub, k_sb1, k_r, k_n, k_ret, k_t1, k_t0, k_nr, k_nn, k_z0, k_z1, k_zb, x_okI, lit_nI, k_in, k_cl, k_lt, k_le, k_eq, k_neg, nI_add, nI_mul, k_clt, k_cgt, k_cle, k_cge, k_ceq, bI_0, k_sh8, ne_eq, Nat.add_eq_zero_iff, Nat.one_ne_zero, Nat.succ_ne_zero, and_false, false_and, not_false_eq_true, not_true_eq_false, ite_true, ite_false, if_true, if_false, h17, h63, Nat.add_assoc]
          · unfold oneV
            rw [hD]
            rfl
        | false =>
          rw [bI_f] at h17
          have eR : xm (d + 7) 175 [.ref M, .int (nI 6), .int (nI (60 + i)), .int (-nI 1), .int number] (oh 11 h M S) = _ := m_refuse (d + 6) h M S (why := 6) (v := 60 + i) (by omega) (by omega)
          rw [if_neg (show ¬ (6 : Nat) = 3 by decide), k9, k8] at eR
          have eo : oneV (zK S cN mN ty f t L) false v.1 v.2 = .inl (6, none) := by
            unfold oneV
            rw [hD]
            rfl
          rw [eo]
          refine ⟨S, stG.rfl, ?_⟩
          show _ = some (some (Value.int (nI 0)), oh 11 h M (rfX S (6, some v.1, none, v.2.1, 0) number))
          rw [rfX_0, st]
          show xrun (d + 7) 173 169 [(1, .ref M), (1, .int (nI f)), (1, .int (nI t)), (1, .int number), (1, .int l4), (1, .int (nI (60 + i))), (1, .int (nI v.1)), (1, .int (oI kq)), (1, .int (-nI 1))] [] (oh 11 h M S) = some (some (Value.int (nI 0)), oh 11 h M (rfS S 6 (nI v.1) (-nI 1) number v.2.1))
          simp (disch := omega) only [q_173_169, q_173_171, q_173_172, q_173_175, q_173_176, q_173_179, q_173_182, q_173_183, q_173_185, q_173_187, q_173_188, q_173_189, q_173_192, q_173_193, q_173_194, q_173_195, q_173_198, q_173_199, q_173_200, q_173_203, q_173_206, q_173_207, q_173_208, q_173_209, q_173_211, q_173_213, q_173_215, q_173_216, q_173_219, q_173_222, q_173_223, q_173_224, q_173_225, q_173_226, q_173_227, q_173_229, q_173_231, q_173_233, q_173_236, q_173_239, q_173_242, q_173_243, q_173_244, q_173_247, q_173_250, q_173_251, q_173_252, q_173_253, q_173_256, q_173_257, q_173_258, q_173_259, q_173_261, q_173_265, q_173_267, q_173_268, q_173_271, q_173_272, q_173_273, q_173_274, q_173_277, q_173_278, q_173_280, q_173_283, q_173_286, q_173_289, q_173_290, og_11_13, or_11_13, ow_11_13, og_11_29, op_11_29, og_11_28, or_11_28, ow_11_28, og_11_14, or_11_14, ow_11_14, og_11_7, or_11_7, ow_11_7, og_11_9, or_11_9, ow_11_9, og_11_36, or_11_36, ow_11_36, og_11_63, op_11_63, og_11_1, or_11_1, ow_11_1, og_11_39, or_11_39, ow_11_39, og_11_17, o_is, o_ob, ofs_len11, ↓reduceIte, k_cr, k_ci, k_oR, k_oN, k_aR, k_aN, and_true, true_and, and_self, eq_self, Nat.reduceLT, Nat.reduceLeDiff, Nat.reduceEqDiff, Nat.reduceAdd, Nat.reduceMul, Bool.true_eq_false, Bool.false_eq_true, Nat.add_sub_cancel, Nat.not_lt_zero, Nat.zero_le, k_sub, k_sb1, k_r, k_n, k_ret, k_t1, k_t0, k_nr, k_nn, k_z0, k_z1, k_zb, x_okI, lit_nI, k_in, k_cl, k_lt, k_le, k_eq, k_neg, nI_add, nI_mul, k_clt, k_cgt, k_cle, k_cge, k_ceq, bI_0, k_sh8, ne_eq, Nat.add_eq_zero_iff, Nat.one_ne_zero, Nat.succ_ne_zero, and_false, false_and, not_false_eq_true, not_true_eq_false, ite_true, ite_false, if_true, if_false, h17, eR]
      | some e =>
        have he := he6 e rfl
        have hD2 : zD (zK S cN mN ty f t L) v.1 = some (some (e, R)) := hD
        obtain ⟨g1, g2, g3, g4⟩ := hgd v.1 v1 e R hD2
        have ne1 : ¬ nI e = -nI 1 := by
          rw [k_neg (by omega)]
          exact fun q => q
        obtain ⟨S1, c1, c2, c3⟩ := m_carryOne (d + 2) h M S (number := number) ht he (show 60 + i < 120 by omega) h72 (by omega) hK v2 hrk hb0 g2 g3 (fun o ho k hk => (v3 o ho).1 k hk) g4
        have eo : oneV (zK S cN mN ty f t L) dr v.1 v.2 = (match cvS (zK S cN mN ty f t L) v.1 v.2 e R with
          | .inl q => .inl q
          | .inr w => .inr (some ((e, w), lsF (zK S cN mN ty f t L) v.1 v.2 e R))) := by
          unfold oneV
          rw [hD2]
          rfl
        rw [eo]
        cases hq : cvS (zK S cN mN ty f t L) v.1 v.2 e R with
        | inl q =>
          have e3 := c3 q.1 q.2 hq
          have e3 : xm (d + 7) 176 [.ref M, .int (nI f), .int (nI t), .int (nI (60 + i)), .int (nI e), .int (oI kq), .int number] (oh 11 h M S) = _ := e3
          rw [if_neg (cvS_3 hq)] at e3
          refine ⟨S1, c1.st (by omega), ?_⟩
          show _ = some (some (Value.int (nI 0)), oh 11 h M (rfX S1 (q.1, some v.1, q.2, v.2.1, 0) number))
          rw [rfX_0, st]
          show xrun (d + 7) 173 169 [(1, .ref M), (1, .int (nI f)), (1, .int (nI t)), (1, .int number), (1, .int l4), (1, .int (nI (60 + i))), (1, .int (nI v.1)), (1, .int (oI kq)), (1, .int (nI e))] [] (oh 11 h M S) = some (some (Value.int (nI 0)), oh 11 h M (rfS S1 q.1 (nI v.1) (oI q.2) number v.2.1))
          simp (disch := omega) only [q_173_169, q_173_171, q_173_172, q_173_175, q_173_176, q_173_179, q_173_182, q_173_183, q_173_185, q_173_187, q_173_188, q_173_189, q_173_192, q_173_193, q_173_194, q_173_195, q_173_198, q_173_199, q_173_200, q_173_203, q_173_206, q_173_207, q_173_208, q_173_209, q_173_211, q_173_213, q_173_215, q_173_216, q_173_219, q_173_222, q_173_223, q_173_224, q_173_225, q_173_226, q_173_227, q_173_229, q_173_231, q_173_233, q_173_236, q_173_239, q_173_242, q_173_243, q_173_244, q_173_247, q_173_250, q_173_251, q_173_252, q_173_253, q_173_256, q_173_257, q_173_258, q_173_259, q_173_261, q_173_265, q_173_267, q_173_268, q_173_271, q_173_272, q_173_273, q_173_274, q_173_277, q_173_278, q_173_280, q_173_283, q_173_286, q_173_289, q_173_290, og_11_13, or_11_13, ow_11_13, og_11_29, op_11_29, og_11_28, or_11_28, ow_11_28, og_11_14, or_11_14, ow_11_14, og_11_7, or_11_7, ow_11_7, og_11_9, or_11_9, ow_11_9, og_11_36, or_11_36, ow_11_36, og_11_63, op_11_63, og_11_1, or_11_1, ow_11_1, og_11_39, or_11_39, ow_11_39, og_11_17, o_is, o_ob, ofs_len11, ↓reduceIte, k_cr, k_ci, k_oR, k_oN, k_aR, k_aN, and_true, true_and, and_self, eq_self, Nat.reduceLT, Nat.reduceLeDiff, Nat.reduceEqDiff, Nat.reduceAdd, Nat.reduceMul, Bool.true_eq_false, Bool.false_eq_true, Nat.add_sub_cancel, Nat.not_lt_zero, Nat.zero_le, k_sub, k_sb1, k_r, k_n, k_ret, k_t1, k_t0, k_nr, k_nn, k_z0, k_z1, k_zb, x_okI, lit_nI, k_in, k_cl, k_lt, k_le, k_eq, k_neg, nI_add, nI_mul, k_clt, k_cgt, k_cle, k_cge, k_ceq, bI_0, k_sh8, ne_eq, Nat.add_eq_zero_iff, Nat.one_ne_zero, Nat.succ_ne_zero, and_false, false_and, not_false_eq_true, not_true_eq_false, ite_true, ite_false, if_true, if_false, ne1, e3]
        | inr w =>
          obtain ⟨w1, w2, w3⟩ := c2 w hq
          have w3 : xm (d + 7) 176 [.ref M, .int (nI f), .int (nI t), .int (nI (60 + i)), .int (nI e), .int (oI kq), .int number] (oh 11 h M S) = _ := w3
          have sg : stG S (uA S1 7 2 (nI (A.length + 1))) := (c1.st (by omega)).trans ⟨fr.rfl.uA (by decide), fun q _ => rfl, fun q _ => rfl, fun q _ => ⟨rfl, rfl⟩, rfl, rfl⟩
          have hK1 := hK.fr sg.1 rfl rfl rfl rfl
          have f41 : fr (fun k => stQ k) S (uA S1 7 2 (nI (A.length + 1))) := sg.1
          have eL := m_countLost (d + 4) h M (uA S1 7 2 (nI (A.length + 1))) (x := x) ht he hb0 (by omega) (show sI S1 62 = nI x from ((c1.1 62 (by decide)).1).trans h62) hK1 (sg.V v2 (by omega)) (hrk.fr sg.1 (fun q h1 h2 => by
            unfold stQ
            simp only [Bool.or_eq_false_iff, decide_eq_false_iff_not]
            omega))
          have eL : xm (d + 7) 189 [.ref M, .int (nI f), .int (nI t), .int (nI (60 + i)), .int (nI e), .int (oI kq)] (oh 11 h M (uA S1 7 2 (nI (A.length + 1)))) = _ := eL
          rw [eK_fr sg.1 k15_stQ, eK_fr sg.1 k15_stQ, (sg.1 3 (by decide)).2.2.2.1] at eL
          have hls : lsF (zK S cN mN ty f t L) v.1 v.2 e R ≤ 8 := Nat.le_trans (lsN_le _ _ _ _ _ _ _ _) (hK.1.2 f v.1 hf hc6).2
          refine go (uI (uA S1 7 2 (nI (A.length + 1))) 62 (nI (x + lsF (zK S cN mN ty f t L) v.1 v.2 e R))) (lsF (zK S cN mN ty f t L) v.1 v.2 e R) 0 [(w.1, v.2.1, e, w)] (stC (w.1, v.2.1, e, w) (lsF (zK S cN mN ty f t L) v.1 v.2 e R)) (1, .int (nI v.1)) (1, .int (oI kq)) (1, .int (oI (some e))) (sg.trans ⟨fr.rfl.uI (by decide), fun q _ => rfl, fun q _ => rfl, fun q _ => ⟨rfl, rfl⟩, rfl, rfl⟩) ?_ hls (Nat.le_refl 1) ?_ rfl ?_ ?_ (fun q => rfl) (fun r => ?_)
          · rw [st]
            show xrun (d + 7) 173 169 [(1, .ref M), (1, .int (nI f)), (1, .int (nI t)), (1, .int number), (1, .int l4), (1, .int (nI (60 + i))), (1, .int (nI v.1)), (1, .int (oI kq)), (1, .int (nI e))] [] (oh 11 h M S) = xrun (d + 7) 173 73 [(1, .ref M), (1, .int (nI f)), (1, .int (nI t)), (1, .int number), (1, .int l4), (1, .int (nI (60 + (i + 1)))), (1, .int (nI v.1)), (1, .int (oI kq)), (1, .int (nI e))] [] (oh 11 h M (uI (uA S1 7 2 (nI (A.length + 1))) 62 (nI (x + lsF (zK S cN mN ty f t L) v.1 v.2 e R))))
            have eL2 : xm (d + 7) 189 [.ref M, .int (nI f), .int (nI t), .int (nI (60 + i)), .int (nI e), .int (oI kq)] (oh 11 h M (uA S1 7 2 (nI (A.length + 1)))) = some (none, oh 11 h M (uI (uA S1 7 2 (nI (A.length + 1))) 62 (nI (x + lsF (zK S cN mN ty f t L) v.1 v.2 e R)))) := eL
            simp (disch := omega) only [q_173_169, q_173_171, q_173_172, q_173_175, q_173_176, q_173_179, q_173_182, q_173_183, q_173_185, q_173_187, q_173_188, q_173_189, q_173_192, q_173_193, q_173_194, q_173_195, q_173_198, q_173_199, q_173_200, q_173_203, q_173_206, q_173_207, q_173_208, q_173_209, q_173_211, q_173_213, q_173_215, q_173_216, q_173_219, q_173_222, q_173_223, q_173_224, q_173_225, q_173_226, q_173_227, q_173_229, q_173_231, q_173_233, q_173_236, q_173_239, q_173_242, q_173_243, q_173_244, q_173_247, q_173_250, q_173_251, q_173_252, q_173_253, q_173_256, q_173_257, q_173_258, q_173_259, q_173_261, q_173_265, q_173_267, q_173_268, q_173_271, q_173_272, q_173_273, q_173_274, q_173_277, q_173_278, q_173_280, q_173_283, q_173_286, q_173_289, q_173_290, og_11_13, or_11_13, ow_11_13, og_11_29, op_11_29, og_11_28, or_11_28, ow_11_28, og_11_14, or_11_14, ow_11_14, og_11_7, or_11_7, ow_11_7, og_11_9, or_11_9, ow_11_9, og_11_36, or_11_36, ow_11_36, og_11_63, op_11_63, og_11_1, or_11_1, ow_11_1, og_11_39, or_11_39, ow_11_39, og_11_17, o_is, o_ob, ofs_len11, ↓reduceIte, k_cr, k_ci, k_oR, k_oN, k_aR, k_aN, and_true, true_and, and_self, eq_self, Nat.reduceLT, Nat.reduceLeDiff, Nat.reduceEqDiff, Nat.reduceAdd, Nat.reduceMul, Bool.true_eq_false, Bool.false_eq_true, Nat.add_sub_cancel, Nat.not_lt_zero, Nat.zero_le, k_sub, k_sb1, k_r, k_n, k_ret, k_t1, k_t0, k_nr, k_nn, k_z0, k_z1, k_zb, x_okI, lit_nI, k_in, k_cl, k_lt, k_le, k_eq, k_neg, nI_add, nI_mul, k_clt, k_cgt, k_cle, k_cge, k_ceq, bI_0, k_sh8, ne_eq, Nat.add_eq_zero_iff, Nat.one_ne_zero, Nat.succ_ne_zero, and_false, false_and, not_false_eq_true, not_true_eq_false, ite_true, ite_false, if_true, if_false, ne1, w3, eL2, Nat.add_assoc]
          · rw [List.length_append]
            rfl
          · exact ((c1.1 63 (by decide)).1).trans h63
          · refine ((hnv.co c1 rfl).snoc (x := (w.1, v.2.1, e, w)) ⟨w1, rfl, 60 + i, w2, by omega, by omega, ?_⟩).fr (P := fun k => decide (k = 7) || decide (k = 62)) ((fr.rfl.uA (by decide)).uI (by decide)) ⟨rfl, rfl, rfl, rfl, rfl, rfl⟩
            rw [c1.2.2.2.1 _ (by omega)]
            exact k8
          · show Sum.inr ((w.1, v.2.1, e, w) :: r.1, lsF (zK S cN mN ty f t L) v.1 v.2 e R + r.2.1, r.2.2) = _
            rw [Nat.zero_add]
            rfl
    -- what is told of its CLASS
    have fcl : ∀ w e, fC S cN t w = some e → e < 6 := fun w e he => by
      have := (fnd_lt (f := fun c => sL S 1 (6 * t + c)) he).1
      have := (hK.1.1 t ht).2
      omega
    rcases fnd_L (f := sL S 37) (w := sL S 1 (6 * f + v.1)) L 0 (fun q m hq => by
      rw [Nat.zero_add]
      exact (hT.2.2.1 q m hq).1.2.1) with ⟨z1, z2⟩ | ⟨k, m, z1, z2, z3⟩
    · have z1 : fnd (sL S 37) (sL S 1 (6 * f + v.1)) L.length = none := z1
      rw [z1] at eM
      have eM : xm (d + 7) 174 [.ref M, .int (nI f), .int (nI v.1)] (oh 11 h M S) = some (some (.int (-nI 1)), oh 11 h M S) := eM
      have eC1 := eC (sL S 1 (6 * f + v.1))
      refine mid none (fC S cN t (sL S 1 (6 * f + v.1))) 0 (fun _ => 0) [] (fun k hk => by cases hk) rfl (by decide) ?_ (fun e he => fcl _ e he) ?_
      · show _ = xrun (d + 7) 173 169 [(1, .ref M), (1, .int (nI f)), (1, .int (nI t)), (1, .int number), (1, .int l4), (1, .int (nI (60 + i))), (1, .int (nI v.1)), (1, .int (-nI 1)), (1, .int (oI (fC S cN t (sL S 1 (6 * f + v.1)))))] [] (oh 11 h M S)
        rw [q_173_73]
        simp (disch := omega) only [q_173_0, q_173_2, q_173_3, q_173_4, q_173_5, q_173_6, q_173_8, q_173_9, q_173_10, q_173_13, q_173_15, q_173_16, q_173_19, q_173_20, q_173_24, q_173_25, q_173_28, q_173_31, q_173_32, q_173_35, q_173_37, q_173_38, q_173_41, q_173_44, q_173_46, q_173_47, q_173_49, q_173_50, q_173_51, q_173_52, q_173_55, q_173_58, q_173_59, q_173_62, q_173_63, q_173_66, q_173_67, q_173_68, q_173_69, q_173_71, q_173_75, q_173_77, q_173_78, q_173_81, q_173_82, q_173_83, q_173_84, q_173_87, q_173_88, q_173_91, q_173_93, q_173_94, q_173_96, q_173_97, q_173_98, q_173_100, q_173_103, q_173_105, q_173_107, q_173_108, q_173_111, q_173_112, q_173_115, q_173_117, q_173_118, q_173_121, q_173_122, q_173_123, q_173_126, q_173_127, q_173_128, q_173_131, q_173_134, q_173_135, q_173_136, q_173_138, q_173_139, q_173_142, q_173_143, q_173_146, q_173_148, q_173_149, q_173_150, q_173_152, q_173_153, q_173_154, q_173_157, q_173_158, q_173_161, q_173_163, q_173_164, q_173_167, og_11_13, or_11_13, ow_11_13, og_11_29, op_11_29, og_11_28, or_11_28, ow_11_28, og_11_14, or_11_14, ow_11_14, og_11_7, or_11_7, ow_11_7, og_11_9, or_11_9, ow_11_9, og_11_36, or_11_36, ow_11_36, og_11_63, op_11_63, og_11_1, or_11_1, ow_11_1, og_11_39, or_11_39, ow_11_39, og_11_17, o_is, o_ob, ofs_len11, ↓reduceIte, k_cr, k_ci, k_oR, k_oN, k_aR, k_aN, and_true, true_and, and_self, eq_self, Nat.reduceLT, Nat.reduceLeDiff, Nat.reduceEqDiff, Nat.reduceAdd, Nat.reduceMul, Bool.true_eq_false, Bool.false_eq_true, Nat.add_sub_cancel, Nat.not_lt_zero, Nat.zero_le, k_sub, k_sb1, k_r, k_n, k_ret, k_t1, k_t0, k_nr, k_nn, k_z0, k_z1, k_zb, x_okI, lit_nI, k_in, k_cl, k_lt, k_le, k_eq, k_neg, nI_add, nI_mul, k_clt, k_cgt, k_cle, k_cge, k_ceq, bI_0, k_sh8, ne_eq, Nat.add_eq_zero_iff, Nat.one_ne_zero, Nat.succ_ne_zero, and_false, false_and, not_false_eq_true, not_true_eq_false, ite_true, ite_false, if_true, if_false, h71, hle, k9, eM, eC1]
      · unfold dOf
        rw [z2]
    · rw [Nat.zero_add] at z1
      have z1 : fnd (sL S 37) (sL S 1 (6 * f + v.1)) L.length = some k := z1
      have hk := get_lt z2
      rw [z1] at eM
      have eM : xm (d + 7) 174 [.ref M, .int (nI f), .int (nI v.1)] (oh 11 h M S) = some (some (.int (nI k)), oh 11 h M S) := eM
      obtain ⟨y1, y2, y3, y4, y5⟩ := (hT.2.2.1 k m z2).1
      have nk1 : ¬ nI k = -nI 1 := by
        rw [k_neg (by omega)]
        exact fun q => q
      cases hm1 : m.1 with
      | true =>
        rw [hm1, bI_t] at y1
        refine dropd (1, .int (nI v.1)) (1, .int (nI k)) l8 ?_ ?_
        · rw [q_173_73]
          simp (disch := omega) only [q_173_0, q_173_2, q_173_3, q_173_4, q_173_5, q_173_6, q_173_8, q_173_9, q_173_10, q_173_13, q_173_15, q_173_16, q_173_19, q_173_20, q_173_24, q_173_25, q_173_28, q_173_31, q_173_32, q_173_35, q_173_37, q_173_38, q_173_41, q_173_44, q_173_46, q_173_47, q_173_49, q_173_50, q_173_51, q_173_52, q_173_55, q_173_58, q_173_59, q_173_62, q_173_63, q_173_66, q_173_67, q_173_68, q_173_69, q_173_71, q_173_75, q_173_77, q_173_78, q_173_81, q_173_82, q_173_83, q_173_84, q_173_87, q_173_88, q_173_91, q_173_93, q_173_94, q_173_96, q_173_97, q_173_98, q_173_100, q_173_103, q_173_105, q_173_107, q_173_108, q_173_111, q_173_112, q_173_115, q_173_117, q_173_118, q_173_121, q_173_122, q_173_123, q_173_126, q_173_127, q_173_128, q_173_131, q_173_134, q_173_135, q_173_136, q_173_138, q_173_139, q_173_142, q_173_143, q_173_146, q_173_148, q_173_149, q_173_150, q_173_152, q_173_153, q_173_154, q_173_157, q_173_158, q_173_161, q_173_163, q_173_164, q_173_167, q_173_169, q_173_171, q_173_172, q_173_175, q_173_176, q_173_179, q_173_182, q_173_183, q_173_185, q_173_187, q_173_188, q_173_189, q_173_192, q_173_193, q_173_194, q_173_195, q_173_198, q_173_199, q_173_200, q_173_203, q_173_206, q_173_207, q_173_208, q_173_209, q_173_211, q_173_213, q_173_215, q_173_216, q_173_219, q_173_222, q_173_223, q_173_224, q_173_225, q_173_226, q_173_227, q_173_229, q_173_231, q_173_233, q_173_236, q_173_239, og_11_13, or_11_13, ow_11_13, og_11_29, op_11_29, og_11_28, or_11_28, ow_11_28, og_11_14, or_11_14, ow_11_14, og_11_7, or_11_7, ow_11_7, og_11_9, or_11_9, ow_11_9, og_11_36, or_11_36, ow_11_36, og_11_63, op_11_63, og_11_1, or_11_1, ow_11_1, og_11_39, or_11_39, ow_11_39, og_11_17, o_is, o_ob, ofs_len11, ↓reduceIte, k_cr, k_ci, k_oR, k_oN, k_aR, k_aN, and_true, true_and, and_self, eq_self, Nat.reduceLT, Nat.reduceLeDiff, Nat.reduceEqDiff, Nat.reduceAdd, Nat.reduceMul, Bool.true_eq_false, Bool.false_eq_true, Nat.add_sub_cancel, Nat.not_lt_zero, Nat.zero_le, k_sub, k_sb1, k_r, k_n, k_ret, k_t1, k_t0, k_nr, k_nn, k_z0, k_z1, k_zb, x_okI, lit_nI, k_in, k_cl, k_lt, k_le, k_eq, k_neg, nI_add, nI_mul, k_clt, k_cgt, k_cle, k_cge, k_ceq, bI_0, k_sh8, ne_eq, Nat.add_eq_zero_iff, Nat.one_ne_zero, Nat.succ_ne_zero, and_false, false_and, not_false_eq_true, not_true_eq_false, ite_true, ite_false, if_true, if_false, h71, hle, k9, eM, nk1, y1, h63, Nat.add_assoc]
        · have : zD (zK S cN mN ty f t L) v.1 = some none := by
            rw [eD]
            unfold dOf
            rw [z3]
            show (if m.1 = true then _ else _) = _
            rw [if_pos hm1]
          unfold oneV
          rw [this]
      | false =>
        rw [hm1, bI_f] at y1
        have eC1 := eC m.2.2.2.1
        obtain ⟨b0, af, o1, o2⟩ := hT.mv hP z2
        refine mid (some k) (fC S cN t m.2.2.2.1) b0 af m.2.2.2.2.2 (fun k2 hk2 => by cases hk2; omega) o1 o2 ?_ (fun e he => fcl _ e he) ?_
        · show _ = xrun (d + 7) 173 169 [(1, .ref M), (1, .int (nI f)), (1, .int (nI t)), (1, .int number), (1, .int l4), (1, .int (nI (60 + i))), (1, .int (nI v.1)), (1, .int (nI k)), (1, .int (oI (fC S cN t m.2.2.2.1)))] [] (oh 11 h M S)
          rw [q_173_73]
          simp (disch := omega) only [q_173_0, q_173_2, q_173_3, q_173_4, q_173_5, q_173_6, q_173_8, q_173_9, q_173_10, q_173_13, q_173_15, q_173_16, q_173_19, q_173_20, q_173_24, q_173_25, q_173_28, q_173_31, q_173_32, q_173_35, q_173_37, q_173_38, q_173_41, q_173_44, q_173_46, q_173_47, q_173_49, q_173_50, q_173_51, q_173_52, q_173_55, q_173_58, q_173_59, q_173_62, q_173_63, q_173_66, q_173_67, q_173_68, q_173_69, q_173_71, q_173_75, q_173_77, q_173_78, q_173_81, q_173_82, q_173_83, q_173_84, q_173_87, q_173_88, q_173_91, q_173_93, q_173_94, q_173_96, q_173_97, q_173_98, q_173_100, q_173_103, q_173_105, q_173_107, q_173_108, q_173_111, q_173_112, q_173_115, q_173_117, q_173_118, q_173_121, q_173_122, q_173_123, q_173_126, q_173_127, q_173_128, q_173_131, q_173_134, q_173_135, q_173_136, q_173_138, q_173_139, q_173_142, q_173_143, q_173_146, q_173_148, q_173_149, q_173_150, q_173_152, q_173_153, q_173_154, q_173_157, q_173_158, q_173_161, q_173_163, q_173_164, q_173_167, og_11_13, or_11_13, ow_11_13, og_11_29, op_11_29, og_11_28, or_11_28, ow_11_28, og_11_14, or_11_14, ow_11_14, og_11_7, or_11_7, ow_11_7, og_11_9, or_11_9, ow_11_9, og_11_36, or_11_36, ow_11_36, og_11_63, op_11_63, og_11_1, or_11_1, ow_11_1, og_11_39, or_11_39, ow_11_39, og_11_17, o_is, o_ob, ofs_len11, ↓reduceIte, k_cr, k_ci, k_oR, k_oN, k_aR, k_aN, and_true, true_and, and_self, eq_self, Nat.reduceLT, Nat.reduceLeDiff, Nat.reduceEqDiff, Nat.reduceAdd, Nat.reduceMul, Bool.true_eq_false, Bool.false_eq_true, Nat.add_sub_cancel, Nat.not_lt_zero, Nat.zero_le, k_sub, k_sb1, k_r, k_n, k_ret, k_t1, k_t0, k_nr, k_nn, k_z0, k_z1, k_zb, x_okI, lit_nI, k_in, k_cl, k_lt, k_le, k_eq, k_neg, nI_add, nI_mul, k_clt, k_cgt, k_cle, k_cge, k_ceq, bI_0, k_sh8, ne_eq, Nat.add_eq_zero_iff, Nat.one_ne_zero, Nat.succ_ne_zero, and_false, false_and, not_false_eq_true, not_true_eq_false, ite_true, ite_false, if_true, if_false, h71, hle, k9, eM, nk1, y1, y4, eC1]
        · unfold dOf
          rw [z3]
          show (if m.1 = true then _ else _) = _
          rw [if_neg (by rw [hm1]; decide)]
