/-! What a new MEMBER gets; the reference carries it. -/
def cpQ (vw : vW) (ty : Nat → Nat) (t o : Nat) : Nat → Nat → Bool
  | 0, _ => true
  | k + 1, i => ftC (vw.2.2 o i) (ty o) t && cpQ vw ty t o k (i + 1)
def fiW (r : Nat ⊕ ((Nat → Int64) × Nat)) (t : Nat) : Nat ⊕ Option (Nat × (Nat → Int64)) := match r with
  | .inl q => .inl q
  | .inr z => if ftC (z.1 0) 5 t = true then .inr (some (1, fun _ => tnC (z.1 0) 5 t)) else .inl 1
def fiC (vw : vW) (ty : Nat → Nat) (t : Nat) : Option Nat → Nat ⊕ Option (Nat × (Nat → Int64))
  | none => .inr none
  | some o => if cpQ vw ty t o (vw.2.1 o) 0 = true then .inr (some (vw.2.1 o, fun k => tnC (vw.2.2 o k) (ty o) t)) else .inl 1
def fiM (e : kE) (vw : vW) (ty : Nat → Nat) (t : Nat) (pl : Option (List aT) × Option Nat) : Nat ⊕ Option (Nat × (Nat → Int64)) := match pl.1 with
  | some B => fiW (evF e vw B (fun _ => 0) 0) t
  | none => fiC vw ty t pl.2
def fiQ : Nat ⊕ Option (Nat × (Nat → Int64)) → Nat
  | .inl q => q
  | .inr _ => 0
def isR (kd : Nat) (w : Int64) (r : rT) : Bool := decide (r.1 = kd) && decide (r.2.1 = w)
/-- the plan for a new MEMBER of NAME w -/
def plR (eo : kE) (rn : Bool) (R : List rT) (w : Int64) : Option (List aT) × Option Nat := match R.find? (isR 1 w) with
  | some r => if r.2.2.2.2.1 = true then (none, eo.1 (hdV r.2.2.2.2.2)) else (some r.2.2.2.2.2, none)
  | none => (none, smO (eo.1 w) eo.2.1 rn R w)
theorem fnR_find (kd : Nat) (w : Int64) : ∀ (R : List rT) (i : Nat), (fnR kd w R i = none → R.find? (isR kd w) = none) ∧ ∀ j, fnR kd w R i = some j → ∃ r, R[j - i]? = some r ∧ R.find? (isR kd w) = some r ∧ i ≤ j
  | [], i => ⟨fun _ => rfl, fun j hj => by cases hj⟩
  | r :: R, i => by
    have e : fnR kd w (r :: R) i = if r.1 = kd ∧ r.2.1 = w then some i else fnR kd w R (i + 1) := rfl
    rw [e, List.find?_cons]
    by_cases c : r.1 = kd ∧ r.2.1 = w
    · have hi : isR kd w r = true := by
        unfold isR
        rw [decide_eq_true c.1, decide_eq_true c.2]
        rfl
      rw [if_pos c, hi]
      refine ⟨fun z => (by cases z), fun j hj => ?_⟩
      cases hj
      exact ⟨r, by rw [Nat.sub_self]; rfl, rfl, Nat.le_refl _⟩
    · have hi : isR kd w r = false := by
        unfold isR
        by_cases c1 : r.1 = kd
        · rw [decide_eq_false (fun z => c ⟨c1, z⟩), Bool.and_false]
        · rw [decide_eq_false c1, Bool.false_and]
      rw [if_neg c, hi]
      obtain ⟨h1, h2⟩ := fnR_find kd w R (i + 1)
      refine ⟨h1, fun j hj => ?_⟩
      obtain ⟨r2, a1, a2, a3⟩ := h2 j hj
      refine ⟨r2, ?_, a2, by omega⟩
      rw [show j - i = (j - (i + 1)) + 1 by omega]
      exact a1
def cmP (k : Nat) : Bool := decide (k = 10) || decide (k = 11) || decide (k = 27) || decide (k = 59) || decide (k = 60) || decide (k = 61)
/-- what it leaves alone -/
def cmF (S S' : gS) (to m : Nat) : Prop := fr cmP S S' ∧ (∀ q, q ≠ 8 * to + m → sA S' 10 q = sA S 10 q) ∧ ∀ q, (q < 64 * to + 8 * m ∨ 64 * to + 8 * m + 8 ≤ q) → sL S' 11 q = sL S 11 q
def cmR (S S' : gS) (to m : Nat) : Option (Nat × (Nat → Int64)) → Prop
  | none => sA S' 10 (8 * to + m) = sA S 10 (8 * to + m) ∧ ∀ k, k < 8 → sL S' 11 (64 * to + 8 * m + k) = sL S 11 (64 * to + 8 * m + k)
  | some g => sA S' 10 (8 * to + m) = nI g.1 ∧ ∀ k, k < 8 → sL S' 11 (64 * to + 8 * m + k) = if k < g.1 then g.2 k else sL S 11 (64 * to + 8 * m + k)
/-- RULES that can be worked out -/
def rlOK (eo : kE) (R : List rT) : Prop := ∀ r, r ∈ R → (r.2.2.2.2.1 = true → ∃ a, r.2.2.2.2.2 = [a]) ∧ (¬ r.1 = 2 → ¬ r.2.2.2.2.1 = true → (∀ a, a ∈ r.2.2.2.2.2 → actW eo a) ∧ ∀ mx, 43 ≤ mx → hOK mx r.2.2.2.2.2 0 = some 1)
def p2711 (k : Nat) : Bool := decide (k = 11) || decide (k = 27)
theorem sA_4 {P : Nat → Bool} {S T : gS} (h : fr P S T) {k : Nat} (hk : P k = false) : sA T k = sA S k := (h k hk).2.2.1
theorem cm_loop (d : Nat) (h : xH) (M : Nat) {f t c v to e m nO o tt : Nat} {vw : vW} {ty : Nat → Nat} {kv : Int32} {w : Int64} {l11 : Int32} (ht : t < 8) (he : e < 6) (hm : m < 8) (hto : 120 ≤ to ∧ to < 180) (hvt : v < 120) (ho : o < nO) (htt7 : tt ≤ 7) (hty7 : ty o ≤ 7) (hwf : ∀ k, k < vw.2.1 o → wfT (ty o) (vw.2.2 o k)) : ∀ (k i : Nat) (S : gS), i + k = vw.2.1 o → wkV S f c nO v vw → sA S 4 (8 * (6 * f + c) + o) = nI (ty o) → sA S 4 (8 * (6 * t + e) + m) = nI tt → ∃ S', xrun (d + 3) 181 202 [(1, .ref M), (1, .int (nI f)), (1, .int (nI t)), (1, .int (nI v)), (1, .int (nI to)), (1, .int (nI e)), (1, .int (nI m)), (1, .int kv), (1, .int (nI c)), (2, .long w), (0, .null), (1, .int l11), (1, .int (nI o)), (1, .int (nI i))] [] (oh 11 h M S) = some (some (.int (if cpQ vw ty tt o k i = true then nI 0 else nI 1)), oh 11 h M S') ∧ fr p2711 S S' ∧ (∀ q, (q < 64 * to + 8 * m + i ∨ 64 * to + 8 * m + (i + k) ≤ q) → sL S' 11 q = sL S 11 q) ∧ (cpQ vw ty tt o k i = true → ∀ j, i ≤ j → j < i + k → sL S' 11 (64 * to + 8 * m + j) = tnC (vw.2.2 o j) (ty o) tt)
  | 0, i, S, hi, hV, h4o, h4n => by
    obtain ⟨v1, v2, v3, v4, v5, v6, v7, v8, v9⟩ := hV
    have e10 := (v8 o (by omega)).1
    have e8 := (v8 o (by omega)).2
    have hle : vw.2.1 o ≤ i := by omega
    refine ⟨S, ?_, fr.rfl, fun q _ => rfl, fun _ j h1 h2 => by omega⟩
    show _ = some (some (Value.int (nI 0)), oh 11 h M S)
    rw [q_181_202]
    simp (disch := omega) only [q_181_0, q_181_1, q_181_4, q_181_5, q_181_6, q_181_8, q_181_9, q_181_12, q_181_14, q_181_16, q_181_17, q_181_18, q_181_20, q_181_21, q_181_22, q_181_24, q_181_25, q_181_26, q_181_28, q_181_29, q_181_31, q_181_32, q_181_34, q_181_37, q_181_39, q_181_41, q_181_42, q_181_45, q_181_46, q_181_49, q_181_51, q_181_52, q_181_55, q_181_56, q_181_58, q_181_59, q_181_60, q_181_63, q_181_65, q_181_66, q_181_69, q_181_72, q_181_73, q_181_76, q_181_77, q_181_78, q_181_81, q_181_83, q_181_85, q_181_86, q_181_88, q_181_90, q_181_91, q_181_92, q_181_93, q_181_95, q_181_96, q_181_97, q_181_98, q_181_100, q_181_102, q_181_105, q_181_108, q_181_109, q_181_110, q_181_113, q_181_116, q_181_117, q_181_120, q_181_121, q_181_122, q_181_124, q_181_125, q_181_128, q_181_129, q_181_130, q_181_131, q_181_133, q_181_135, q_181_137, q_181_139, q_181_142, q_181_145, q_181_146, q_181_147, q_181_149, q_181_150, q_181_153, q_181_154, q_181_157, q_181_159, q_181_160, q_181_161, q_181_164, q_181_166, q_181_168, q_181_169, q_181_172, q_181_173, q_181_174, q_181_175, q_181_178, q_181_180, q_181_182, q_181_183, q_181_185, q_181_186, q_181_187, q_181_190, q_181_192, q_181_193, q_181_194, q_181_196, q_181_197, q_181_198, q_181_199, q_181_200, q_181_204, q_181_205, q_181_208, q_181_210, q_181_211, q_181_212, q_181_214, q_181_215, q_181_216, q_181_219, q_181_220, q_181_223, q_181_225, q_181_227, q_181_228, q_181_230, q_181_232, q_181_233, q_181_234, q_181_236, q_181_237, q_181_238, q_181_239, q_181_242, q_181_244, q_181_245, q_181_246, q_181_248, q_181_250, q_181_251, q_181_252, q_181_254, q_181_255, q_181_256, q_181_257, q_181_258, q_181_260, q_181_262, q_181_265, q_181_266, q_181_267, q_181_269, q_181_271, q_181_274, q_181_277, q_181_278, q_181_279, q_181_282, q_181_285, q_181_286, q_181_287, q_181_290, q_181_293, q_181_294, og_11_9, or_11_9, ow_11_9, og_11_3, or_11_3, ow_11_3, og_11_47, or_11_47, ow_11_47, og_11_61, og_11_11, or_11_11, ow_11_11, og_11_27, og_11_51, or_11_51, ow_11_51, og_11_48, or_11_48, ow_11_48, og_11_10, or_11_10, ow_11_10, o_is, o_ob, ofs_len11, ↓reduceIte, k_cr, k_ci, k_oR, k_oN, k_aR, k_aN, and_true, true_and, and_self, eq_self, Nat.reduceLT, Nat.reduceLeDiff, Nat.reduceEqDiff, Nat.reduceAdd, Nat.reduceMul, Bool.true_eq_false, Bool.false_eq_true, Nat.add_sub_cancel, Nat.not_lt_zero, Nat.zero_le, k_sub, k_sb1, k_r, k_n, k_ret, k_t1, k_t0, k_nr, k_nn, k_z0, k_z1, k_zb, x_okI, lit_nI, k_in, k_cl, k_lt, k_le, k_eq, k_neg, nI_add, nI_mul, k_clt, k_cgt, k_cle, k_cge, k_ceq, bI_0, k_sh8, ne_eq, Nat.add_eq_zero_iff, Nat.one_ne_zero, Nat.succ_ne_zero, and_false, false_and, not_false_eq_true, not_true_eq_false, ite_true, ite_false, if_true, if_false, e10, hle]
  | k + 1, i, S, hi, hV, h4o, h4n => by
    have hV0 := hV
    obtain ⟨v1, v2, v3, v4, v5, v6, v7, v8, v9⟩ := hV
    have e10 := (v8 o (by omega)).1
    have e8 := (v8 o (by omega)).2
    have hle : ¬ vw.2.1 o ≤ i := by omega
    have e11 := v9 o i (by omega) (by omega)
    have t1 : xm (d + 3) 142 [.ref M, .int (nI f), .int (nI c), .int (nI o)] (oh 11 h M S) = _ := m_typeOf (d + 2) h M S f c o v1 v2 (by omega)
    have t2 : xm (d + 3) 142 [.ref M, .int (nI t), .int (nI e), .int (nI m)] (oh 11 h M S) = _ := m_typeOf (d + 2) h M S t e m ht he hm
    rw [h4o] at t1
    rw [h4n] at t2
    obtain ⟨y, eB, hy⟩ := m_become d h M S (vw.2.2 o i) hty7 htt7 (hwf i (by omega))
    have f1 : fr p2711 S (uL (uI S 27 (bI (ftC (vw.2.2 o i) (ty o) tt))) 11 (64 * to + 8 * m + i) y) := (fr.rfl.uI (by decide)).uL (by decide)
    have h11 : ∀ q, sL (uL (uI S 27 (bI (ftC (vw.2.2 o i) (ty o) tt))) 11 (64 * to + 8 * m + i) y) 11 q = if q = 64 * to + 8 * m + i then y else sL S 11 q := fun q => by
      rw [sL_uL]
      by_cases c : q = 64 * to + 8 * m + i
      · rw [if_pos ⟨rfl, c⟩, if_pos c]
      · rw [if_neg (fun z => c z.2), if_neg c]
        rfl
    have ec : cpQ vw ty tt o (k + 1) i = (ftC (vw.2.2 o i) (ty o) tt && cpQ vw ty tt o k (i + 1)) := rfl
    cases hb : ftC (vw.2.2 o i) (ty o) tt with
    | false =>
      rw [hb, bI_f] at eB f1 h11
      rw [ec, hb, Bool.false_and]
      refine ⟨uL (uI S 27 (nI 0)) 11 (64 * to + 8 * m + i) y, ?_, f1, fun q hq => ?_, fun z => by cases z⟩
      · rw [if_neg (by decide), q_181_202]
        simp (disch := omega) only [q_181_0, q_181_1, q_181_4, q_181_5, q_181_6, q_181_8, q_181_9, q_181_12, q_181_14, q_181_16, q_181_17, q_181_18, q_181_20, q_181_21, q_181_22, q_181_24, q_181_25, q_181_26, q_181_28, q_181_29, q_181_31, q_181_32, q_181_34, q_181_37, q_181_39, q_181_41, q_181_42, q_181_45, q_181_46, q_181_49, q_181_51, q_181_52, q_181_55, q_181_56, q_181_58, q_181_59, q_181_60, q_181_63, q_181_65, q_181_66, q_181_69, q_181_72, q_181_73, q_181_76, q_181_77, q_181_78, q_181_81, q_181_83, q_181_85, q_181_86, q_181_88, q_181_90, q_181_91, q_181_92, q_181_93, q_181_95, q_181_96, q_181_97, q_181_98, q_181_100, q_181_102, q_181_105, q_181_108, q_181_109, q_181_110, q_181_113, q_181_116, q_181_117, q_181_120, q_181_121, q_181_122, q_181_124, q_181_125, q_181_128, q_181_129, q_181_130, q_181_131, q_181_133, q_181_135, q_181_137, q_181_139, q_181_142, q_181_145, q_181_146, q_181_147, q_181_149, q_181_150, q_181_153, q_181_154, q_181_157, q_181_159, q_181_160, q_181_161, q_181_164, q_181_166, q_181_168, q_181_169, q_181_172, q_181_173, q_181_174, q_181_175, q_181_178, q_181_180, q_181_182, q_181_183, q_181_185, q_181_186, q_181_187, q_181_190, q_181_192, q_181_193, q_181_194, q_181_196, q_181_197, q_181_198, q_181_199, q_181_200, q_181_204, q_181_205, q_181_208, q_181_210, q_181_211, q_181_212, q_181_214, q_181_215, q_181_216, q_181_219, q_181_220, q_181_223, q_181_225, q_181_227, q_181_228, q_181_230, q_181_232, q_181_233, q_181_234, q_181_236, q_181_237, q_181_238, q_181_239, q_181_242, q_181_244, q_181_245, q_181_246, q_181_248, q_181_250, q_181_251, q_181_252, q_181_254, q_181_255, q_181_256, q_181_257, q_181_258, q_181_260, q_181_262, q_181_265, q_181_266, q_181_267, q_181_269, q_181_271, q_181_274, q_181_277, q_181_278, q_181_279, q_181_282, q_181_285, q_181_286, q_181_287, q_181_290, q_181_293, q_181_294, og_11_9, or_11_9, ow_11_9, og_11_3, or_11_3, ow_11_3, og_11_47, or_11_47, ow_11_47, og_11_61, og_11_11, or_11_11, ow_11_11, og_11_27, og_11_51, or_11_51, ow_11_51, og_11_48, or_11_48, ow_11_48, og_11_10, or_11_10, ow_11_10, o_is, o_ob, ofs_len11, ↓reduceIte, k_cr, k_ci, k_oR, k_oN, k_aR, k_aN, and_true, true_and, and_self, eq_self, Nat.reduceLT, Nat.reduceLeDiff, Nat.reduceEqDiff, Nat.reduceAdd, Nat.reduceMul, Bool.true_eq_false, Bool.false_eq_true, Nat.add_sub_cancel, Nat.not_lt_zero, Nat.zero_le, k_sub, k_sb1, k_r, k_n, k_ret, k_t1, k_t0, k_nr, k_nn, k_z0, k_z1, k_zb, x_okI, lit_nI, k_in, k_cl, k_lt, k_le, k_eq, k_neg, nI_add, nI_mul, k_clt, k_cgt, k_cle, k_cge, k_ceq, bI_0, k_sh8, ne_eq, Nat.add_eq_zero_iff, Nat.one_ne_zero, Nat.succ_ne_zero, and_false, false_and, not_false_eq_true, not_true_eq_false, ite_true, ite_false, if_true, if_false, sI_uI, sJ_uI, sA_uI, sL_uI, sR_uI, sQ_uI, sI_uJ, sJ_uJ, sA_uJ, sL_uJ, sR_uJ, sQ_uJ, sI_uA, sJ_uA, sA_uA, sL_uA, sR_uA, sQ_uA, sI_uL, sJ_uL, sA_uL, sL_uL, sR_uL, sQ_uL, sI_uR, sJ_uR, sA_uR, sL_uR, sR_uR, sQ_uR, sI_uQ, sJ_uQ, sA_uQ, sL_uQ, sR_uQ, sQ_uQ, e10, hle, e11, t1, t2, eB]
      · rw [h11 q, if_neg (by omega)]
    | true =>
      rw [hb, bI_t] at eB f1 h11
      rw [ec, hb, Bool.true_and]
      have hV' : wkV (uL (uI S 27 (nI 1)) 11 (64 * to + 8 * m + i) y) f c nO v vw := by
        refine ⟨v1, v2, v3, v4, v5, v6, v7, v8, fun m2 k2 h1 h2 => ?_⟩
        rw [h11, if_neg (by omega)]
        exact v9 m2 k2 h1 h2
      obtain ⟨S', i1, i2, i3, i4⟩ := cm_loop d h M (kv := kv) (w := w) (l11 := l11) ht he hm hto hvt ho htt7 hty7 hwf k (i + 1) (uL (uI S 27 (nI 1)) 11 (64 * to + 8 * m + i) y) (by omega) hV' h4o h4n
      refine ⟨S', ?_, f1.trans i2, fun q hq => ?_, fun hc j h1 h2 => ?_⟩
      · rw [← i1, q_181_202]
        simp (disch := omega) only [q_181_0, q_181_1, q_181_4, q_181_5, q_181_6, q_181_8, q_181_9, q_181_12, q_181_14, q_181_16, q_181_17, q_181_18, q_181_20, q_181_21, q_181_22, q_181_24, q_181_25, q_181_26, q_181_28, q_181_29, q_181_31, q_181_32, q_181_34, q_181_37, q_181_39, q_181_41, q_181_42, q_181_45, q_181_46, q_181_49, q_181_51, q_181_52, q_181_55, q_181_56, q_181_58, q_181_59, q_181_60, q_181_63, q_181_65, q_181_66, q_181_69, q_181_72, q_181_73, q_181_76, q_181_77, q_181_78, q_181_81, q_181_83, q_181_85, q_181_86, q_181_88, q_181_90, q_181_91, q_181_92, q_181_93, q_181_95, q_181_96, q_181_97, q_181_98, q_181_100, q_181_102, q_181_105, q_181_108, q_181_109, q_181_110, q_181_113, q_181_116, q_181_117, q_181_120, q_181_121, q_181_122, q_181_124, q_181_125, q_181_128, q_181_129, q_181_130, q_181_131, q_181_133, q_181_135, q_181_137, q_181_139, q_181_142, q_181_145, q_181_146, q_181_147, q_181_149, q_181_150, q_181_153, q_181_154, q_181_157, q_181_159, q_181_160, q_181_161, q_181_164, q_181_166, q_181_168, q_181_169, q_181_172, q_181_173, q_181_174, q_181_175, q_181_178, q_181_180, q_181_182, q_181_183, q_181_185, q_181_186, q_181_187, q_181_190, q_181_192, q_181_193, q_181_194, q_181_196, q_181_197, q_181_198, q_181_199, q_181_200, q_181_204, q_181_205, q_181_208, q_181_210, q_181_211, q_181_212, q_181_214, q_181_215, q_181_216, q_181_219, q_181_220, q_181_223, q_181_225, q_181_227, q_181_228, q_181_230, q_181_232, q_181_233, q_181_234, q_181_236, q_181_237, q_181_238, q_181_239, q_181_242, q_181_244, q_181_245, q_181_246, q_181_248, q_181_250, q_181_251, q_181_252, q_181_254, q_181_255, q_181_256, q_181_257, q_181_258, q_181_260, q_181_262, q_181_265, q_181_266, q_181_267, q_181_269, q_181_271, q_181_274, q_181_277, q_181_278, q_181_279, q_181_282, q_181_285, q_181_286, q_181_287, q_181_290, q_181_293, q_181_294, og_11_9, or_11_9, ow_11_9, og_11_3, or_11_3, ow_11_3, og_11_47, or_11_47, ow_11_47, og_11_61, og_11_11, or_11_11, ow_11_11, og_11_27, og_11_51, or_11_51, ow_11_51, og_11_48, or_11_48, ow_11_48, og_11_10, or_11_10, ow_11_10, o_is, o_ob, ofs_len11, ↓reduceIte, k_cr, k_ci, k_oR, k_oN, k_aR, k_aN, and_true, true_and, and_self, eq_self, Nat.reduceLT, Nat.reduceLeDiff, Nat.reduceEqDiff, Nat.reduceAdd, Nat.reduceMul, Bool.true_eq_false, Bool.false_eq_true, Nat.add_sub_cancel, Nat.not_lt_zero, Nat.zero_le, k_sub, k_sb1, k_r, k_n, k_ret, k_t1, k_t0, k_nr, k_nn, k_z0, k_z1, k_zb, x_okI, lit_nI, k_in, k_cl, k_lt, k_le, k_eq, k_neg, nI_add, nI_mul, k_clt, k_cgt, k_cle, k_cge, k_ceq, bI_0, k_sh8, ne_eq, Nat.add_eq_zero_iff, Nat.one_ne_zero, Nat.succ_ne_zero, and_false, false_and, not_false_eq_true, not_true_eq_false, ite_true, ite_false, if_true, if_false, sI_uI, sJ_uI, sA_uI, sL_uI, sR_uI, sQ_uI, sI_uJ, sJ_uJ, sA_uJ, sL_uJ, sR_uJ, sQ_uJ, sI_uA, sJ_uA, sA_uA, sL_uA, sR_uA, sQ_uA, sI_uL, sJ_uL, sA_uL, sL_uL, sR_uL, sQ_uL, sI_uR, sJ_uR, sA_uR, sL_uR, sR_uR, sQ_uR, sI_uQ, sJ_uQ, sA_uQ, sL_uQ, sR_uQ, sQ_uQ, e10, hle, e11, t1, t2, eB]
      · rw [i3 q (by omega), h11 q, if_neg (by omega)]
      · by_cases hj : j = i
        · subst hj
          rw [i3 _ (by omega), h11, if_pos rfl]
          exact hy hb
        · exact i4 hc j (by omega) (by omega)
theorem m_carryMember (d : Nat) (h : xH) (M : Nat) (S : gS) {f t c v to e m nO tt : Nat} {vw : vW} {ty : Nat → Nat} {k : Option Nat} {b0 : Nat} {af : Nat → Nat} {R : List rT} {eo : kE} {rn : Bool} (hV : wkV S f c nO v vw) (ht : t < 8) (he : e < 6) (hm : m < 8) (hto : 120 ≤ to ∧ to < 180) (hvt : v < 120) (heo : ∀ w, eo.1 w = eMs S f c nO w) (hro : ∀ q, q < 8 → sA S 5 (8 * (6 * f + c) + q) = bI (eo.2.1 q)) (hrn : sA S 5 (8 * (6 * t + e) + m) = bI rn) (hty : ∀ q, q < nO → sA S 4 (8 * (6 * f + c) + q) = nI (ty q) ∧ ty q ≤ 7) (htt : sA S 4 (8 * (6 * t + e) + m) = nI tt ∧ tt ≤ 7) (hwf : ∀ o, o < nO → ∀ k, k < vw.2.1 o → wfT (ty o) (vw.2.2 o k)) (hk : rkO S k b0 af R) (hb : b0 + R.length ≤ 699) (hR : rlOK eo R) (hW : ∀ r, R.find? (isR 1 (sL S 3 (8 * (6 * t + e) + m))) = some r → ¬ r.2.2.2.2.1 = true → sA S 10 (8 * to + m) = nI 1) : ∃ S', xm (d + 4) 181 [.ref M, .int (nI f), .int (nI t), .int (nI v), .int (nI to), .int (nI e), .int (nI m), .int (oI k)] (oh 11 h M S) = some (some (.int (nI (fiQ (fiM eo vw ty tt (plR eo rn R (sL S 3 (8 * (6 * t + e) + m))))))), oh 11 h M S') ∧ cmF S S' to m ∧ ∀ g, fiM eo vw ty tt (plR eo rn R (sL S 3 (8 * (6 * t + e) + m))) = .inr g → cmR S S' to m g := by
  have hV0 := hV
  obtain ⟨v1, v2, v3, v4, v5, v6, v7, v8, v9⟩ := hV
  generalize hw : sL S 3 (8 * (6 * t + e) + m) = w at *
  have e1 : xm (d + 3) 177 [.ref M, .int (oI k), .int (nI 1), .long w] (oh 11 h M S) = _ := m_ruleOf (d + 2) h M S 1 w hk (by omega)
  have t2 : ∀ S', sA S' 4 (8 * (6 * t + e) + m) = nI tt → xm (d + 3) 142 [.ref M, .int (nI t), .int (nI e), .int (nI m)] (oh 11 h M S') = some (some (.int (nI tt)), oh 11 h M S') := fun S' h4 => by
    have := m_typeOf (d + 2) h M S' t e m ht he hm
    rw [h4] at this
    exact this
  have eE : xm (d + 4) 181 [.ref M, .int (nI f), .int (nI t), .int (nI v), .int (nI to), .int (nI e), .int (nI m), .int (oI k)] (oh 11 h M S) = _ := E_181 (d + 3) (oh 11 h M S) (.ref M) (nI f) (nI t) (nI v) (nI to) (nI e) (nI m) (oI k) rfl
  rw [eE]
  obtain ⟨q1, q2⟩ := fnR_find 1 w R b0
  -- the copying
  have cp : ∀ (l11 : Int32) (o : Option Nat), (∀ x, o = some x → x < nO) → ∃ S', xrun (d + 3) 181 166 [(1, .ref M), (1, .int (nI f)), (1, .int (nI t)), (1, .int (nI v)), (1, .int (nI to)), (1, .int (nI e)), (1, .int (nI m)), (1, .int (oI k)), (1, .int (nI c)), (2, .long w), (0, .null), (1, .int l11), (1, .int (oI o)), (0, .null)] [] (oh 11 h M S) = some (some (.int (nI (fiQ (fiC vw ty tt o)))), oh 11 h M S') ∧ cmF S S' to m ∧ ∀ g, fiC vw ty tt o = .inr g → cmR S S' to m g := by
    intro l11 o ho
    generalize oI k = kv at *
    cases o with
    | none =>
      refine ⟨S, ?_, ⟨fr.rfl, fun _ _ => rfl, fun _ _ => rfl⟩, fun g hg => ?_⟩
      · show xrun (d + 3) 181 166 [(1, .ref M), (1, .int (nI f)), (1, .int (nI t)), (1, .int (nI v)), (1, .int (nI to)), (1, .int (nI e)), (1, .int (nI m)), (1, .int kv), (1, .int (nI c)), (2, .long w), (0, .null), (1, .int l11), (1, .int (-nI 1)), (0, .null)] [] (oh 11 h M S) = some (some (.int (nI 0)), oh 11 h M S)
        simp (disch := omega) only [q_181_166, q_181_168, q_181_169, q_181_172, q_181_173, o_is, ↓reduceIte, k_cr, k_ci, k_oR, k_oN, k_aR, k_aN, and_true, true_and, and_self, eq_self, Nat.reduceLT, Nat.reduceLeDiff, Nat.reduceEqDiff, Nat.reduceAdd, Nat.reduceMul, Bool.true_eq_false, Bool.false_eq_true, Nat.add_sub_cancel, Nat.not_lt_zero, Nat.zero_le, k_sub, k_sb1, k_r, k_n, k_ret, k_t1, k_t0, k_nr, k_nn, k_z0, k_z1, k_zb, x_okI, lit_nI, k_in, k_cl, k_lt, k_le, k_eq, k_neg, nI_add, nI_mul, k_clt, k_cgt, k_cle, k_cge, k_ceq, bI_0, k_sh8, ne_eq, Nat.add_eq_zero_iff, Nat.one_ne_zero, Nat.succ_ne_zero, and_false, false_and, not_false_eq_true, not_true_eq_false, ite_true, ite_false, if_true, if_false]
      · have hg : (.inr none : Nat ⊕ Option (Nat × (Nat → Int64))) = .inr g := hg
        cases hg
        exact ⟨rfl, fun _ _ => rfl⟩
    | some o =>
      have ho := ho o rfl
      have e10 := (v8 o (by omega)).1
      have e8 := (v8 o (by omega)).2
      have nq : ¬ nI o = -nI 1 := by
        rw [k_neg (by omega)]
        exact fun z => z
      have hV1 : wkV (uA S 10 (8 * to + m) (nI (vw.2.1 o))) f c nO v vw := by
        refine ⟨v1, v2, v3, v4, v5, v6, v7, fun m2 h2 => ⟨?_, (v8 m2 h2).2⟩, v9⟩
        rw [sA_uA, if_neg (fun z => by have := z.2; omega)]
        exact (v8 m2 h2).1
      obtain ⟨S', i1, i2, i3, i4⟩ := cm_loop d h M (kv := kv) (w := w) (l11 := l11) ht he hm hto hvt ho htt.2 (hty o ho).2 (hwf o ho) (vw.2.1 o) 0 (uA S 10 (8 * to + m) (nI (vw.2.1 o))) (by omega) hV1 (hty o ho).1 htt.1
      have f1 : fr cmP S S' := (fr.rfl.uA (by decide)).trans (i2.mono (fun q hq => by
        unfold cmP at hq
        unfold p2711
        simp only [Bool.or_eq_false_iff] at hq ⊢
        exact ⟨hq.1.1.1.1.2, hq.1.1.1.2⟩))
      have g10 : ∀ q, sA S' 10 q = if q = 8 * to + m then nI (vw.2.1 o) else sA S 10 q := fun q => by
        rw [(i2 10 (by decide)).2.2.1, sA_uA]
        by_cases c : q = 8 * to + m
        · rw [if_pos ⟨rfl, c⟩, if_pos c]
        · rw [if_neg (fun z => c z.2), if_neg c]
      refine ⟨S', ?_, ⟨f1, fun q hq => by rw [g10, if_neg hq], fun q hq => i3 q (by omega)⟩, fun g hg => ?_⟩
      · have eo2 : nI (fiQ (fiC vw ty tt (some o))) = if cpQ vw ty tt o (vw.2.1 o) 0 = true then nI 0 else nI 1 := by
          show nI (fiQ (if cpQ vw ty tt o (vw.2.1 o) 0 = true then .inr _ else .inl 1)) = _
          split <;> rfl
        rw [eo2, ← i1]
        show xrun (d + 3) 181 166 [(1, .ref M), (1, .int (nI f)), (1, .int (nI t)), (1, .int (nI v)), (1, .int (nI to)), (1, .int (nI e)), (1, .int (nI m)), (1, .int kv), (1, .int (nI c)), (2, .long w), (0, .null), (1, .int l11), (1, .int (nI o)), (0, .null)] [] (oh 11 h M S) = _
        simp (disch := omega) only [q_181_166, q_181_168, q_181_169, q_181_172, q_181_173, q_181_174, q_181_175, q_181_178, q_181_180, q_181_182, q_181_183, q_181_185, q_181_186, q_181_187, q_181_190, q_181_192, q_181_193, q_181_194, q_181_196, q_181_197, q_181_198, q_181_199, q_181_200, q_181_204, q_181_205, q_181_208, q_181_210, q_181_211, q_181_212, q_181_214, q_181_215, q_181_216, q_181_219, q_181_220, q_181_223, q_181_225, q_181_227, q_181_228, q_181_230, q_181_232, q_181_233, q_181_234, q_181_236, q_181_237, q_181_238, q_181_239, q_181_242, q_181_244, q_181_245, q_181_246, q_181_248, q_181_250, q_181_251, q_181_252, q_181_254, q_181_255, q_181_256, q_181_257, q_181_258, q_181_260, q_181_262, q_181_265, q_181_266, q_181_267, q_181_269, q_181_271, q_181_274, q_181_277, q_181_278, q_181_279, q_181_282, q_181_285, q_181_286, q_181_287, q_181_290, q_181_293, q_181_294, og_11_9, or_11_9, ow_11_9, og_11_3, or_11_3, ow_11_3, og_11_47, or_11_47, ow_11_47, og_11_61, og_11_11, or_11_11, ow_11_11, og_11_27, og_11_51, or_11_51, ow_11_51, og_11_48, or_11_48, ow_11_48, og_11_10, or_11_10, ow_11_10, o_is, o_ob, ofs_len11, ↓reduceIte, k_cr, k_ci, k_oR, k_oN, k_aR, k_aN, and_true, true_and, and_self, eq_self, Nat.reduceLT, Nat.reduceLeDiff, Nat.reduceEqDiff, Nat.reduceAdd, Nat.reduceMul, Bool.true_eq_false, Bool.false_eq_true, Nat.add_sub_cancel, Nat.not_lt_zero, Nat.zero_le, k_sub, k_sb1, k_r, k_n, k_ret, k_t1, k_t0, k_nr, k_nn, k_z0, k_z1, k_zb, x_okI, lit_nI, k_in, k_cl, k_lt, k_le, k_eq, k_neg, nI_add, nI_mul, k_clt, k_cgt, k_cle, k_cge, k_ceq, bI_0, k_sh8, ne_eq, Nat.add_eq_zero_iff, Nat.one_ne_zero, Nat.succ_ne_zero, and_false, false_and, not_false_eq_true, not_true_eq_false, ite_true, ite_false, if_true, if_false, nq, e10]
      · have hg : (if cpQ vw ty tt o (vw.2.1 o) 0 = true then .inr (some (vw.2.1 o, fun k => tnC (vw.2.2 o k) (ty o) tt)) else .inl 1 : Nat ⊕ Option (Nat × (Nat → Int64))) = .inr g := hg
        split at hg
        · rename_i hc
          cases hg
          refine ⟨by rw [g10, if_pos rfl], fun k hk => ?_⟩
          by_cases hkn : k < vw.2.1 o
          · rw [if_pos hkn]
            exact i4 hc k (Nat.zero_le _) (by omega)
          · rw [if_neg hkn]
            exact i3 _ (by omega)
        · cases hg
  cases hr : fnR 1 w R b0 with
  | none =>
    rw [hr] at e1
    have e1 : xm (d + 3) 177 [.ref M, .int (oI k), .int (nI 1), .long w] (oh 11 h M S) = some (some (.int (-nI 1)), oh 11 h M S) := e1
    have ep : plR eo rn R w = (none, smO (eo.1 w) eo.2.1 rn R w) := by
      unfold plR
      rw [q1 hr]
    have eS : xm (d + 3) 188 [.ref M, .int (nI f), .int (nI t), .int (nI c), .int (nI e), .int (nI m), .int (oI k)] (oh 11 h M S) = _ := m_sameOf (d + 1) h M S v1 ht v2 he hm v3 v4 hro hrn hk hb
    rw [hw, ← heo] at eS
    obtain ⟨S', c1, c2, c3⟩ := cp (-nI 1) (smO (eo.1 w) eo.2.1 rn R w) (fun x hx => by
      unfold smO at hx
      split at hx
      · cases hx
      · rename_i q hq
        split at hx
        · cases hx
          rw [heo] at hq
          exact (fnd_lt (f := fun i => sL S 3 (8 * (6 * f + c) + i)) hq).1
        · cases hx)
    rw [ep]
    refine ⟨S', ?_, c2, c3⟩
    show _ = some (some (Value.int (nI (fiQ (fiC vw ty tt (smO (eo.1 w) eo.2.1 rn R w))))), oh 11 h M S')
    rw [← c1]
    generalize smO (eo.1 w) eo.2.1 rn R w = so at *
    generalize oI so = sv at *
    generalize oI k = kv at *
    simp (disch := omega) only [q_181_0, q_181_1, q_181_4, q_181_5, q_181_6, q_181_8, q_181_9, q_181_12, q_181_14, q_181_16, q_181_17, q_181_18, q_181_20, q_181_21, q_181_22, q_181_24, q_181_25, q_181_26, q_181_28, q_181_29, q_181_31, q_181_32, q_181_34, q_181_37, q_181_39, q_181_41, q_181_42, q_181_45, q_181_46, q_181_49, q_181_51, q_181_52, q_181_55, q_181_56, q_181_58, q_181_59, q_181_60, q_181_63, q_181_65, q_181_66, q_181_69, q_181_72, q_181_73, q_181_76, q_181_77, q_181_78, q_181_81, q_181_83, q_181_85, q_181_86, q_181_88, q_181_90, q_181_91, q_181_92, q_181_93, q_181_95, q_181_96, q_181_97, q_181_98, q_181_100, q_181_102, q_181_105, q_181_108, q_181_109, q_181_110, q_181_113, q_181_116, q_181_117, q_181_120, q_181_121, q_181_122, q_181_124, q_181_125, q_181_128, q_181_129, q_181_130, q_181_131, q_181_133, q_181_135, q_181_137, q_181_139, q_181_142, q_181_145, q_181_146, q_181_147, q_181_149, q_181_150, q_181_153, q_181_154, q_181_157, q_181_159, q_181_160, q_181_161, q_181_164, og_11_9, or_11_9, ow_11_9, og_11_3, or_11_3, ow_11_3, og_11_47, or_11_47, ow_11_47, og_11_61, og_11_11, or_11_11, ow_11_11, og_11_27, og_11_51, or_11_51, ow_11_51, og_11_48, or_11_48, ow_11_48, og_11_10, or_11_10, ow_11_10, o_is, o_ob, ofs_len11, ↓reduceIte, k_cr, k_ci, k_oR, k_oN, k_aR, k_aN, and_true, true_and, and_self, eq_self, Nat.reduceLT, Nat.reduceLeDiff, Nat.reduceEqDiff, Nat.reduceAdd, Nat.reduceMul, Bool.true_eq_false, Bool.false_eq_true, Nat.add_sub_cancel, Nat.not_lt_zero, Nat.zero_le, k_sub, k_sb1, k_r, k_n, k_ret, k_t1, k_t0, k_nr, k_nn, k_z0, k_z1, k_zb, x_okI, lit_nI, k_in, k_cl, k_lt, k_le, k_eq, k_neg, nI_add, nI_mul, k_clt, k_cgt, k_cle, k_cge, k_ceq, bI_0, k_sh8, ne_eq, Nat.add_eq_zero_iff, Nat.one_ne_zero, Nat.succ_ne_zero, and_false, false_and, not_false_eq_true, not_true_eq_false, ite_true, ite_false, if_true, if_false, hw, v6, e1, eS]
  | some j =>
    obtain ⟨r, r1, r2, r3⟩ := q2 j hr
    have hjl := fnR_lt 1 w R b0 j hr
    have hmem : r ∈ R := List.mem_of_find?_eq_some r2
    have nj : ¬ nI j = -nI 1 := by
      rw [k_neg (by omega)]
      exact fun z => z
    rw [hr] at e1
    have e1 : xm (d + 3) 177 [.ref M, .int (oI k), .int (nI 1), .long w] (oh 11 h M S) = some (some (.int (nI j)), oh 11 h M S) := e1
    have hkM : rkM S b0 af R := by
      cases k with
      | none =>
        have hk : R = [] := hk
        subst hk
        cases hmem
      | some k => exact hk.2.2.2
    obtain ⟨x1, x2, x3, x4⟩ := hkM.2.2 (j - b0) r r1
    rw [show b0 + (j - b0) = j by omega] at x1
    have y0 := hkM.2.1 (j - b0) (by omega)
    have y1 := hkM.2.1 (j - b0 + 1) (by omega)
    rw [show b0 + (j - b0) = j by omega] at y0
    rw [show b0 + (j - b0 + 1) = j + 1 by omega, x3] at y1
    have g47 := x1.2.2.2.2
    cases hj : r.2.2.2.2.1 with
    | true =>
      rw [hj, bI_t] at g47
      obtain ⟨a, ha⟩ := (hR r hmem).1 hj
      have ep : plR eo rn R w = (none, eo.1 (hdV r.2.2.2.2.2)) := by
        unfold plR
        rw [r2]
        show (if r.2.2.2.2.1 = true then _ else _) = _
        rw [if_pos hj]
      have h51 := (x4 0 a (by rw [ha]; rfl)).2
      rw [Nat.add_zero] at h51
      have hd : hdV r.2.2.2.2.2 = a.2.1 := by
        rw [ha]
        rfl
      have eF : xm (d + 3) 133 [.ref M, .int (nI f), .int (nI c), .long a.2.1] (oh 11 h M S) = _ := m_findMember (d + 2) h M S f c nO a.2.1 v1 v2 v3 v4
      rw [show fnd (fun i => sL S 3 (8 * (6 * f + c) + i)) a.2.1 nO = eo.1 a.2.1 from (heo a.2.1).symm] at eF
      obtain ⟨S', c1, c2, c3⟩ := cp (nI j) (eo.1 a.2.1) (fun x hx => by
        rw [heo] at hx
        exact (fnd_lt (f := fun i => sL S 3 (8 * (6 * f + c) + i)) hx).1)
      rw [ep, hd]
      refine ⟨S', ?_, c2, c3⟩
      show _ = some (some (Value.int (nI (fiQ (fiC vw ty tt (eo.1 a.2.1))))), oh 11 h M S')
      rw [← c1]
      have y00 := y0.1
      have y01 := y0.2
      have hal : r.2.2.2.2.2.length = 1 := by
        rw [ha]
        rfl
      have y11 := y1.2
      generalize eo.1 a.2.1 = so at *
      generalize oI so = sv at *
      generalize oI k = kv at *
      simp (disch := omega) only [q_181_0, q_181_1, q_181_4, q_181_5, q_181_6, q_181_8, q_181_9, q_181_12, q_181_14, q_181_16, q_181_17, q_181_18, q_181_20, q_181_21, q_181_22, q_181_24, q_181_25, q_181_26, q_181_28, q_181_29, q_181_31, q_181_32, q_181_34, q_181_37, q_181_39, q_181_41, q_181_42, q_181_45, q_181_46, q_181_49, q_181_51, q_181_52, q_181_55, q_181_56, q_181_58, q_181_59, q_181_60, q_181_63, q_181_65, q_181_66, q_181_69, q_181_72, q_181_73, q_181_76, q_181_77, q_181_78, q_181_81, q_181_83, q_181_85, q_181_86, q_181_88, q_181_90, q_181_91, q_181_92, q_181_93, q_181_95, q_181_96, q_181_97, q_181_98, q_181_100, q_181_102, q_181_105, q_181_108, q_181_109, q_181_110, q_181_113, q_181_116, q_181_117, q_181_120, q_181_121, q_181_122, q_181_124, q_181_125, q_181_128, q_181_129, q_181_130, q_181_131, q_181_133, q_181_135, q_181_137, q_181_139, q_181_142, q_181_145, q_181_146, q_181_147, q_181_149, q_181_150, q_181_153, q_181_154, q_181_157, q_181_159, q_181_160, q_181_161, q_181_164, og_11_9, or_11_9, ow_11_9, og_11_3, or_11_3, ow_11_3, og_11_47, or_11_47, ow_11_47, og_11_61, og_11_11, or_11_11, ow_11_11, og_11_27, og_11_51, or_11_51, ow_11_51, og_11_48, or_11_48, ow_11_48, og_11_10, or_11_10, ow_11_10, o_is, o_ob, ofs_len11, ↓reduceIte, k_cr, k_ci, k_oR, k_oN, k_aR, k_aN, and_true, true_and, and_self, eq_self, Nat.reduceLT, Nat.reduceLeDiff, Nat.reduceEqDiff, Nat.reduceAdd, Nat.reduceMul, Bool.true_eq_false, Bool.false_eq_true, Nat.add_sub_cancel, Nat.not_lt_zero, Nat.zero_le, k_sub, k_sb1, k_r, k_n, k_ret, k_t1, k_t0, k_nr, k_nn, k_z0, k_z1, k_zb, x_okI, lit_nI, k_in, k_cl, k_lt, k_le, k_eq, k_neg, nI_add, nI_mul, k_clt, k_cgt, k_cle, k_cge, k_ceq, bI_0, k_sh8, ne_eq, Nat.add_eq_zero_iff, Nat.one_ne_zero, Nat.succ_ne_zero, and_false, false_and, not_false_eq_true, not_true_eq_false, ite_true, ite_false, if_true, if_false, hw, v6, e1, nj, g47, y00, h51, eF]
    | false =>
      rw [hj, bI_f] at g47
      have hjn : ¬ r.2.2.2.2.1 = true := by
        rw [hj]
        decide
      have hk2 : ¬ r.1 = 2 := by
        have := List.find?_some r2
        unfold isR at this
        rw [Bool.and_eq_true, decide_eq_true_eq] at this
        omega
      obtain ⟨hA, hO⟩ := (hR r hmem).2 hk2 hjn
      have ep : plR eo rn R w = (some r.2.2.2.2.2, none) := by
        unfold plR
        rw [r2]
        show (if r.2.2.2.2.1 = true then _ else _) = _
        rw [if_neg hjn]
      obtain ⟨S1, eW, fW, gW⟩ := m_work d h M S (r := j) hV0 heo (by omega) y1.2 y0.1 y1.1 x4 hA (hO 60 (by omega))
      rw [ep]
      show ∃ S', _ = some (some (Value.int (nI (fiQ (fiW (evF eo vw r.2.2.2.2.2 (fun _ => 0) 0) tt)))), oh 11 h M S') ∧ cmF S S' to m ∧ ∀ g, fiW (evF eo vw r.2.2.2.2.2 (fun _ => 0) 0) tt = .inr g → cmR S S' to m g
      have c10 := hW r r2 hjn
      have fW2 : fr cmP S S1 := fW.mono (fun q hq => by
        unfold cmP at hq
        unfold wkF
        simp only [Bool.or_eq_false_iff] at hq ⊢
        exact ⟨⟨hq.1.1.2, hq.1.2⟩, hq.2⟩)
      cases hev : evF eo vw r.2.2.2.2.2 (fun _ => 0) 0 with
      | inl q =>
        rw [hev] at eW gW
        have gW : sI S1 61 = nI q := gW
        have hq0 : ¬ q = 0 ∧ q < 8 := by
          have := evF_ne hev
          omega
        refine ⟨S1, ?_, ⟨fW2, fun q _ => by rw [(fW 10 (by decide)).2.2.1], fun q _ => by rw [(fW 11 (by decide)).2.2.2.1]⟩, fun g hg => by cases hg⟩
        show _ = some (some (Value.int (nI q)), oh 11 h M S1)
        have hq1 := hq0.1
        have hq2 := hq0.2
        generalize oI k = kv at *
        simp (disch := omega) only [q_181_0, q_181_1, q_181_4, q_181_5, q_181_6, q_181_8, q_181_9, q_181_12, q_181_14, q_181_16, q_181_17, q_181_18, q_181_20, q_181_21, q_181_22, q_181_24, q_181_25, q_181_26, q_181_28, q_181_29, q_181_31, q_181_32, q_181_34, q_181_37, q_181_39, q_181_41, q_181_42, q_181_45, q_181_46, q_181_49, q_181_51, q_181_52, q_181_55, q_181_56, q_181_58, q_181_59, q_181_60, q_181_63, q_181_65, q_181_66, q_181_69, q_181_72, q_181_73, q_181_76, q_181_77, q_181_78, q_181_81, q_181_83, q_181_85, q_181_86, q_181_88, q_181_90, q_181_91, q_181_92, q_181_93, q_181_95, q_181_96, q_181_97, q_181_98, q_181_100, q_181_102, q_181_105, q_181_108, q_181_109, q_181_110, q_181_113, q_181_116, q_181_117, q_181_120, q_181_121, q_181_122, q_181_124, q_181_125, q_181_128, q_181_129, q_181_130, q_181_131, q_181_133, q_181_135, q_181_137, q_181_139, q_181_142, q_181_145, q_181_146, q_181_147, q_181_149, q_181_150, q_181_153, q_181_154, q_181_157, q_181_159, q_181_160, q_181_161, q_181_164, og_11_9, or_11_9, ow_11_9, og_11_3, or_11_3, ow_11_3, og_11_47, or_11_47, ow_11_47, og_11_61, og_11_11, or_11_11, ow_11_11, og_11_27, og_11_51, or_11_51, ow_11_51, og_11_48, or_11_48, ow_11_48, og_11_10, or_11_10, ow_11_10, o_is, o_ob, ofs_len11, ↓reduceIte, k_cr, k_ci, k_oR, k_oN, k_aR, k_aN, and_true, true_and, and_self, eq_self, Nat.reduceLT, Nat.reduceLeDiff, Nat.reduceEqDiff, Nat.reduceAdd, Nat.reduceMul, Bool.true_eq_false, Bool.false_eq_true, Nat.add_sub_cancel, Nat.not_lt_zero, Nat.zero_le, k_sub, k_sb1, k_r, k_n, k_ret, k_t1, k_t0, k_nr, k_nn, k_z0, k_z1, k_zb, x_okI, lit_nI, k_in, k_cl, k_lt, k_le, k_eq, k_neg, nI_add, nI_mul, k_clt, k_cgt, k_cle, k_cge, k_ceq, bI_0, k_sh8, ne_eq, Nat.add_eq_zero_iff, Nat.one_ne_zero, Nat.succ_ne_zero, and_false, false_and, not_false_eq_true, not_true_eq_false, ite_true, ite_false, if_true, if_false, hw, v6, e1, nj, g47, eW, gW, hq1]
      | inr z =>
        rw [hev] at eW gW
        have gW : sI S1 61 = nI 0 := gW
        have eW : xm (d + 3) 178 [.ref M, .int (nI j), .int (nI f), .int (nI v)] (oh 11 h M S) = some (some (.long (z.1 0)), oh 11 h M S1) := eW
        have h4 : sA S1 4 (8 * (6 * t + e) + m) = nI tt := by
          rw [(fW 4 (by decide)).2.2.1]
          exact htt.1
        have t3 := t2 S1 h4
        obtain ⟨y, eB, hy⟩ := m_become d h M S1 (z.1 0) (f := 5) (by omega) htt.2 (by
          unfold wfT
          rw [if_pos (by decide)]
          rfl)
        have h11 : ∀ b q, sL (uL (uI S1 27 b) 11 (64 * to + 8 * m) y) 11 q = if q = 64 * to + 8 * m then y else sL S 11 q := fun b q => by
          rw [sL_uL]
          by_cases c : q = 64 * to + 8 * m
          · rw [if_pos ⟨rfl, c⟩, if_pos c]
          · rw [if_neg (fun z => c z.2), if_neg c]
            show sL S1 11 q = _
            rw [(fW 11 (by decide)).2.2.2.1]
        have hF : ∀ b, cmF S (uL (uI S1 27 b) 11 (64 * to + 8 * m) y) to m := fun b => ⟨(fW2.uI (by decide)).uL (by decide), fun q _ => by
          show sA S1 10 q = _
          rw [(fW 10 (by decide)).2.2.1], fun q hq => by rw [h11, if_neg (by omega)]⟩
        show ∃ S', _ = some (some (Value.int (nI (fiQ (if ftC (z.1 0) 5 tt = true then .inr (some (1, fun _ => tnC (z.1 0) 5 tt)) else .inl 1)))), oh 11 h M S') ∧ cmF S S' to m ∧ ∀ g, (if ftC (z.1 0) 5 tt = true then .inr (some (1, fun _ => tnC (z.1 0) 5 tt)) else .inl 1 : Nat ⊕ Option (Nat × (Nat → Int64))) = .inr g → cmR S S' to m g
        cases hb2 : ftC (z.1 0) 5 tt with
        | false =>
          rw [hb2, bI_f] at eB
          refine ⟨_, ?_, hF (nI 0), fun g hg => by cases hg⟩
          show _ = some (some (Value.int (nI 1)), oh 11 h M (uL (uI S1 27 (nI 0)) 11 (64 * to + 8 * m) y))
          generalize oI k = kv at *
          simp (disch := omega) only [q_181_0, q_181_1, q_181_4, q_181_5, q_181_6, q_181_8, q_181_9, q_181_12, q_181_14, q_181_16, q_181_17, q_181_18, q_181_20, q_181_21, q_181_22, q_181_24, q_181_25, q_181_26, q_181_28, q_181_29, q_181_31, q_181_32, q_181_34, q_181_37, q_181_39, q_181_41, q_181_42, q_181_45, q_181_46, q_181_49, q_181_51, q_181_52, q_181_55, q_181_56, q_181_58, q_181_59, q_181_60, q_181_63, q_181_65, q_181_66, q_181_69, q_181_72, q_181_73, q_181_76, q_181_77, q_181_78, q_181_81, q_181_83, q_181_85, q_181_86, q_181_88, q_181_90, q_181_91, q_181_92, q_181_93, q_181_95, q_181_96, q_181_97, q_181_98, q_181_100, q_181_102, q_181_105, q_181_108, q_181_109, q_181_110, q_181_113, q_181_116, q_181_117, q_181_120, q_181_121, q_181_122, q_181_124, q_181_125, q_181_128, q_181_129, q_181_130, q_181_131, q_181_133, q_181_135, q_181_137, q_181_139, q_181_142, q_181_145, q_181_146, q_181_147, q_181_149, q_181_150, q_181_153, q_181_154, q_181_157, q_181_159, q_181_160, q_181_161, q_181_164, og_11_9, or_11_9, ow_11_9, og_11_3, or_11_3, ow_11_3, og_11_47, or_11_47, ow_11_47, og_11_61, og_11_11, or_11_11, ow_11_11, og_11_27, og_11_51, or_11_51, ow_11_51, og_11_48, or_11_48, ow_11_48, og_11_10, or_11_10, ow_11_10, o_is, o_ob, ofs_len11, ↓reduceIte, k_cr, k_ci, k_oR, k_oN, k_aR, k_aN, and_true, true_and, and_self, eq_self, Nat.reduceLT, Nat.reduceLeDiff, Nat.reduceEqDiff, Nat.reduceAdd, Nat.reduceMul, Bool.true_eq_false, Bool.false_eq_true, Nat.add_sub_cancel, Nat.not_lt_zero, Nat.zero_le, k_sub, k_sb1, k_r, k_n, k_ret, k_t1, k_t0, k_nr, k_nn, k_z0, k_z1, k_zb, x_okI, lit_nI, k_in, k_cl, k_lt, k_le, k_eq, k_neg, nI_add, nI_mul, k_clt, k_cgt, k_cle, k_cge, k_ceq, bI_0, k_sh8, ne_eq, Nat.add_eq_zero_iff, Nat.one_ne_zero, Nat.succ_ne_zero, and_false, false_and, not_false_eq_true, not_true_eq_false, ite_true, ite_false, if_true, if_false, sI_uI, sJ_uI, sA_uI, sL_uI, sR_uI, sQ_uI, sI_uJ, sJ_uJ, sA_uJ, sL_uJ, sR_uJ, sQ_uJ, sI_uA, sJ_uA, sA_uA, sL_uA, sR_uA, sQ_uA, sI_uL, sJ_uL, sA_uL, sL_uL, sR_uL, sQ_uL, sI_uR, sJ_uR, sA_uR, sL_uR, sR_uR, sQ_uR, sI_uQ, sJ_uQ, sA_uQ, sL_uQ, sR_uQ, sQ_uQ, hw, v6, e1, nj, g47, eW, gW, t3, eB]
        | true =>
          rw [hb2, bI_t] at eB
          refine ⟨_, ?_, hF (nI 1), fun g hg => ?_⟩
          · show _ = some (some (Value.int (nI 0)), oh 11 h M (uL (uI S1 27 (nI 1)) 11 (64 * to + 8 * m) y))
            generalize oI k = kv at *
            simp (disch := omega) only [q_181_0, q_181_1, q_181_4, q_181_5, q_181_6, q_181_8, q_181_9, q_181_12, q_181_14, q_181_16, q_181_17, q_181_18, q_181_20, q_181_21, q_181_22, q_181_24, q_181_25, q_181_26, q_181_28, q_181_29, q_181_31, q_181_32, q_181_34, q_181_37, q_181_39, q_181_41, q_181_42, q_181_45, q_181_46, q_181_49, q_181_51, q_181_52, q_181_55, q_181_56, q_181_58, q_181_59, q_181_60, q_181_63, q_181_65, q_181_66, q_181_69, q_181_72, q_181_73, q_181_76, q_181_77, q_181_78, q_181_81, q_181_83, q_181_85, q_181_86, q_181_88, q_181_90, q_181_91, q_181_92, q_181_93, q_181_95, q_181_96, q_181_97, q_181_98, q_181_100, q_181_102, q_181_105, q_181_108, q_181_109, q_181_110, q_181_113, q_181_116, q_181_117, q_181_120, q_181_121, q_181_122, q_181_124, q_181_125, q_181_128, q_181_129, q_181_130, q_181_131, q_181_133, q_181_135, q_181_137, q_181_139, q_181_142, q_181_145, q_181_146, q_181_147, q_181_149, q_181_150, q_181_153, q_181_154, q_181_157, q_181_159, q_181_160, q_181_161, q_181_164, og_11_9, or_11_9, ow_11_9, og_11_3, or_11_3, ow_11_3, og_11_47, or_11_47, ow_11_47, og_11_61, og_11_11, or_11_11, ow_11_11, og_11_27, og_11_51, or_11_51, ow_11_51, og_11_48, or_11_48, ow_11_48, og_11_10, or_11_10, ow_11_10, o_is, o_ob, ofs_len11, ↓reduceIte, k_cr, k_ci, k_oR, k_oN, k_aR, k_aN, and_true, true_and, and_self, eq_self, Nat.reduceLT, Nat.reduceLeDiff, Nat.reduceEqDiff, Nat.reduceAdd, Nat.reduceMul, Bool.true_eq_false, Bool.false_eq_true, Nat.add_sub_cancel, Nat.not_lt_zero, Nat.zero_le, k_sub, k_sb1, k_r, k_n, k_ret, k_t1, k_t0, k_nr, k_nn, k_z0, k_z1, k_zb, x_okI, lit_nI, k_in, k_cl, k_lt, k_le, k_eq, k_neg, nI_add, nI_mul, k_clt, k_cgt, k_cle, k_cge, k_ceq, bI_0, k_sh8, ne_eq, Nat.add_eq_zero_iff, Nat.one_ne_zero, Nat.succ_ne_zero, and_false, false_and, not_false_eq_true, not_true_eq_false, ite_true, ite_false, if_true, if_false, sI_uI, sJ_uI, sA_uI, sL_uI, sR_uI, sQ_uI, sI_uJ, sJ_uJ, sA_uJ, sL_uJ, sR_uJ, sQ_uJ, sI_uA, sJ_uA, sA_uA, sL_uA, sR_uA, sQ_uA, sI_uL, sJ_uL, sA_uL, sL_uL, sR_uL, sQ_uL, sI_uR, sJ_uR, sA_uR, sL_uR, sR_uR, sQ_uR, sI_uQ, sJ_uQ, sA_uQ, sL_uQ, sR_uQ, sQ_uQ, hw, v6, e1, nj, g47, eW, gW, t3, eB]
          · have hg : (.inr (some (1, fun _ => tnC (z.1 0) 5 tt)) : Nat ⊕ Option (Nat × (Nat → Int64))) = .inr g := hg
            cases hg
            refine ⟨?_, fun k2 hk2 => ?_⟩
            · show sA S1 10 (8 * to + m) = nI 1
              rw [(fW 10 (by decide)).2.2.1]
              exact c10
            · rw [h11]
              by_cases c0 : k2 = 0
              · subst c0
                rw [if_pos (Nat.add_zero _), if_pos (by show 0 < 1; omega)]
                exact hy hb2
              · rw [if_neg (by omega), if_neg (by show ¬ k2 < 1; omega)]
theorem fiM_ne {e : kE} {vw : vW} {ty : Nat → Nat} {t : Nat} {pl : Option (List aT) × Option Nat} {q : Nat} (h : fiM e vw ty t pl = .inl q) : q ≠ 0 ∧ q < 100 := by
  unfold fiM at h
  split at h
  · unfold fiW at h
    split at h
    · rename_i q2 hq
      cases h
      have := evF_ne hq
      omega
    · split at h
      · cases h
      · cases h
        omega
  · unfold fiC at h
    split at h
    · cases h
    · split at h
      · cases h
      · cases h
        omega
