/-! The class: readTarget, whole. -/
theorem fr.uR {P : Nat → Bool} {S T : gS} {j : Nat} {x : Value} (h : fr P S T) (hj : P j = true) : fr P S (uR T j x) := fun k hk => by
  obtain ⟨a1, a2, a3, a4, a5, a6⟩ := h k hk
  refine ⟨a1, a2, a3, a4, ?_, a6⟩
  rw [sR_uR, if_neg (ne_of_P hj hk)]
  exact a5
theorem hV.kinds {P : Nat} {S0 S : gS} {i z : Nat} {C : List cT} (h : hV P S0 S i z C) (x y : Value) : hV P S0 (uR (uR S 9 x) 10 y) i z C :=
  ⟨h.1, h.2.1, h.2.2.1, h.2.2.2.1, h.2.2.2.2.1, h.2.2.2.2.2.1, (h.2.2.2.2.2.2.uR (by decide)).uR (by decide)⟩
theorem hX.kinds {P : Nat} {S0 S : gS} {q : Nat} (h : hX P S0 S q) (x y : Value) : hX P S0 (uR (uR S 9 x) 10 y) q :=
  ⟨h.1, h.2.1, h.2.2.1, h.2.2.2.1, (h.2.2.2.2.uR (by decide)).uR (by decide)⟩
theorem t_run (d : Nat) {Q β1 β2 κ0 : Nat} {SB1 SB2 : gS} {n1 n2 : Nat} {κ1 κ2 : Nat → Nat} {SK1 SK2 : Nat → gS} {h : xH} {S S1 S2 S3 S4 : gS} {c : Option Nat} {w : Int64} {a : Int32} (hb1 : bB Q β1 SB1 n1 κ1 SK1 h) (hb2 : bB Q β2 SB2 n2 κ2 SK2 h) (r1 : sR S4 1 = .ref κ0) (r5 : sR S4 5 = .ref β1) (r6 : sR S4 6 = .ref β2) (r61 : sR S1 6 = .ref β2) (hc : ∀ x, c = some x → x < n1) (e1 : xm (d + 1) 52 [.ref Q, .int (nI 7)] (oh 4 h Q S) = some (none, oh 4 h Q S1)) (e2 : xm (d + 1) 49 [.ref Q] (oh 4 h Q S1) = some (some (.long w), oh 4 h Q S1)) (e5 : bF n2 SK2 w = none → xm (d + 1) 50 [.ref Q] (oh 4 h Q S1) = some (some (.int a), oh 4 h Q S1) ∧ xm (d + 1) 51 [.ref Q, .int a] (oh 4 h Q S1) = some (none, oh 4 h Q S2)) (e6 : ¬ bF n2 SK2 w = none → S2 = S1) (e3 : xm (d + 1) 52 [.ref Q, .int (nI 2)] (oh 4 h Q S2) = some (none, oh 4 h Q S3)) (e4 : xm (d + 1) 52 [.ref Q, .int (nI 123)] (oh 4 h Q S3) = some (none, oh 4 h Q S4)) : xm (d + 2) 53 [.ref Q, .int (oI c)] (oh 4 h Q S) = some (some (.int (oI (bF n2 SK2 w))), oh 4 h Q (uR (uR S4 9 (kR κ0 κ1 c)) 10 (kR κ0 κ2 (bF n2 SK2 w)))) := by
  have eF := b_find d (Q := Q) (S := S1) (w := w) hb2
  have i2 := t_is hb2
  have eE := t_end d (Q := Q) (S := S4) (u3 := (0, .null)) (u4 := (0, .null)) (c := c) (t := bF n2 SK2 w) hb1 hb2 r1 r5 r6 hc (fun x hx => bF_lt hx)
  rw [E_53 _ _ _ _ rfl]
  rw [← eE]
  have h6 := hb2.2.1.2.1
  cases hf : bF n2 SK2 w with
  | none =>
    rw [hf] at eF
    obtain ⟨e50, e51⟩ := e5 hf
    generalize oI c = cx
    simp (disch := omega) only [q_53_0, q_53_1, q_53_3, q_53_6, q_53_7, q_53_10, q_53_11, q_53_14, q_53_17, q_53_18, q_53_19, q_53_20, q_53_23, q_53_24, q_53_25, q_53_28, q_53_31, q_53_32, q_53_33, q_53_36, q_53_37, q_53_39, og_4_6, og_4_5, og_4_1, og_4_9, op_4_9, og_4_10, op_4_10, o_is, o_ob, ofs_len4, ↓reduceIte, k_cr, k_ci, k_oR, k_oN, k_aR, k_aN, and_true, true_and, and_self, eq_self, Nat.reduceLT, Nat.reduceLeDiff, Nat.reduceEqDiff, Nat.reduceAdd, Nat.reduceMul, Bool.true_eq_false, Bool.false_eq_true, Nat.add_sub_cancel, Nat.not_lt_zero, Nat.zero_le, k_sub, k_sb1, k_r, k_n, k_ret, k_t1, k_t0, k_nr, k_nn, k_z0, k_z1, k_zb, x_okI, lit_nI, k_in, k_cl, k_lt, k_le, k_eq, k_neg, nI_add, nI_mul, k_clt, k_cgt, k_cle, k_cge, k_ceq, bI_0, k_sh8, ne_eq, Nat.add_eq_zero_iff, Nat.one_ne_zero, Nat.succ_ne_zero, and_false, false_and, not_false_eq_true, not_true_eq_false, ite_true, ite_false, if_true, if_false, oI, i2, r61, e1, e2, eF, e50, e51, e3, e4]
  | some t =>
    have ht := bF_lt hf
    rw [hf] at eF
    have e7 := e6 (by rw [hf]; intro z; cases z)
    subst e7
    generalize oI c = cx
    simp (disch := omega) only [q_53_0, q_53_1, q_53_3, q_53_6, q_53_7, q_53_10, q_53_11, q_53_14, q_53_17, q_53_18, q_53_19, q_53_20, q_53_23, q_53_24, q_53_25, q_53_28, q_53_31, q_53_32, q_53_33, q_53_36, q_53_37, q_53_39, og_4_6, og_4_5, og_4_1, og_4_9, op_4_9, og_4_10, op_4_10, o_is, o_ob, ofs_len4, ↓reduceIte, k_cr, k_ci, k_oR, k_oN, k_aR, k_aN, and_true, true_and, and_self, eq_self, Nat.reduceLT, Nat.reduceLeDiff, Nat.reduceEqDiff, Nat.reduceAdd, Nat.reduceMul, Bool.true_eq_false, Bool.false_eq_true, Nat.add_sub_cancel, Nat.not_lt_zero, Nat.zero_le, k_sub, k_sb1, k_r, k_n, k_ret, k_t1, k_t0, k_nr, k_nn, k_z0, k_z1, k_zb, x_okI, lit_nI, k_in, k_cl, k_lt, k_le, k_eq, k_neg, nI_add, nI_mul, k_clt, k_cgt, k_cle, k_cge, k_ceq, bI_0, k_sh8, ne_eq, Nat.add_eq_zero_iff, Nat.one_ne_zero, Nat.succ_ne_zero, and_false, false_and, not_false_eq_true, not_true_eq_false, ite_true, ite_false, if_true, if_false, oI, i2, r61, e1, e2, eF, e3, e4]
/-- the places noted of a new CLASS -/
def tgB (t : Option Nat) (a : Nat) : List Nat := if t = none then [a] else []
theorem h_note {P : Nat} {S0 S : gS} {i z : Nat} {C : List cT} (d : Nat) {Q N : Nat} {SP : gS} {p : pP} {h : xH} (o : Option Nat) (hs : hS Q P SP N p) (hh : isB 0 h P SP) (hv : hV P S0 S i z C) (hi : i ≤ N) : ∃ S2, hV P S0 S2 i (mnF (tgB o (p.2.1 i)) z) C ∧ (o = none → xm (d + 1) 50 [.ref Q] (oh 4 h Q S) = some (some (.int (nI (p.2.1 i))), oh 4 h Q S) ∧ xm (d + 1) 51 [.ref Q, .int (nI (p.2.1 i))] (oh 4 h Q S) = some (none, oh 4 h Q S2)) ∧ (¬ o = none → S2 = S) ∧ sI S2 8 = sI S 8 := by
  have hpl := hs.2.2.2.2 i
  by_cases ho : o = none
  · refine ⟨_, ?_, fun _ => ⟨h_place d hs hh hv.r0 hv.2.1 hi, k_note d hv.2.2.2.1 hv.2.2.2.2.1 (show p.2.1 i ≤ 701 by omega)⟩, fun z => absurd ho z, rfl⟩
    unfold tgB
    rw [if_pos ho]
    exact hv.no (p.2.1 i)
  · refine ⟨S, ?_, fun z => absurd z ho, fun _ => rfl, rfl⟩
    unfold tgB
    rw [if_neg ho]
    exact hv
theorem h_noteX {P : Nat} {S0 S : gS} {q : Nat} (d : Nat) {Q N : Nat} {SP : gS} {p : pP} {h : xH} (o : Option Nat) (hs : hS Q P SP N p) (hh : isB 0 h P SP) (hv : hX P S0 S q) (hi : q ≤ N) : ∃ S2, hX P S0 S2 q ∧ (o = none → xm (d + 1) 50 [.ref Q] (oh 4 h Q S) = some (some (.int (nI (p.2.1 q))), oh 4 h Q S) ∧ xm (d + 1) 51 [.ref Q, .int (nI (p.2.1 q))] (oh 4 h Q S) = some (none, oh 4 h Q S2)) ∧ (¬ o = none → S2 = S) ∧ sI S2 8 = sI S 8 := by
  have hpl := hs.2.2.2.2 q
  by_cases ho : o = none
  · obtain ⟨S2, e, x, f8⟩ := hv.no d Q h (show p.2.1 q ≤ 701 by omega)
    exact ⟨S2, x, fun _ => ⟨h_place d hs hh hv.r0 hv.2.1 hi, e⟩, fun z => absurd ho z, (f8 8 (by decide)).1⟩
  · exact ⟨S, hv, fun z => absurd z ho, fun _ => rfl, rfl⟩
/-- what a parser keeps of its BUILDS -/
def pB (S0 : gS) (κ0 β1 β2 : Nat) : Prop := sR S0 1 = .ref κ0 ∧ sR S0 5 = .ref β1 ∧ sR S0 6 = .ref β2
theorem hV.b {P : Nat} {S0 S : gS} {i z κ0 β1 β2 : Nat} {C : List cT} (h : hV P S0 S i z C) (hb : pB S0 κ0 β1 β2) : sR S 1 = .ref κ0 ∧ sR S 5 = .ref β1 ∧ sR S 6 = .ref β2 :=
  ⟨(h.2.2.2.2.2.2 1 (by decide)).2.2.2.2.1.trans hb.1, (h.2.2.2.2.2.2 5 (by decide)).2.2.2.2.1.trans hb.2.1, (h.2.2.2.2.2.2 6 (by decide)).2.2.2.2.1.trans hb.2.2⟩
theorem hX.b {P : Nat} {S0 S : gS} {q κ0 β1 β2 : Nat} (h : hX P S0 S q) (hb : pB S0 κ0 β1 β2) : sR S 1 = .ref κ0 ∧ sR S 5 = .ref β1 ∧ sR S 6 = .ref β2 :=
  ⟨(h.2.2.2.2 1 (by decide)).2.2.2.2.1.trans hb.1, (h.2.2.2.2 5 (by decide)).2.2.2.2.1.trans hb.2.1, (h.2.2.2.2 6 (by decide)).2.2.2.2.1.trans hb.2.2⟩
section
variable {Q P β1 β2 κ0 N : Nat} {SP SB1 SB2 S0 S : gS} {n1 n2 : Nat} {κ1 κ2 : Nat → Nat} {SK1 SK2 : Nat → gS} {h : xH} {p : pP} {c : Option Nat}
/-- the text is WRONG already -/
theorem h_tX (d : Nat) {q : Nat} (hs : hS Q P SP N p) (hh : isB 0 h P SP) (hb1 : bB Q β1 SB1 n1 κ1 SK1 h) (hb2 : bB Q β2 SB2 n2 κ2 SK2 h) (hp : pB S0 κ0 β1 β2) (hc : ∀ x, c = some x → x < n1) (hx : hX P S0 S q) (hq : q ≤ N) : ∃ S', xm (d + 2) 53 [.ref Q, .int (oI c)] (oh 4 h Q S) = some (some (.int (oI (bF n2 SK2 (p.2.2 q)))), oh 4 h Q S') ∧ hX P S0 S' q ∧ sI S' 8 = sI S 8 := by
  obtain ⟨S2, x2, e5, e6, g8⟩ := h_noteX d (bF n2 SK2 (p.2.2 q)) hs hh hx hq
  obtain ⟨b1, b5, b6⟩ := x2.b hp
  exact ⟨_, t_run d hb1 hb2 b1 b5 b6 (hx.b hp).2.2 hc (h_takeF d hs hh hx.r0 hx.2.1 hq hx.2.2.1) (h_word d hs hh hx.r0 hx.2.1 hq) e5 e6 (h_takeF d hs hh x2.r0 x2.2.1 hq x2.2.2.1) (h_takeF d hs hh x2.r0 x2.2.1 hq x2.2.2.1), x2.kinds _ _, g8⟩
/-- to NAME { -/
theorem h_target (d : Nat) {i i1 i2 i3 z : Nat} {C : List cT} (j1 : i1 = i + 1) (j2 : i2 = i + 2) (j3 : i3 = i + 3) (hs : hS Q P SP N p) (hh : isB 0 h P SP) (hb1 : bB Q β1 SB1 n1 κ1 SK1 h) (hb2 : bB Q β2 SB2 n2 κ2 SK2 h) (hp : pB S0 κ0 β1 β2) (hc : ∀ x, c = some x → x < n1) (hv : hV P S0 S i z C) (hi : i ≤ N) : (¬ pWd p i 29807 = true → ∃ S' o, xm (d + 2) 53 [.ref Q, .int (oI c)] (oh 4 h Q S) = some (some (.int (oI o)), oh 4 h Q S') ∧ hX P S0 S' i ∧ sI S' 8 = sI S 8) ∧ (pWd p i 29807 = true → i1 ≤ N ∧ (¬ pNm p i1 = true → ∃ S' o, xm (d + 2) 53 [.ref Q, .int (oI c)] (oh 4 h Q S) = some (some (.int (oI o)), oh 4 h Q S') ∧ hX P S0 S' i1 ∧ sI S' 8 = sI S 8) ∧ (pNm p i1 = true → i2 ≤ N ∧ (¬ p.1 i2 = nI 123 → ∃ S' o, xm (d + 2) 53 [.ref Q, .int (oI c)] (oh 4 h Q S) = some (some (.int (oI o)), oh 4 h Q S') ∧ hX P S0 S' i2 ∧ sI S' 8 = sI S 8) ∧ (p.1 i2 = nI 123 → i3 ≤ N ∧ ∃ S', xm (d + 2) 53 [.ref Q, .int (oI c)] (oh 4 h Q S) = some (some (.int (oI (bF n2 SK2 (p.2.2 i1)))), oh 4 h Q (uR (uR S' 9 (kR κ0 κ1 c)) 10 (kR κ0 κ2 (bF n2 SK2 (p.2.2 i1))))) ∧ hV P S0 S' i3 (mnF (tgB (bF n2 SK2 (p.2.2 i1)) (p.2.1 i1)) z) C ∧ sI S' 8 = sI S 8))) := by
  have hN := hs.2.2.1
  have hN7 := hN.1
  have hkp := hs.2.2.2.1
  subst j1
  subst j2
  subst j3
  refine ⟨fun ct => ?_, fun ct => ?_⟩
  · have x1 := hv.bad
    have e1 := h_takeX d (c := nI 7) hs hh hv.r0 hv.2.1 hi hv.2.2.1 (fun q => ct ((cK_wd (hkp i) (Or.inr (Or.inr (Or.inr ⟨rfl, rfl⟩)))).mp q))
    obtain ⟨S2, x2, e5, e6, g8⟩ := h_noteX d (bF n2 SK2 (p.2.2 i)) hs hh x1 hi
    obtain ⟨b1, b5, b6⟩ := x2.b hp
    exact ⟨_, _, t_run d hb1 hb2 b1 b5 b6 (x1.b hp).2.2 hc e1 (h_word d hs hh x1.r0 x1.2.1 hi) e5 e6 (h_takeF d hs hh x2.r0 x2.2.1 hi x2.2.2.1) (h_takeF d hs hh x2.r0 x2.2.1 hi x2.2.2.1), x2.kinds _ _, g8⟩
  · have ct1 : p.1 i = nI 1 := by
      unfold pWd at ct
      rw [Bool.and_eq_true, decide_eq_true_eq] at ct
      exact ct.1
    have hj1 : i + 1 ≤ N := hN.ltc hi ct1 (by decide)
    have e1 := h_take d (c := nI 7) hs hh hv.r0 hv.2.1 hi hv.2.2.1 ((cK_wd (hkp i) (Or.inr (Or.inr (Or.inr ⟨rfl, rfl⟩)))).mpr ct) (by omega)
    have v1 := hv.at (i + 1)
    have e2 := h_word d hs hh v1.r0 v1.2.1 hj1
    obtain ⟨S2, v2, e5, e6, g8⟩ := h_note d (bF n2 SK2 (p.2.2 (i + 1))) hs hh v1 hj1
    refine ⟨hj1, fun cn => ?_, fun cn => ?_⟩
    · have x2 := v2.bad
      obtain ⟨b1, b5, b6⟩ := x2.b hp
      exact ⟨_, _, t_run d hb1 hb2 b1 b5 b6 (v1.b hp).2.2 hc e1 e2 e5 e6 (h_takeX d hs hh v2.r0 v2.2.1 hj1 v2.2.2.1 (fun q => cn (cK_nm.mp q))) (h_takeF d hs hh x2.r0 x2.2.1 hj1 x2.2.2.1), x2.kinds _ _, g8⟩
    · have hj2 : i + 2 ≤ N := hN.ltc hj1 (pNm_1 cn).1 (by decide)
      have e3 := h_take d (c := nI 2) hs hh v2.r0 v2.2.1 hj1 v2.2.2.1 (cK_nm.mpr cn) (by omega)
      have v3 := v2.at (i + 2)
      refine ⟨hj2, fun cb => ?_, fun cb => ?_⟩
      · have x3 := v3.bad
        obtain ⟨b1, b5, b6⟩ := x3.b hp
        exact ⟨_, _, t_run d hb1 hb2 b1 b5 b6 (v1.b hp).2.2 hc e1 e2 e5 e6 e3 (h_takeX d hs hh v3.r0 v3.2.1 hj2 v3.2.2.1 (fun q => cb ((cK_c (by decide)).mp q))), x3.kinds _ _, g8⟩
      · have hj3 : i + 3 ≤ N := hN.ltc hj2 cb (by decide)
        have v4 := v3.at (i + 3)
        obtain ⟨b1, b5, b6⟩ := v4.b hp
        exact ⟨hj3, _, t_run d hb1 hb2 b1 b5 b6 (v1.b hp).2.2 hc e1 e2 e5 e6 e3 (h_take d hs hh v3.r0 v3.2.1 hj2 v3.2.2.1 ((cK_c (by decide)).mpr cb) (by omega)), v4, g8⟩
end
