/-! The class: readTarget. -/
/-- what readHead touches -/
def pHd (k : Nat) : Bool := (decide (2 ≤ k) && decide (k ≤ 4)) || (decide (8 ≤ k) && decide (k ≤ 15))
def hS (Q P : Nat) (SP : gS) (N : Nat) (p : pP) : Prop := dj 4 Q 0 P ∧ (∀ j, j ≤ N → piV p SP j) ∧ nN p N ∧ (∀ i, ¬ (p.1 i = nI 4 ∨ p.1 i = nI 5 ∨ p.1 i = nI 6 ∨ p.1 i = nI 7)) ∧ ∀ i, p.2.1 i ≤ 700
section
variable {Q P : Nat} {SP : gS} {N : Nat} {p : pP} {h : xH} {S : gS}
theorem h_kind (d : Nat) {i : Nat} (hs : hS Q P SP N p) (hh : isB 0 h P SP) (hr : sR S 0 = .ref P) (ha : sI S 13 = nI i) (hi : i ≤ N) : xm (d + 1) 47 [.ref Q] (oh 4 h Q S) = some (some (.int (cK p i)), oh 4 h Q S) := by
  rw [c_kind d (oh 4 h Q S) Q P i S SP (isB_oh _ _ _ _) hr (hh.frame hs.1) ha (Nat.le_trans hi hs.2.2.1.1), (hs.2.1 i hi).1]
theorem h_word (d : Nat) {i : Nat} (hs : hS Q P SP N p) (hh : isB 0 h P SP) (hr : sR S 0 = .ref P) (ha : sI S 13 = nI i) (hi : i ≤ N) : xm (d + 1) 49 [.ref Q] (oh 4 h Q S) = some (some (.long (p.2.2 i)), oh 4 h Q S) := by
  rw [c_word d (oh 4 h Q S) Q P i S SP (isB_oh _ _ _ _) hr (hh.frame hs.1) ha (Nat.le_trans hi hs.2.2.1.1), (hs.2.1 i hi).2.2]
theorem h_place (d : Nat) {i : Nat} (hs : hS Q P SP N p) (hh : isB 0 h P SP) (hr : sR S 0 = .ref P) (ha : sI S 13 = nI i) (hi : i ≤ N) : xm (d + 1) 50 [.ref Q] (oh 4 h Q S) = some (some (.int (nI (p.2.1 i))), oh 4 h Q S) := by
  rw [c_place d (oh 4 h Q S) Q P i S SP (isB_oh _ _ _ _) hr (hh.frame hs.1) ha (Nat.le_trans hi hs.2.2.1.1), (hs.2.1 i hi).2.1]
theorem h_take (d : Nat) {i : Nat} {c : Int32} (hs : hS Q P SP N p) (hh : isB 0 h P SP) (hr : sR S 0 = .ref P) (ha : sI S 13 = nI i) (hi : i ≤ N) (hb : sI S 14 = nI 0) (hc : cK p i = c) (h7 : i < 700) : xm (d + 1) 52 [.ref Q, .int c] (oh 4 h Q S) = some (none, oh 4 h Q (uI S 13 (nI (i + 1)))) := by
  rw [c_take d (oh 4 h Q S) Q P i S SP c false (isB_oh _ _ _ _) hr (hh.frame hs.1) ha (by omega) hb, oh_oh]
  unfold tkS
  rw [if_pos ⟨rfl, h7, by rw [(hs.2.1 i hi).1]; exact hc⟩]
theorem h_takeX (d : Nat) {i : Nat} {c : Int32} (hs : hS Q P SP N p) (hh : isB 0 h P SP) (hr : sR S 0 = .ref P) (ha : sI S 13 = nI i) (hi : i ≤ N) (hb : sI S 14 = nI 0) (hc : ¬ cK p i = c) : xm (d + 1) 52 [.ref Q, .int c] (oh 4 h Q S) = some (none, oh 4 h Q (uI S 14 (nI 1))) := by
  rw [c_take d (oh 4 h Q S) Q P i S SP c false (isB_oh _ _ _ _) hr (hh.frame hs.1) ha (Nat.le_trans hi hs.2.2.1.1) hb, oh_oh]
  unfold tkS
  rw [if_neg (by rintro ⟨_, _, z⟩; rw [(hs.2.1 i hi).1] at z; exact hc z)]
theorem h_takeF (d : Nat) {i : Nat} {c : Int32} (hs : hS Q P SP N p) (hh : isB 0 h P SP) (hr : sR S 0 = .ref P) (ha : sI S 13 = nI i) (hi : i ≤ N) (hb : sI S 14 = nI 1) : xm (d + 1) 52 [.ref Q, .int c] (oh 4 h Q S) = some (none, oh 4 h Q S) := by
  rw [c_take d (oh 4 h Q S) Q P i S SP c true (isB_oh _ _ _ _) hr (hh.frame hs.1) ha (Nat.le_trans hi hs.2.2.1.1) hb, oh_oh]
  unfold tkS
  rw [if_neg (by rintro ⟨z, _⟩; cases z), uI_same _ _ _ hb]
end
def hV (P : Nat) (S0 S : gS) (i z : Nat) (C : List cT) : Prop := sR S0 0 = .ref P ∧ sI S 13 = nI i ∧ sI S 14 = nI 0 ∧ sI S 15 = nI z ∧ z ≤ 701 ∧ isC S C ∧ fr pHd S0 S
def hX (P : Nat) (S0 S : gS) (q : Nat) : Prop := sR S0 0 = .ref P ∧ sI S 13 = nI q ∧ sI S 14 = nI 1 ∧ (∃ z, sI S 15 = nI z ∧ z ≤ 701) ∧ fr pHd S0 S
theorem hV.r0 {P : Nat} {S0 S : gS} {i z : Nat} {C : List cT} (h : hV P S0 S i z C) : sR S 0 = .ref P := (h.2.2.2.2.2.2 0 (by decide)).2.2.2.2.1.trans h.1
theorem hX.r0 {P : Nat} {S0 S : gS} {q : Nat} (h : hX P S0 S q) : sR S 0 = .ref P := (h.2.2.2.2 0 (by decide)).2.2.2.2.1.trans h.1
theorem hV.at {P : Nat} {S0 S : gS} {i z : Nat} {C : List cT} (h : hV P S0 S i z C) (j : Nat) : hV P S0 (uI S 13 (nI j)) j z C :=
  ⟨h.1, rfl, h.2.2.1, h.2.2.2.1, h.2.2.2.2.1, h.2.2.2.2.2.1, h.2.2.2.2.2.2.uI (by decide)⟩
theorem hV.no {P : Nat} {S0 S : gS} {i z : Nat} {C : List cT} (h : hV P S0 S i z C) (a : Nat) : hV P S0 (uI S 15 (nI (min z a))) i (min z a) C :=
  ⟨h.1, h.2.1, h.2.2.1, rfl, Nat.le_trans (Nat.min_le_left _ _) h.2.2.2.2.1, h.2.2.2.2.2.1, h.2.2.2.2.2.2.uI (by decide)⟩
theorem hV.bad {P : Nat} {S0 S : gS} {i z : Nat} {C : List cT} (h : hV P S0 S i z C) : hX P S0 (uI S 14 (nI 1)) i :=
  ⟨h.1, h.2.1, rfl, ⟨z, h.2.2.2.1, h.2.2.2.2.1⟩, h.2.2.2.2.2.2.uI (by decide)⟩
theorem hX.no {P : Nat} {S0 S : gS} {q : Nat} (hx : hX P S0 S q) (d : Nat) (Q : Nat) (h : xH) {a : Nat} (ha : a ≤ 701) : ∃ S', xm (d + 1) 51 [.ref Q, .int (nI a)] (oh 4 h Q S) = some (none, oh 4 h Q S') ∧ hX P S0 S' q ∧ fr (fun k => decide (k = 15)) S S' := by
  obtain ⟨h1, h4, h5, ⟨z, hz, hz7⟩, h8⟩ := hx
  exact ⟨_, k_note d hz hz7 ha, ⟨h1, h4, h5, ⟨min z a, rfl, Nat.le_trans (Nat.min_le_left _ _) hz7⟩, h8.uI (by decide)⟩, fr.rfl.uI (by decide)⟩
/-- a BUILD of the class, beside the parser -/
def bB (Q β : Nat) (SB : gS) (n : Nat) (κ : Nat → Nat) (SK : Nat → gS) (h : xH) : Prop := isB 2 h β SB ∧ bOK h SB n κ SK ∧ dj 4 Q 2 β ∧ ∀ i, i < n → dj 4 Q 1 (κ i)
theorem bB.o {Q β : Nat} {SB : gS} {n : Nat} {κ : Nat → Nat} {SK : Nat → gS} {h : xH} (hb : bB Q β SB n κ SK h) (S : gS) : isB 2 (oh 4 h Q S) β SB ∧ bOK (oh 4 h Q S) SB n κ SK :=
  ⟨hb.1.frame hb.2.2.1, hb.2.1.1, hb.2.1.2.1, fun i hi => ⟨(hb.2.1.2.2 i hi).1, (hb.2.1.2.2 i hi).2.frame (hb.2.2.2 i hi)⟩⟩
def bF (n : Nat) (SK : Nat → gS) : Int64 → Option Nat := fun w => fnd (fun i => sJ (SK i) 0) w n
theorem b_find (d : Nat) {Q β : Nat} {SB : gS} {n : Nat} {κ : Nat → Nat} {SK : Nat → gS} {h : xH} {S : gS} {w : Int64} (hb : bB Q β SB n κ SK h) : xm (d + 1) 13 [.ref β, .long w] (oh 4 h Q S) = some (some (.int (oI (bF n SK w))), oh 4 h Q S) :=
  c_bfind d (oh 4 h Q S) β n SB κ SK w (hb.o S).1 (hb.o S).2
theorem bF_lt {n : Nat} {SK : Nat → gS} {w : Int64} {m : Nat} (hm : bF n SK w = some m) : m < n := (fnd_lt (f := fun i => sJ (SK i) 0) hm).1
def kV (κ : Nat → Nat) : Option Nat → Value
  | none => .null
  | some c => .ref (κ c)
theorem b_kindAt (d : Nat) {Q β : Nat} {SB : gS} {n : Nat} {κ : Nat → Nat} {SK : Nat → gS} {h : xH} {S : gS} {o : Option Nat} (hb : bB Q β SB n κ SK h) (ho : ∀ c, o = some c → c < n) : xm (d + 1) 18 [.ref β, .int (oI o)] (oh 4 h Q S) = some (some (kV κ o), oh 4 h Q S) := by
  cases o with
  | none => exact c_kindAt_neg d (oh 4 h Q S) β (-nI 1) SB (hb.o S).1 (by decide)
  | some c =>
    have hc := ho c rfl
    have h6 := hb.2.1.2.1
    have e := c_kindAt d (oh 4 h Q S) β n c SB κ SK (hb.o S).1 (hb.o S).2 (by omega)
    rw [if_pos hc] at e
    exact e
/-- a CLASS, or nothing -/
def kR (κ0 : Nat) (κ : Nat → Nat) : Option Nat → Value
  | none => .ref κ0
  | some c => .ref (κ c)
theorem t_is {Q β : Nat} {SB : gS} {n : Nat} {κ : Nat → Nat} {SK : Nat → gS} {h : xH} (hb : bB Q β SB n κ SK h) : ∀ (S : gS) {α : Type} (f : Option α), xis (oh 4 h Q S) β 2 f = f := fun S _ f => h_is (hb.o S).1 f
/-- readTarget behind its takes -/
theorem t_end (d : Nat) {Q β1 β2 κ0 : Nat} {SB1 SB2 : gS} {n1 n2 : Nat} {κ1 κ2 : Nat → Nat} {SK1 SK2 : Nat → gS} {h : xH} {S : gS} {c t : Option Nat} {u3 u4 : Nat × Value} (hb1 : bB Q β1 SB1 n1 κ1 SK1 h) (hb2 : bB Q β2 SB2 n2 κ2 SK2 h) (r1 : sR S 1 = .ref κ0) (r5 : sR S 5 = .ref β1) (r6 : sR S 6 = .ref β2) (hc : ∀ x, c = some x → x < n1) (ht : ∀ x, t = some x → x < n2) : xrun (d + 1) 53 42 [(1, .ref Q), (1, .int (oI c)), (1, .int (oI t)), (0, .null), (0, .null)] [] (oh 4 h Q S) = some (some (.int (oI t)), oh 4 h Q (uR (uR S 9 (kR κ0 κ1 c)) 10 (kR κ0 κ2 t))) := by
  have e1 := b_kindAt d (Q := Q) (S := S) hb1 hc
  have e2 := b_kindAt d (Q := Q) (S := S) hb2 ht
  have i1 := t_is hb1
  have i2 := t_is hb2
  cases c with
  | none =>
    cases t with
    | none =>
      have e1 : xm (d + 1) 18 [.ref β1, .int (-nI 1)] (oh 4 h Q S) = some (some .null, oh 4 h Q S) := e1
      have e2 : xm (d + 1) 18 [.ref β2, .int (-nI 1)] (oh 4 h Q S) = some (some .null, oh 4 h Q S) := e2
      simp (disch := omega) only [q_53_42, q_53_43, q_53_46, q_53_47, q_53_50, q_53_51, q_53_52, q_53_55, q_53_56, q_53_59, q_53_61, q_53_62, q_53_63, q_53_66, q_53_67, q_53_70, q_53_73, q_53_74, q_53_77, q_53_78, q_53_80, q_53_83, q_53_84, q_53_87, q_53_90, q_53_92, q_53_95, q_53_96, og_4_6, og_4_5, og_4_1, og_4_9, op_4_9, og_4_10, op_4_10, o_is, o_ob, ofs_len4, ↓reduceIte, k_cr, k_ci, k_oR, k_oN, k_aR, k_aN, and_true, true_and, and_self, eq_self, Nat.reduceLT, Nat.reduceLeDiff, Nat.reduceEqDiff, Nat.reduceAdd, Nat.reduceMul, Bool.true_eq_false, Bool.false_eq_true, Nat.add_sub_cancel, Nat.not_lt_zero, Nat.zero_le, k_sub, k_sb1, k_r, k_n, k_ret, k_t1, k_t0, k_nr, k_nn, k_z0, k_z1, k_zb, x_okI, lit_nI, k_in, k_cl, k_lt, k_le, k_eq, k_neg, nI_add, nI_mul, k_clt, k_cgt, k_cle, k_cge, k_ceq, bI_0, k_sh8, ne_eq, Nat.add_eq_zero_iff, Nat.one_ne_zero, Nat.succ_ne_zero, and_false, false_and, not_false_eq_true, not_true_eq_false, ite_true, ite_false, if_true, if_false, sI_uI, sJ_uI, sA_uI, sL_uI, sR_uI, sQ_uI, sI_uJ, sJ_uJ, sA_uJ, sL_uJ, sR_uJ, sQ_uJ, sI_uA, sJ_uA, sA_uA, sL_uA, sR_uA, sQ_uA, sI_uL, sJ_uL, sA_uL, sL_uL, sR_uL, sQ_uL, sI_uR, sJ_uR, sA_uR, sL_uR, sR_uR, sQ_uR, sI_uQ, sJ_uQ, sA_uQ, sL_uQ, sR_uQ, sQ_uQ, oI, kR, kV, i1, i2, r1, r5, r6, e1, e2]
    | some t =>
      have e1 : xm (d + 1) 18 [.ref β1, .int (-nI 1)] (oh 4 h Q S) = some (some .null, oh 4 h Q S) := e1
      have e2 : xm (d + 1) 18 [.ref β2, .int (nI t)] (oh 4 h Q S) = some (some (.ref (κ2 t)), oh 4 h Q S) := e2
      simp (disch := omega) only [q_53_42, q_53_43, q_53_46, q_53_47, q_53_50, q_53_51, q_53_52, q_53_55, q_53_56, q_53_59, q_53_61, q_53_62, q_53_63, q_53_66, q_53_67, q_53_70, q_53_73, q_53_74, q_53_77, q_53_78, q_53_80, q_53_83, q_53_84, q_53_87, q_53_90, q_53_92, q_53_95, q_53_96, og_4_6, og_4_5, og_4_1, og_4_9, op_4_9, og_4_10, op_4_10, o_is, o_ob, ofs_len4, ↓reduceIte, k_cr, k_ci, k_oR, k_oN, k_aR, k_aN, and_true, true_and, and_self, eq_self, Nat.reduceLT, Nat.reduceLeDiff, Nat.reduceEqDiff, Nat.reduceAdd, Nat.reduceMul, Bool.true_eq_false, Bool.false_eq_true, Nat.add_sub_cancel, Nat.not_lt_zero, Nat.zero_le, k_sub, k_sb1, k_r, k_n, k_ret, k_t1, k_t0, k_nr, k_nn, k_z0, k_z1, k_zb, x_okI, lit_nI, k_in, k_cl, k_lt, k_le, k_eq, k_neg, nI_add, nI_mul, k_clt, k_cgt, k_cle, k_cge, k_ceq, bI_0, k_sh8, ne_eq, Nat.add_eq_zero_iff, Nat.one_ne_zero, Nat.succ_ne_zero, and_false, false_and, not_false_eq_true, not_true_eq_false, ite_true, ite_false, if_true, if_false, sI_uI, sJ_uI, sA_uI, sL_uI, sR_uI, sQ_uI, sI_uJ, sJ_uJ, sA_uJ, sL_uJ, sR_uJ, sQ_uJ, sI_uA, sJ_uA, sA_uA, sL_uA, sR_uA, sQ_uA, sI_uL, sJ_uL, sA_uL, sL_uL, sR_uL, sQ_uL, sI_uR, sJ_uR, sA_uR, sL_uR, sR_uR, sQ_uR, sI_uQ, sJ_uQ, sA_uQ, sL_uQ, sR_uQ, sQ_uQ, oI, kR, kV, i1, i2, r1, r5, r6, e1, e2]
  | some c =>
    cases t with
    | none =>
      have e1 : xm (d + 1) 18 [.ref β1, .int (nI c)] (oh 4 h Q S) = some (some (.ref (κ1 c)), oh 4 h Q S) := e1
      have e2 : xm (d + 1) 18 [.ref β2, .int (-nI 1)] (oh 4 h Q S) = some (some .null, oh 4 h Q S) := e2
      simp (disch := omega) only [q_53_42, q_53_43, q_53_46, q_53_47, q_53_50, q_53_51, q_53_52, q_53_55, q_53_56, q_53_59, q_53_61, q_53_62, q_53_63, q_53_66, q_53_67, q_53_70, q_53_73, q_53_74, q_53_77, q_53_78, q_53_80, q_53_83, q_53_84, q_53_87, q_53_90, q_53_92, q_53_95, q_53_96, og_4_6, og_4_5, og_4_1, og_4_9, op_4_9, og_4_10, op_4_10, o_is, o_ob, ofs_len4, ↓reduceIte, k_cr, k_ci, k_oR, k_oN, k_aR, k_aN, and_true, true_and, and_self, eq_self, Nat.reduceLT, Nat.reduceLeDiff, Nat.reduceEqDiff, Nat.reduceAdd, Nat.reduceMul, Bool.true_eq_false, Bool.false_eq_true, Nat.add_sub_cancel, Nat.not_lt_zero, Nat.zero_le, k_sub, k_sb1, k_r, k_n, k_ret, k_t1, k_t0, k_nr, k_nn, k_z0, k_z1, k_zb, x_okI, lit_nI, k_in, k_cl, k_lt, k_le, k_eq, k_neg, nI_add, nI_mul, k_clt, k_cgt, k_cle, k_cge, k_ceq, bI_0, k_sh8, ne_eq, Nat.add_eq_zero_iff, Nat.one_ne_zero, Nat.succ_ne_zero, and_false, false_and, not_false_eq_true, not_true_eq_false, ite_true, ite_false, if_true, if_false, sI_uI, sJ_uI, sA_uI, sL_uI, sR_uI, sQ_uI, sI_uJ, sJ_uJ, sA_uJ, sL_uJ, sR_uJ, sQ_uJ, sI_uA, sJ_uA, sA_uA, sL_uA, sR_uA, sQ_uA, sI_uL, sJ_uL, sA_uL, sL_uL, sR_uL, sQ_uL, sI_uR, sJ_uR, sA_uR, sL_uR, sR_uR, sQ_uR, sI_uQ, sJ_uQ, sA_uQ, sL_uQ, sR_uQ, sQ_uQ, oI, kR, kV, i1, i2, r1, r5, r6, e1, e2]
    | some t =>
      have e1 : xm (d + 1) 18 [.ref β1, .int (nI c)] (oh 4 h Q S) = some (some (.ref (κ1 c)), oh 4 h Q S) := e1
      have e2 : xm (d + 1) 18 [.ref β2, .int (nI t)] (oh 4 h Q S) = some (some (.ref (κ2 t)), oh 4 h Q S) := e2
      simp (disch := omega) only [q_53_42, q_53_43, q_53_46, q_53_47, q_53_50, q_53_51, q_53_52, q_53_55, q_53_56, q_53_59, q_53_61, q_53_62, q_53_63, q_53_66, q_53_67, q_53_70, q_53_73, q_53_74, q_53_77, q_53_78, q_53_80, q_53_83, q_53_84, q_53_87, q_53_90, q_53_92, q_53_95, q_53_96, og_4_6, og_4_5, og_4_1, og_4_9, op_4_9, og_4_10, op_4_10, o_is, o_ob, ofs_len4, ↓reduceIte, k_cr, k_ci, k_oR, k_oN, k_aR, k_aN, and_true, true_and, and_self, eq_self, Nat.reduceLT, Nat.reduceLeDiff, Nat.reduceEqDiff, Nat.reduceAdd, Nat.reduceMul, Bool.true_eq_false, Bool.false_eq_true, Nat.add_sub_cancel, Nat.not_lt_zero, Nat.zero_le, k_sub, k_sb1, k_r, k_n, k_ret, k_t1, k_t0, k_nr, k_nn, k_z0, k_z1, k_zb, x_okI, lit_nI, k_in, k_cl, k_lt, k_le, k_eq, k_neg, nI_add, nI_mul, k_clt, k_cgt, k_cle, k_cge, k_ceq, bI_0, k_sh8, ne_eq, Nat.add_eq_zero_iff, Nat.one_ne_zero, Nat.succ_ne_zero, and_false, false_and, not_false_eq_true, not_true_eq_false, ite_true, ite_false, if_true, if_false, sI_uI, sJ_uI, sA_uI, sL_uI, sR_uI, sQ_uI, sI_uJ, sJ_uJ, sA_uJ, sL_uJ, sR_uJ, sQ_uJ, sI_uA, sJ_uA, sA_uA, sL_uA, sR_uA, sQ_uA, sI_uL, sJ_uL, sA_uL, sL_uL, sR_uL, sQ_uL, sI_uR, sJ_uR, sA_uR, sL_uR, sR_uR, sQ_uR, sI_uQ, sJ_uQ, sA_uQ, sL_uQ, sR_uQ, sQ_uQ, oI, kR, kV, i1, i2, r1, r5, r6, e1, e2]
