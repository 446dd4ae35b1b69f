/-! The class: read. -/
def rsS (S : gS) (β1 β2 κ0 W : Nat) : gS := uI (uI (uI (uI (uR (uR (uI (uI (uR (uR (uR S 5 (.ref β1)) 6 (.ref β2)) 7 (.ref W)) 8 (nI 0)) 4 (nI 0)) 9 (.ref κ0)) 10 (.ref κ0)) 12 (nI 0)) 13 (nI 0)) 14 (nI 0)) 15 (nI 701)
def wsE : xE := .inl (8, 6, fun _ => .null)
theorem c_restartP (d : Nat) {Q β1 β2 κ0 : Nat} {S : gS} {h : xH} (hb : below 4 Q h.2.2.1) (r1 : sR S 1 = .ref κ0) : xm (d + 1) 41 [.ref Q, .ref β1, .ref β2] (oh 4 h Q S) = some (none, oh 4 (xmk h wsE 6) Q (rsS S β1 β2 κ0 h.2.2.1)) := by
  have eX : ∀ S, xmk (oh 4 h Q S) (.inl (8, 6, fun _ => .null)) 6 = oh 4 (xmk h wsE 6) Q S := fun S => xmk_oh (hb.out (Nat.le_refl _))
  have hnx : ∀ S, (oh 4 h Q S).2.2.1 = h.2.2.1 := fun _ => rfl
  rw [E_41 _ _ _ _ _ rfl rfl rfl]
  unfold rsS
  have q1 : sR (uI (uI (uR (uR (uR S 5 (.ref β1)) 6 (.ref β2)) 7 (.ref h.2.2.1)) 8 (nI 0)) 4 (nI 0)) 1 = .ref κ0 := r1
  have q2 : sR (uR (uI (uI (uR (uR (uR S 5 (.ref β1)) 6 (.ref β2)) 7 (.ref h.2.2.1)) 8 (nI 0)) 4 (nI 0)) 9 (.ref κ0)) 1 = .ref κ0 := r1
  have st : xrun d 41 0 [(1, .ref Q), (1, .ref β1), (1, .ref β2)] [] (oh 4 h Q S) = xrun d 41 29 [(1, .ref Q), (1, .ref β1), (1, .ref β2)] [] (oh 4 (xmk h wsE 6) Q (uI (uI (uR (uR (uR S 5 (.ref β1)) 6 (.ref β2)) 7 (.ref h.2.2.1)) 8 (nI 0)) 4 (nI 0))) := by
    simp (disch := omega) only [q_41_0, q_41_1, q_41_2, q_41_5, q_41_6, q_41_7, q_41_10, q_41_11, q_41_13, q_41_16, q_41_19, q_41_20, q_41_21, q_41_24, q_41_25, q_41_26, og_4_5, op_4_5, og_4_6, op_4_6, og_4_7, op_4_7, og_4_8, op_4_8, og_4_4, op_4_4, og_4_1, og_4_9, op_4_9, og_4_10, op_4_10, og_4_12, op_4_12, og_4_13, op_4_13, og_4_14, op_4_14, og_4_15, op_4_15, o_is, o_ob, ofs_len4, ↓reduceIte, k_cr, k_ci, k_oR, k_oN, k_aR, k_aN, and_true, true_and, and_self, eq_self, Nat.reduceLT, Nat.reduceLeDiff, Nat.reduceEqDiff, Nat.reduceAdd, Nat.reduceMul, Bool.true_eq_false, Bool.false_eq_true, Nat.add_sub_cancel, Nat.not_lt_zero, Nat.zero_le, k_sub, k_sb1, k_r, k_n, k_ret, k_t1, k_t0, k_nr, k_nn, k_z0, k_z1, k_zb, x_okI, lit_nI, k_in, k_cl, k_lt, k_le, k_eq, k_neg, nI_add, nI_mul, k_clt, k_cgt, k_cle, k_cge, k_ceq, bI_0, k_sh8, ne_eq, Nat.add_eq_zero_iff, Nat.one_ne_zero, Nat.succ_ne_zero, and_false, false_and, not_false_eq_true, not_true_eq_false, ite_true, ite_false, if_true, if_false, hnx, eX, show (6 : Nat) ≤ 65536 from by decide]
  rw [st]
  generalize uI (uI (uR (uR (uR S 5 (.ref β1)) 6 (.ref β2)) 7 (.ref h.2.2.1)) 8 (nI 0)) 4 (nI 0) = S1 at *
  generalize xmk h wsE 6 = h1 at *
  simp (disch := omega) only [q_41_29, q_41_30, q_41_31, q_41_34, q_41_37, q_41_38, q_41_39, q_41_42, q_41_45, q_41_46, q_41_47, q_41_50, q_41_51, q_41_52, q_41_55, q_41_56, q_41_57, q_41_60, q_41_61, q_41_64, q_41_67, og_4_5, op_4_5, og_4_6, op_4_6, og_4_7, op_4_7, og_4_8, op_4_8, og_4_4, op_4_4, og_4_1, og_4_9, op_4_9, og_4_10, op_4_10, og_4_12, op_4_12, og_4_13, op_4_13, og_4_14, op_4_14, og_4_15, op_4_15, o_is, o_ob, ofs_len4, ↓reduceIte, k_cr, k_ci, k_oR, k_oN, k_aR, k_aN, and_true, true_and, and_self, eq_self, Nat.reduceLT, Nat.reduceLeDiff, Nat.reduceEqDiff, Nat.reduceAdd, Nat.reduceMul, Bool.true_eq_false, Bool.false_eq_true, Nat.add_sub_cancel, Nat.not_lt_zero, Nat.zero_le, k_sub, k_sb1, k_r, k_n, k_ret, k_t1, k_t0, k_nr, k_nn, k_z0, k_z1, k_zb, x_okI, lit_nI, k_in, k_cl, k_lt, k_le, k_eq, k_neg, nI_add, nI_mul, k_clt, k_cgt, k_cle, k_cge, k_ceq, bI_0, k_sh8, ne_eq, Nat.add_eq_zero_iff, Nat.one_ne_zero, Nat.succ_ne_zero, and_false, false_and, not_false_eq_true, not_true_eq_false, ite_true, ite_false, if_true, if_false, q1, q2]
theorem la_4 (h : xH) (Q : Nat) (S : gS) : laI (oh 4 h Q S) (Q + 9) 700 (sA S 2) ∧ laI (oh 4 h Q S) (Q + 10) 700 (sA S 3) := by
  have key : ∀ o k, 0 < o → o_at 4 o = some k → o_tag 4 k = 0 → o_len 4 k = 700 → laI (oh 4 h Q S) (Q + o) 700 (sA S k) := by
    intro o k ho hk ht hl
    show (match ocell 4 Q S (Q + o) with | some e => some e | none => h.1 (Q + o)) = _
    have e : ocell 4 Q S (Q + o) = some (.inl (0, 700, fun q => .int (sA S k q))) := by
      unfold ocell
      rw [if_neg (by omega), if_pos (by omega), Nat.add_sub_cancel_left, hk]
      show some (Sum.inl (o_tag 4 k, o_len 4 k, oarr 4 S k)) = _
      have eo : oarr 4 S k = fun q => .int (sA S k q) := by
        funext q
        unfold oarr
        rw [ht]
        rfl
      rw [ht, hl, eo]
    rw [e]
  exact ⟨key 9 2 (by omega) rfl rfl rfl, key 10 3 (by omega) rfl rfl rfl⟩
/-- a copy of the first n of an array of ints -/
def cpE (f : Nat → Int32) (n : Nat) : xE := .inl (0, n, fun q => .int (if q < n then f q else nI 0))
theorem n_copyOf (d : Nat) {Q a n : Nat} {f : Nat → Int32} {S : gS} {h : xH} (hb : below 4 Q h.2.2.1) (ha : a < h.2.2.1) (H : laI (oh 4 h Q S) a 700 f) (hn : n < 700) : xm (d + 2) 70 [.ref a, .int (nI n)] (oh 4 h Q S) = some (some (.ref h.2.2.1), oh 4 (xmk h (cpE f n) n) Q S) := by
  have eX : ∀ e m, xmk (oh 4 h Q S) e m = oh 4 (xmk h e m) Q S := fun e m => xmk_oh (hb.out (Nat.le_refl _))
  have hnx : (oh 4 h Q S).2.2.1 = h.2.2.1 := rfl
  have l1 : ∀ F : Nat → Nat → (Nat → Value) → Option xR, xar (oh 4 h Q S) a F = F 0 700 (fun q => .int (f q)) := fun F => H.ar F
  have H2 : laI (oh 4 (xmk h (.inl (0, n, fun _ => .int (nI 0))) n) Q S) a 700 f := by
    rw [← eX]
    exact (va_up_ne _ _ (show a ≠ h.2.2.1 by omega)).trans H
  have l2 : ∀ F : Nat → Nat → (Nat → Value) → Option xR, xar (oh 4 (xmk h (.inl (0, n, fun _ => .int (nI 0))) n) Q S) a F = F 0 700 (fun q => .int (f q)) := fun F => H2.ar F
  have H3 : laI (oh 4 (xmk h (.inl (0, n, fun _ => .int (nI 0))) n) Q S) h.2.2.1 n (fun _ => nI 0) := by
    refine (oh_same (hb.out (Nat.le_refl _))).trans ?_
    exact va_up_self _ _ _
  have cp : ∀ F : xH → Option xR, xcopy (oh 4 (xmk h (.inl (0, n, fun _ => .int (nI 0))) n) Q S) a h.2.2.1 (nI 0) (nI 0) (nI n) F = F (oh 4 (xmk h (cpE f n) n) Q S) := by
    intro F
    unfold xcopy xar
    rw [H2, H3]
    have hcl0 : (nI 0).toNatClampNeg = 0 := nI_clamp (by omega)
    have hcl : (nI n).toNatClampNeg = n := nI_clamp (by omega)
    have hg0 : ¬ nI 0 < 0 := by decide
    have hgn : ¬ nI n < 0 := by
      show ¬ nI n < nI 0
      rw [k_lt (by omega) (by omega)]
      omega
    have hall : (List.range n).all (fun i => fits .int (Value.int (f (0 + i)))) = true := by
      rw [List.all_eq_true]
      intro x _
      rfl
    have ev : va_cpy (fun q => Value.int (f q)) (fun _ => Value.int (nI 0)) 0 0 n = fun q => Value.int (if q < n then f q else nI 0) := by
      funext k
      unfold va_cpy
      by_cases c : k < n
      · rw [if_pos ⟨Nat.zero_le _, by omega⟩, if_pos c, Nat.zero_add, Nat.sub_zero]
      · rw [if_neg (by omega), if_neg c]
    have ep : ∀ e1 : xE, xput (xmk h (.inl (0, n, fun _ => .int (nI 0))) n) h.2.2.1 e1 = xmk h e1 n := by
      intro e1
      refine Prod.ext ?_ rfl
      funext q
      show va_up (va_up h.1 h.2.2.1 _) h.2.2.1 (some e1) q = va_up h.1 h.2.2.1 (some e1) q
      by_cases c : q = h.2.2.1
      · subst c
        rw [va_up_self, va_up_self]
      · rw [va_up_ne _ _ c, va_up_ne _ _ c, va_up_ne _ _ c]
    show (if 0 = x_tI ∧ 0 = x_tI ∧ ¬ nI 0 < 0 ∧ ¬ nI 0 < 0 ∧ ¬ nI n < 0 ∧ (nI 0).toNatClampNeg + (nI n).toNatClampNeg ≤ 700 ∧ (nI 0).toNatClampNeg + (nI n).toNatClampNeg ≤ n ∧ (List.range (nI n).toNatClampNeg).all (fun i => fits .int (Value.int (f ((nI 0).toNatClampNeg + i)))) = true then F (xput (oh 4 (xmk h (.inl (0, n, fun _ => .int (nI 0))) n) Q S) h.2.2.1 (.inl (x_tI, n, va_cpy (fun q => Value.int (f q)) (fun _ => Value.int (nI 0)) (nI 0).toNatClampNeg (nI 0).toNatClampNeg (nI n).toNatClampNeg))) else none) = _
    rw [hcl0, hcl, if_pos ⟨rfl, rfl, hg0, hg0, hgn, by omega, by omega, hall⟩, ev, xput_oh (hb.out (Nat.le_refl _)), ep]
    rfl
  rw [E_70 _ _ _ _ rfl]
  have n7 : ¬ n = 700 := by omega
  have m7 : ¬ 700 < n := by omega
  have m8 : n < 700 := hn
  have hcl : (nI n).toNatClampNeg = n := nI_clamp (by omega)
  have hge : ¬ nI n < nI 0 := by
    rw [k_lt (by omega) (by omega)]
    omega
  simp (disch := omega) only [q_70_0, q_70_1, q_70_2, q_70_3, q_70_6, q_70_13, q_70_14, q_70_15, q_70_17, q_70_18, q_70_19, q_70_20, q_70_21, q_70_22, q_70_23, q_70_24, q_70_25, q_70_28, q_70_31, q_70_32, o_is, o_ob, ↓reduceIte, k_cr, k_ci, k_oR, k_oN, k_aR, k_aN, and_true, true_and, and_self, eq_self, Nat.reduceLT, Nat.reduceLeDiff, Nat.reduceEqDiff, Nat.reduceAdd, Nat.reduceMul, Bool.true_eq_false, Bool.false_eq_true, Nat.add_sub_cancel, Nat.not_lt_zero, Nat.zero_le, k_sub, k_sb1, k_r, k_n, k_ret, k_t1, k_t0, k_nr, k_nn, k_z0, k_z1, k_zb, x_okI, lit_nI, k_in, k_cl, k_lt, k_le, k_eq, k_neg, nI_add, nI_mul, k_clt, k_cgt, k_cle, k_cge, k_ceq, bI_0, k_sh8, ne_eq, Nat.add_eq_zero_iff, Nat.one_ne_zero, Nat.succ_ne_zero, and_false, false_and, not_false_eq_true, not_true_eq_false, ite_true, ite_false, if_true, if_false, l1, xan0, of_nI, n7, m7, m8, hnx, eX, l2, cp, hcl, hge, show n ≤ 65536 from by omega]
/-! A RuleSet. -/
def RS0 (W C1 C2 β2 : Nat) (mc : Int32) : gS := (fun _ => mc, fun _ => 0, fun _ _ => nI 0, fun _ _ => 0, fun k => if k = 0 then .ref W else if k = 1 then .ref C1 else if k = 2 then .ref C2 else .ref β2, fun _ _ => .null)
def rsE : xE := .inr (10, [.null, .null, .null, .null, .int (nI 0)])
theorem mk_RS (g : xH) (ρ W C1 C2 β2 : Nat) (mc : Int32) (z1 z2 z3 z4 : xE) : xput (xput (xput (xput (xput g ρ z1) ρ z2) ρ z3) ρ z4) ρ (.inr (10, [.ref W, .ref C1, .ref C2, .ref β2, .int mc])) = oh 10 g ρ (RS0 W C1 C2 β2 mc) := by
  refine oh_mk rfl ?_ ?_ ?_
  · rw [kp_1]
    rfl
  · intro o k ho hk
    have h1 : o < 1 := o_at_lt hk
    omega
  · intro q hq
    have hne : q ≠ ρ := by
      intro z
      subst z
      unfold ofp at hq
      rw [decide_eq_true rfl] at hq
      cases hq
    rw [kp_2 _ _ _ _ hne, kp_2 _ _ _ _ hne, kp_2 _ _ _ _ hne, kp_2 _ _ _ _ hne, kp_2 _ _ _ _ hne]
theorem c_RuleSet (d : Nat) (g : xH) (ρ W C1 C2 β2 : Nat) (mc : Int32) (H : g.1 ρ = some rsE) : xm (d + 2) 71 [.ref ρ, .ref W, .ref C1, .ref C2, .ref β2, .int mc] g = some (none, oh 10 g ρ (RS0 W C1 C2 β2 mc)) := by
  rw [E_71 _ _ _ _ _ _ _ _ rfl rfl rfl rfl rfl]
  simp (disch := omega) only [q_71_0, q_71_1, q_71_4, q_71_5, q_71_6, q_71_9, q_71_10, q_71_11, q_71_14, q_71_15, q_71_16, q_71_19, q_71_20, q_71_22, q_71_25, q_71_26, q_71_28, q_71_31, ↓reduceIte, k_cr, k_ci, k_oR, k_oN, k_aR, k_aN, and_true, true_and, and_self, eq_self, Nat.reduceLT, Nat.reduceLeDiff, Nat.reduceEqDiff, Nat.reduceAdd, Nat.reduceMul, Bool.true_eq_false, Bool.false_eq_true, Nat.add_sub_cancel, Nat.not_lt_zero, Nat.zero_le, k_sub, k_sb1, k_r, k_n, k_ret, k_t1, k_t0, k_nr, k_nn, k_z0, k_z1, k_zb, x_okI, lit_nI, k_in, k_cl, k_lt, k_le, k_eq, k_neg, nI_add, nI_mul, k_clt, k_cgt, k_cle, k_cge, k_ceq, bI_0, k_sh8, ne_eq, Nat.add_eq_zero_iff, Nat.one_ne_zero, Nat.succ_ne_zero, and_false, false_and, not_false_eq_true, not_true_eq_false, ite_true, ite_false, if_true, if_false, kx_ob1, kx_ob3 H, List.length_cons, List.length_nil, List.set_cons_succ, List.set_cons_zero, x_okI, mk_RS]
theorem ofp_10 {ρ q : Nat} (h : q ≠ ρ) : ofp 10 ρ q = false := by
  cases hq : ofp 10 ρ q with
  | false => rfl
  | true =>
    exfalso
    unfold ofp at hq
    rw [Bool.or_eq_true, decide_eq_true_eq, Bool.and_eq_true, decide_eq_true_eq] at hq
    rcases hq with z | ⟨z1, z2⟩
    · exact h z
    · cases h3 : o_at 10 (q - ρ) with
      | none =>
        rw [h3] at z2
        cases z2
      | some k =>
        have h4 : q - ρ < 1 := o_at_lt h3
        omega
def mvK (h : xH) (lo hi : Nat) (v : Value) : Option (Int32 × mS) → Prop
  | none => v = .null
  | some q => ∃ a T, v = .ref a ∧ isB 3 h a T ∧ msT T q.1 q.2 ∧ lo ≤ a ∧ below 3 a hi
/-- a RuleSet that stands in lo .. hi: its Moves, its codes -/
def rsB (h : xH) (lo hi ρ β2 : Nat) (PM : pM) (C : List cT) (mc : Nat) : Prop := ∃ SR W C1 C2 w f1 f2, isB 10 h ρ SR ∧ sR SR 0 = .ref W ∧ sR SR 1 = .ref C1 ∧ sR SR 2 = .ref C2 ∧ sR SR 3 = .ref β2 ∧ sI SR 4 = nI mc ∧ laQ h W 6 w ∧ (∀ c, c < 6 → mvK h lo hi (w c) (PM c)) ∧ laI h C1 C.length f1 ∧ laI h C2 C.length f2 ∧ (∀ q c, C[q]? = some c → f1 q = c.1 ∧ f2 q = c.2) ∧ C.length < 700 ∧ lo ≤ ρ ∧ ρ < hi ∧ lo ≤ W ∧ W < hi ∧ lo ≤ C1 ∧ C1 < hi ∧ lo ≤ C2 ∧ C2 < hi
theorem rsB.kp {h h' : xH} {lo hi ρ β2 : Nat} {PM : pM} {C : List cT} {mc : Nat} (H : rsB h lo hi ρ β2 PM C mc) (hk : ∀ q, lo ≤ q → q < hi → h'.1 q = h.1 q) : rsB h' lo hi ρ β2 PM C mc := by
  obtain ⟨SR, W, C1, C2, w, f1, f2, a1, a2, a3, a4, a5, a6, a7, a8, a9, a10, a11, a12, b1, b2, b3, b4, b5, b6, b7, b8⟩ := H
  refine ⟨SR, W, C1, C2, w, f1, f2, a1.any (fun q hq => ?_), a2, a3, a4, a5, a6, (hk W b3 b4).trans a7, fun c hc => ?_, (hk C1 b5 b6).trans a9, (hk C2 b7 b8).trans a10, a11, a12, b1, b2, b3, b4, b5, b6, b7, b8⟩
  · have : q = ρ := by
      by_cases c : q = ρ
      · exact c
      · rw [ofp_10 c] at hq
        cases hq
    rw [this]
    exact hk ρ b1 b2
  · have := a8 c hc
    cases hq : PM c with
    | none =>
      rw [hq] at this
      exact this
    | some q =>
      rw [hq] at this
      obtain ⟨a, T, e1, e2, e3, e4, e5⟩ := this
      exact ⟨a, T, e1, e2.any (fun x hx => hk x (by have := ofp_ge hx; omega) (e5 x hx)), e3, e4, e5⟩
/-- the end of read, when the text is right -/
theorem rd_end (d : Nat) {Q P β1 β2 κ0 N n0 W kk k : Nat} {SP SB1 SB2 SK0 S : gS} {n1 n2 : Nat} {κ1 κ2 : Nat → Nat} {SK1 SK2 : Nat → gS} {m1 m2 : Nat → Nat} {p : pP} {h : xH} {PM : pM} {w : Nat → Value} {C : List cT} {l1 l3 l4 : Value} {l2 : Int32} (hs : hS Q P SP N p) (hW0 : n0 ≤ W) (r5 : sR S 5 = .ref β1) (r6 : sR S 6 = .ref β2) (r7 : sR S 7 = .ref W) (hK1 : ∀ c, c < n1 → kOK (SK1 c) (m1 c)) (hK2 : ∀ c, c < n2 → kOK (SK2 c) (m2 c)) (hE : pE Q P β1 β2 κ0 n0 SP SB1 SB2 SK0 n1 n2 κ1 κ2 SK1 SK2 h) (h0 : n0 ≤ h.2.2.1) (hW : laQ h W 6 w) (hWa : W < h.2.2.1) (hM : ∀ c, c < 6 → mvC h n0 W (w c) (PM c)) (hC : isC S C) (hC7 : C.length < 700) (h8 : sI S 8 = nI kk) (hQ10 : Q + 10 < n0) : ∃ h' g ρ, xrun (d + 3) 40 124 [(1, .ref Q), (1, l1), (1, .int l2), (1, l3), (1, l4), (1, .int (nI k))] [] (oh 4 h Q S) = some (some (.ref ρ), oh 4 h' Q S) ∧ rsB h' n0 h'.2.2.1 ρ β2 (pmF (bF n2 SK2) (fun c => eC (SK1 c) (m1 c)) (fun c => eC (SK2 c) (m2 c)) (kC m2) (fun t => sL (kT SK0 SK2 t) 1) (fun i => sJ (SK1 i) 0) n1 0 PM) C kk ∧ kp n0 h h' ∧ h'.2.1 = h.2.1 ∧ g ≤ 6 ∧ h'.2.2.1 = h.2.2.1 + 7 * g + 3 ∧ h'.2.2.2 = h.2.2.2 + 58 * g + 5 + 2 * C.length := by
  have n6 : n1 ≤ 6 := hE.2.1.2.1.2.1
  have a11 := hE.2.2.2.2.2.2.2.2.2.2.1
  obtain ⟨h1, w1, g, e1, e2, e3, e4, e5, e6, e7, e8⟩ := c_byName d hs hW0 r5 r6 r7 hK1 hK2 hE h0 hW hWa hM
  have hb1 : below 4 Q h1.2.2.1 := a11.le (by omega)
  have hX1 : xmk (oh 4 h1 Q S) rsE 5 = oh 4 (xmk h1 rsE 5) Q S := xmk_oh (hb1.out (Nat.le_refl _))
  have hb2 : below 4 Q (xmk h1 rsE 5).2.2.1 := a11.le (show n0 ≤ h1.2.2.1 + 1 by omega)
  have c1 := n_copyOf (d + 1) (S := S) (n := C.length) hb2 (show Q + 9 < h1.2.2.1 + 1 by omega) (la_4 _ _ _).1 hC7
  have hb3 : below 4 Q (xmk (xmk h1 rsE 5) (cpE (sA S 2) C.length) C.length).2.2.1 := a11.le (show n0 ≤ h1.2.2.1 + 1 + 1 by omega)
  have c2 := n_copyOf (d + 1) (S := S) (n := C.length) hb3 (show Q + 10 < h1.2.2.1 + 1 + 1 by omega) (la_4 _ _ _).2 hC7
  have c1 : xm (d + 3) 70 [.ref (Q + 9), .int (nI C.length)] (oh 4 (xmk h1 rsE 5) Q S) = some (some (.ref (h1.2.2.1 + 1)), oh 4 (xmk (xmk h1 rsE 5) (cpE (sA S 2) C.length) C.length) Q S) := c1
  have c2 : xm (d + 3) 70 [.ref (Q + 10), .int (nI C.length)] (oh 4 (xmk (xmk h1 rsE 5) (cpE (sA S 2) C.length) C.length) Q S) = some (some (.ref (h1.2.2.1 + 2)), oh 4 (xmk (xmk (xmk h1 rsE 5) (cpE (sA S 2) C.length) C.length) (cpE (sA S 3) C.length) C.length) Q S) := c2
  generalize hg4 : xmk (xmk (xmk h1 rsE 5) (cpE (sA S 2) C.length) C.length) (cpE (sA S 3) C.length) C.length = h4 at *
  have g1 : ∀ x, x < h1.2.2.1 → h4.1 x = h1.1 x := by
    intro x hx
    rw [← hg4]
    show va_up (va_up (va_up h1.1 h1.2.2.1 _) (h1.2.2.1 + 1) _) (h1.2.2.1 + 1 + 1) _ x = h1.1 x
    rw [va_up_ne _ _ (by omega), va_up_ne _ _ (by omega), va_up_ne _ _ (by omega)]
  have g2 : h4.1 h1.2.2.1 = some rsE := by
    rw [← hg4]
    show va_up (va_up (va_up h1.1 h1.2.2.1 _) (h1.2.2.1 + 1) _) (h1.2.2.1 + 1 + 1) _ h1.2.2.1 = _
    rw [va_up_ne _ _ (by omega), va_up_ne _ _ (by omega), va_up_self]
  have g3 : h4.1 (h1.2.2.1 + 1) = some (cpE (sA S 2) C.length) := by
    rw [← hg4]
    show va_up (va_up (va_up h1.1 h1.2.2.1 _) (h1.2.2.1 + 1) _) (h1.2.2.1 + 1 + 1) _ (h1.2.2.1 + 1) = _
    rw [va_up_ne _ _ (by omega), va_up_self]
  have g4 : h4.1 (h1.2.2.1 + 2) = some (cpE (sA S 3) C.length) := by
    rw [← hg4]
    exact va_up_self _ _ _
  have gn : h4.2.2.1 = h1.2.2.1 + 3 ∧ h4.2.2.2 = h1.2.2.2 + 5 + C.length + C.length ∧ h4.2.1 = h1.2.1 := by
    rw [← hg4]
    exact ⟨rfl, rfl, rfl⟩
  have hoQ : ofp 4 Q h1.2.2.1 = false := hb1.out (Nat.le_refl _)
  have c3 := c_RuleSet (d + 1) (oh 4 h4 Q S) h1.2.2.1 W (h1.2.2.1 + 1) (h1.2.2.1 + 2) β2 (nI kk) ((oh_same hoQ).trans g2)
  rw [oh_comm (hb1.dj (Nat.le_refl _)).symm] at c3
  have c3 : xm (d + 3) 71 [.ref h1.2.2.1, .ref W, .ref (h1.2.2.1 + 1), .ref (h1.2.2.1 + 2), .ref β2, .int (nI kk)] (oh 4 h4 Q S) = _ := c3
  refine ⟨oh 10 h4 h1.2.2.1 (RS0 W (h1.2.2.1 + 1) (h1.2.2.1 + 2) β2 (nI kk)), g, h1.2.2.1, ?_, ?_, ?_, gn.2.2.trans e5, by omega, ?_, ?_⟩
  · have hnx : (oh 4 h1 Q S).2.2.1 = h1.2.2.1 := rfl
    have hC4 := hC.1
    have hrs : (.inr (10, [.null, .null, .null, .null, .int (nI 0)]) : xE) = rsE := rfl
    simp (disch := omega) only [q_40_124, q_40_125, q_40_128, q_40_131, q_40_132, q_40_133, q_40_136, q_40_137, q_40_140, q_40_141, q_40_144, q_40_147, q_40_148, q_40_151, q_40_152, q_40_155, q_40_158, q_40_159, q_40_162, q_40_163, q_40_166, q_40_169, og_4_0, og_4_14, og_4_12, op_4_12, og_4_11, og_4_9, og_4_10, og_4_13, op_4_13, og_4_7, og_4_2, or_4_2, ow_4_2, og_4_4, og_4_3, or_4_3, ow_4_3, og_4_6, og_4_8, o_is, o_ob, ofs_len4, ↓reduceIte, k_cr, k_ci, k_oR, k_oN, k_aR, k_aN, and_true, true_and, and_self, eq_self, Nat.reduceLT, Nat.reduceLeDiff, Nat.reduceEqDiff, Nat.reduceAdd, Nat.reduceMul, Bool.true_eq_false, Bool.false_eq_true, Nat.add_sub_cancel, Nat.not_lt_zero, Nat.zero_le, k_sub, k_sb1, k_r, k_n, k_ret, k_t1, k_t0, k_nr, k_nn, k_z0, k_z1, k_zb, x_okI, lit_nI, k_in, k_cl, k_lt, k_le, k_eq, k_neg, nI_add, nI_mul, k_clt, k_cgt, k_cle, k_cge, k_ceq, bI_0, k_sh8, ne_eq, Nat.add_eq_zero_iff, Nat.one_ne_zero, Nat.succ_ne_zero, and_false, false_and, not_false_eq_true, not_true_eq_false, ite_true, ite_false, if_true, if_false, e1, hnx, hrs, hX1, r7, r6, hC4, c1, c2, h8, c3]
  · have keep : ∀ x, x < h1.2.2.1 → (oh 10 h4 h1.2.2.1 (RS0 W (h1.2.2.1 + 1) (h1.2.2.1 + 2) β2 (nI kk))).1 x = h1.1 x := fun x hx => by
      rw [oh_same (ofp_10 (by omega))]
      exact g1 x hx
    refine ⟨_, W, h1.2.2.1 + 1, h1.2.2.1 + 2, w1, (fun q => if q < C.length then sA S 2 q else nI 0), (fun q => if q < C.length then sA S 3 q else nI 0), isB_oh _ _ _ _, rfl, rfl, rfl, rfl, rfl, (keep W (by omega)).trans e2, fun c hc => ?_, ?_, ?_, fun q c hq => ?_, hC7, by omega, ?_, hW0, ?_, by omega, ?_, by omega, ?_⟩
    · have := e3 c hc
      cases hq : pmF (bF n2 SK2) (fun c => eC (SK1 c) (m1 c)) (fun c => eC (SK2 c) (m2 c)) (kC m2) (fun t => sL (kT SK0 SK2 t) 1) (fun i => sJ (SK1 i) 0) n1 0 PM c with
      | none =>
        rw [hq] at this
        exact this
      | some q =>
        rw [hq] at this
        obtain ⟨a, T, x1, x2, x3, x4, x5, x6⟩ := this
        exact ⟨a, T, x1, x2.any (fun x hx => keep x (x5 x hx)), x3, x4, x5.le (show h1.2.2.1 ≤ h4.2.2.1 by omega)⟩
    · refine (oh_same (ofp_10 (by omega))).trans ?_
      exact g3
    · refine (oh_same (ofp_10 (by omega))).trans ?_
      exact g4
    · have hl : q < C.length := by
        by_cases c : q < C.length
        · exact c
        · rw [List.getElem?_eq_none (by omega)] at hq
          cases hq
      have := hC.2 q c hq
      show (if q < C.length then sA S 2 q else nI 0) = c.1 ∧ (if q < C.length then sA S 3 q else nI 0) = c.2
      rw [if_pos hl, if_pos hl]
      exact this
    · show h1.2.2.1 < h4.2.2.1
      omega
    · show W < h4.2.2.1
      omega
    · show h1.2.2.1 + 1 < h4.2.2.1
      omega
    · show h1.2.2.1 + 2 < h4.2.2.1
      omega
  · intro x hx
    rw [oh_same (ofp_10 (by omega)), g1 x (by omega)]
    exact e4 x hx
  · show h4.2.2.1 = _
    omega
  · show h4.2.2.2 = _
    omega
/-! read, whole. -/
theorem sg_47 {c : Int32} (h : isSg c = true) : ¬ (c = nI 4 ∨ c = nI 5 ∨ c = nI 6 ∨ c = nI 7) := by
  rintro (e | e | e | e) <;> subst e <;> revert h <;> decide
theorem pcF_47 (t : Nat → Int32) (n p : Nat) : ¬ ((pcF t n p).2.2.2 = nI 4 ∨ (pcF t n p).2.2.2 = nI 5 ∨ (pcF t n p).2.2.2 = nI 6 ∨ (pcF t n p).2.2.2 = nI 7) := by
  unfold pcF
  generalize skF t (n - p) p = q
  by_cases h1 : q = n
  · rw [if_pos h1]
    show ¬ (nI 0 = nI 4 ∨ nI 0 = nI 5 ∨ nI 0 = nI 6 ∨ nI 0 = nI 7)
    decide
  · rw [if_neg h1]
    by_cases h2 : isLt (t q) = true
    · rw [if_pos h2]
      have key : ∀ x : Int32, (x = nI 3 ∨ x = nI 1) → ¬ (x = nI 4 ∨ x = nI 5 ∨ x = nI 6 ∨ x = nI 7) := by
        rintro x (rfl | rfl) <;> decide
      refine key _ ?_
      show (if 8 < (wdF t (n - q) q 0 0).2.2 then nI 3 else nI 1) = nI 3 ∨ (if 8 < (wdF t (n - q) q 0 0).2.2 then nI 3 else nI 1) = nI 1
      split
      · exact Or.inl rfl
      · exact Or.inr rfl
    · rw [if_neg h2]
      by_cases h3 : isDg (t q) = true
      · rw [if_pos h3]
        have key : ∀ x : Int32, (x = nI 3 ∨ x = nI 2) → ¬ (x = nI 4 ∨ x = nI 5 ∨ x = nI 6 ∨ x = nI 7) := by
          rintro x (rfl | rfl) <;> decide
        refine key _ ?_
        show (if 2147483647 < (nuF t (n - q) q 0).2 then nI 3 else nI 2) = nI 3 ∨ (if 2147483647 < (nuF t (n - q) q 0).2 then nI 3 else nI 2) = nI 2
        split
        · exact Or.inl rfl
        · exact Or.inr rfl
      · rw [if_neg h3]
        show ¬ ((if isSg (t q) = true then t q else nI 3) = nI 4 ∨ (if isSg (t q) = true then t q else nI 3) = nI 5 ∨ (if isSg (t q) = true then t q else nI 3) = nI 6 ∨ (if isSg (t q) = true then t q else nI 3) = nI 7)
        by_cases h4 : isSg (t q) = true
        · rw [if_pos h4]
          exact sg_47 h4
        · rw [if_neg h4]
          decide
theorem pcs_47 (t : Nat → Int32) (n i : Nat) : ¬ ((pcs t n).1 i = nI 4 ∨ (pcs t n).1 i = nI 5 ∨ (pcs t n).1 i = nI 6 ∨ (pcs t n).1 i = nI 7) := pcF_47 t n (psF t n i)
/-- what stays of the parser and of the heap; n: how long the text is -/
def rdF (P n : Nat) (S S' : gS) (h h' : xH) : Prop := sR S' 0 = sR S 0 ∧ sR S' 1 = sR S 1 ∧ (∀ x, x < h.2.2.1 → ofp 0 P x = false → h'.1 x = h.1 x) ∧ h'.2.1 = h.2.1 ∧ h.2.2.1 ≤ h'.2.2.1 ∧ h'.2.2.1 ≤ h.2.2.1 + 60 + 3 * n ∧ h'.2.2.2 ≤ h.2.2.2 + 430 + 22 * n
/-- the answer null, and what wrongPlace() will tell -/
def rdZ (D Q X P β1 β2 n a : Nat) (S : gS) (h : xH) : Prop := ∃ S' h' SP', xm D 40 [.ref Q, .ref (X + 3), .int (nI n), .ref β1, .ref β2] (oh 4 h Q S) = some (some .null, oh 4 h' Q S') ∧ rdF P n S S' h h' ∧ isB 0 h' P SP' ∧ ∀ d, xm (d + 2) 68 [.ref Q] (oh 4 h' Q S') = some (some (.int (nI a)), oh 4 h' Q S')
def rdR (D Q X P β1 β2 n : Nat) (S : gS) (h : xH) (p : pP) (z : List mT → Nat) (PM : List mT → pM) (CC : List mT → List cT) : Nat ⊕ List mT → Prop
  | .inl q => rdZ D Q X P β1 β2 n (p.2.1 q) S h
  | .inr L => (z L ≤ 700 → rdZ D Q X P β1 β2 n (z L) S h) ∧ (¬ z L ≤ 700 → ∃ S' h' SP' ρ, xm D 40 [.ref Q, .ref (X + 3), .int (nI n), .ref β1, .ref β2] (oh 4 h Q S) = some (some (.ref ρ), oh 4 h' Q S') ∧ rdF P n S S' h h' ∧ isB 0 h' P SP' ∧ rsB h' h.2.2.1 h'.2.2.1 ρ β2 (PM L) (CC L) L.length)
theorem c_read (d : Nat) {Q X P β1 β2 κ0 n : Nat} {SX SP SB1 SB2 SK0 S : gS} {n1 n2 : Nat} {κ1 κ2 : Nat → Nat} {SK1 SK2 : Nat → gS} {m1 m2 : Nat → Nat} {tr : Nat → Int32} {h : xH} (hX : isB 8 h X SX) (hn : n ≤ 700) (ht : txE (sA SX 2) tr n) (r0 : sR S 0 = .ref P) (r1 : sR S 1 = .ref κ0) (hE : pE Q P β1 β2 κ0 h.2.2.1 SP SB1 SB2 SK0 n1 n2 κ1 κ2 SK1 SK2 h) (hK1 : ∀ c, c < n1 → kOK (SK1 c) (m1 c)) (hK2 : ∀ c, c < n2 → kOK (SK2 c) (m2 c)) (dQX : dj 4 Q 8 X) (bX : below 8 X h.2.2.1) (dPX : dj 0 P 8 X) (dQP : dj 4 Q 0 P) (dP1 : dj 0 P 2 β1) (dP2 : dj 0 P 2 β2) (dP0 : dj 0 P 1 κ0) (dPk1 : ∀ i, i < n1 → dj 0 P 1 (κ1 i)) (dPk2 : ∀ i, i < n2 → dj 0 P 1 (κ2 i)) (hQ10 : Q + 10 < h.2.2.1) : rdR (d + 68) Q X P β1 β2 n S h (pcs tr n) (fun L => mnF (cmosB (bF n1 SK1) (bF n2 SK2) (fun c => eC (SK1 c) (m1 c)) (fun c => eC (SK2 c) (m2 c)) (eC SK0 0) (kC m2) (fun _ => false) 0 L) 701) (fun L => pmF (bF n2 SK2) (fun c => eC (SK1 c) (m1 c)) (fun c => eC (SK2 c) (m2 c)) (kC m2) (fun t => sL (kT SK0 SK2 t) 1) (fun i => sJ (SK1 i) 0) n1 0 (pmL (bF n1 SK1) (bF n2 SK2) (fun c => eC (SK1 c) (m1 c)) (fun c => eC (SK2 c) (m2 c)) (eC SK0 0) (kC m2) (fun t => sL (kT SK0 SK2 t) 1) (fun _ => none) 0 L)) (fun L => L.flatMap (moCod (bF n1 SK1) (fun c => eC (SK1 c) (m1 c)) (eC SK0 0))) (teF (pcs tr n)) := by
  suffices main : ∀ p, p = pcs tr n → rdR (d + 68) Q X P β1 β2 n S h p (fun L => mnF (cmosB (bF n1 SK1) (bF n2 SK2) (fun c => eC (SK1 c) (m1 c)) (fun c => eC (SK2 c) (m2 c)) (eC SK0 0) (kC m2) (fun _ => false) 0 L) 701) (fun L => pmF (bF n2 SK2) (fun c => eC (SK1 c) (m1 c)) (fun c => eC (SK2 c) (m2 c)) (kC m2) (fun t => sL (kT SK0 SK2 t) 1) (fun i => sJ (SK1 i) 0) n1 0 (pmL (bF n1 SK1) (bF n2 SK2) (fun c => eC (SK1 c) (m1 c)) (fun c => eC (SK2 c) (m2 c)) (eC SK0 0) (kC m2) (fun t => sL (kT SK0 SK2 t) 1) (fun _ => none) 0 L)) (fun L => L.flatMap (moCod (bF n1 SK1) (fun c => eC (SK1 c) (m1 c)) (eC SK0 0))) (teF p) from main _ rfl
  intro p hpe
  have hE0 := hE
  obtain ⟨a1, a2, a3, a4, a5, a6, a7, a8, a9, a10, a11, a12, a13⟩ := hE
  -- restart
  have e1 : xm (d + 67) 41 [.ref Q, .ref β1, .ref β2] (oh 4 h Q S) = _ := c_restartP (d + 66) a11 r1
  have kp1 : kp h.2.2.1 h (xmk h wsE 6) := fun q hq => va_up_ne _ _ (by omega)
  have hE1 := hE0.kp kp1
  -- split
  have HX : isB 8 (oh 4 (xmk h wsE 6) Q (rsS S β1 β2 κ0 h.2.2.1)) X SX := (hX.kp kp1 bX).frame dQX
  have HP : isB 0 (oh 4 (xmk h wsE 6) Q (rsS S β1 β2 κ0 h.2.2.1)) P SP := hE1.1.frame dQP
  have e2 := c_split (d + 64) _ X P n SX SP HX HP dPX hn
  obtain ⟨N, N1, N2, N3, N4⟩ := c_pieces ht (uI (uI SP 3 (nI 0)) 4 (nI 0))
  rw [oh_comm dQP.symm] at e2
  have e2 : xm (d + 67) 42 [.ref P, .ref (X + 3), .int (nI n)] (oh 4 (xmk h wsE 6) Q (rsS S β1 β2 κ0 h.2.2.1)) = _ := e2
  generalize hSP : spF (sA SX 2) n n 0 0 (uI (uI SP 3 (nI 0)) 4 (nI 0)) = SP2 at *
  have hNn : N ≤ n := by
    obtain ⟨N', q1, q2, q3, q4⟩ := pcs_N tr n
    by_cases c : N ≤ N'
    · omega
    · exact absurd q2 (N2 N' (by omega))
  rw [← hpe] at N1 N2 N3
  have hNN : nN p N := ⟨by omega, N1, N2⟩
  have hu : ∀ i, ¬ p.1 i = nI 0 → p.2.1 i < p.2.1 (i + 1) := by
    rw [hpe]
    exact fun i hi => pcs_up tr n i hi
  have hpl : ∀ i, p.2.1 i ≤ 700 := by
    rw [hpe]
    exact fun i => Nat.le_trans (pcs_A tr n i) hn
  have hk47 : ∀ i, ¬ (p.1 i = nI 4 ∨ p.1 i = nI 5 ∨ p.1 i = nI 6 ∨ p.1 i = nI 7) := by
    rw [hpe]
    exact fun i => pcs_47 tr n i
  have hs : hS Q P SP2 N p := ⟨dQP, N3, hNN, hk47, hpl⟩
  -- the heap behind it
  generalize hh2 : oh 0 (xmk h wsE 6) P SP2 = h2 at *
  have n2h : h2.2.2.1 = h.2.2.1 + 1 ∧ h2.2.2.2 = h.2.2.2 + 6 ∧ h2.2.1 = h.2.1 := by
    rw [← hh2]
    exact ⟨rfl, rfl, rfl⟩
  have out2 : ∀ x, x < h.2.2.1 → ofp 0 P x = false → h2.1 x = h.1 x := fun x hx ho => by
    rw [← hh2, oh_same ho]
    exact kp1 x hx
  have fB : ∀ {ci b : Nat} {SB : gS}, isB ci (xmk h wsE 6) b SB → dj 0 P ci b → isB ci h2 b SB := fun H hd => by
    rw [← hh2]
    exact H.frame hd
  have hE2 : pE Q P β1 β2 κ0 h.2.2.1 SP2 SB1 SB2 SK0 n1 n2 κ1 κ2 SK1 SK2 h2 := by
    obtain ⟨b1, b2, b3, b4, _⟩ := hE1
    refine ⟨by rw [← hh2]; exact isB_oh _ _ _ _, ⟨fB b2.1 dP1, ⟨b2.2.1.1, b2.2.1.2.1, fun i hi => ⟨(b2.2.1.2.2 i hi).1, fB (b2.2.1.2.2 i hi).2 (dPk1 i hi)⟩⟩, b2.2.2⟩, ⟨fB b3.1 dP2, ⟨b3.2.1.1, b3.2.1.2.1, fun i hi => ⟨(b3.2.1.2.2 i hi).1, fB (b3.2.1.2.2 i hi).2 (dPk2 i hi)⟩⟩, b3.2.2⟩, fB b4 dP0, a5, a6, a7, a8, a9, a10, a11, a12, a13⟩
  have hW : laQ h2 h.2.2.1 6 (fun _ => .null) := by
    rw [← hh2]
    refine (oh_same (a5.out (Nat.le_refl _))).trans ?_
    exact va_up_self _ _ _
  -- the loop
  have hp : pB (rsS S β1 β2 κ0 h.2.2.1) κ0 β1 β2 := ⟨r1, rfl, rfl⟩
  have hv : hV P (rsS S β1 β2 κ0 h.2.2.1) (rsS S β1 β2 κ0 h.2.2.1) 0 701 [] := ⟨r0, rfl, rfl, rfl, Nat.le_refl _, ⟨rfl, fun q c hq => by cases hq⟩, fr.rfl⟩
  have hT := rd_text d (l1 := .ref (X + 3)) (l2 := nI n) (l3 := .ref β1) (l4 := .ref β2) hs hu N4 (Nat.le_refl _) hp rfl hK1 hK2 701 0 0 0 701 (rsS S β1 β2 κ0 h.2.2.1) h2 [] (fun _ => none) (fun _ => .null) hE2 (by omega) hW (by omega) (fun c hc => rfl) hv rfl rfl (Nat.le_refl _) (Or.inl rfl) (Nat.zero_le _) (Nat.le_refl _) (by omega)
  have start : ∀ r, xrun (d + 67) 40 19 [(1, .ref Q), (1, .ref (X + 3)), (1, .int (nI n)), (1, .ref β1), (1, .ref β2), (1, .int (nI 0))] [] (oh 4 h2 Q (rsS S β1 β2 κ0 h.2.2.1)) = r → xm (d + 68) 40 [.ref Q, .ref (X + 3), .int (nI n), .ref β1, .ref β2] (oh 4 h Q S) = r := by
    intro r hr
    have e0 : xm (d + 68) 40 [.ref Q, .ref (X + 3), .int (nI n), .ref β1, .ref β2] (oh 4 h Q S) = _ := E_40 (d + 67) (oh 4 h Q S) (.ref Q) (.ref (X + 3)) (nI n) (.ref β1) (.ref β2) rfl rfl rfl rfl
    rw [e0, ← hr]
    have rr0 : sR (rsS S β1 β2 κ0 h.2.2.1) 0 = .ref P := r0
    have iP : ∀ {α : Type} (f : Option α), xis (oh 4 (xmk h wsE 6) Q (rsS S β1 β2 κ0 h.2.2.1)) P 0 f = f := fun f => h_is HP f
    simp (disch := omega) only [q_40_0, q_40_1, q_40_2, q_40_4, q_40_7, q_40_8, q_40_11, q_40_12, q_40_13, q_40_16, q_40_17, og_4_0, o_is, ↓reduceIte, k_cr, k_ci, k_oR, k_oN, k_aR, k_aN, and_true, true_and, and_self, eq_self, Nat.reduceLT, Nat.reduceLeDiff, Nat.reduceEqDiff, Nat.reduceAdd, Nat.reduceMul, Bool.true_eq_false, Bool.false_eq_true, Nat.add_sub_cancel, Nat.not_lt_zero, Nat.zero_le, k_sub, k_sb1, k_r, k_n, k_ret, k_t1, k_t0, k_nr, k_nn, k_z0, k_z1, k_zb, x_okI, lit_nI, k_in, k_cl, k_lt, k_le, k_eq, k_neg, nI_add, nI_mul, k_clt, k_cgt, k_cle, k_cge, k_ceq, bI_0, k_sh8, ne_eq, Nat.add_eq_zero_iff, Nat.one_ne_zero, Nat.succ_ne_zero, and_false, false_and, not_false_eq_true, not_true_eq_false, ite_true, ite_false, if_true, if_false, e1, rr0, iP, e2]
  have fS : ∀ {S' : gS}, fr pHd (rsS S β1 β2 κ0 h.2.2.1) S' → sR S' 0 = sR S 0 ∧ sR S' 1 = sR S 1 := fun f => ⟨(f 0 (by decide)).2.2.2.2.1, (f 1 (by decide)).2.2.2.2.1⟩
  have keep : ∀ {h' : xH}, kp h.2.2.1 h2 h' → ∀ x, x < h.2.2.1 → ofp 0 P x = false → h'.1 x = h.1 x := fun k x hx ho => (k x hx).trans (out2 x hx ho)
  have wrong : ∀ (S' : gS) (h' : xH) (k' a : Nat) (b : Bool) (i z : Nat), isB 0 h' P SP2 → sR S' 0 = .ref P → sI S' 13 = nI i → i ≤ N → sI S' 14 = bI b → sI S' 15 = nI z → z ≤ 701 → (if b = true then p.2.1 i = a else z = a ∧ a ≤ 700) → (∀ d, xm (d + 2) 68 [.ref Q] (oh 4 h' Q S') = some (some (.int (nI a)), oh 4 h' Q S')) ∧ xrun (d + 67) 40 114 [(1, .ref Q), (1, .ref (X + 3)), (1, .int (nI n)), (1, .ref β1), (1, .ref β2), (1, .int (nI k'))] [] (oh 4 h' Q S') = some (some .null, oh 4 h' Q S') := by
    intro S' h' k' a b i z HP' q0 q13 hi q14 q15 hz hab
    have hw : ∀ d, xm (d + 2) 68 [.ref Q] (oh 4 h' Q S') = some (some (.int (nI a)), oh 4 h' Q S') := by
      intro d
      have e := c_wrongPlace d (oh 4 h' Q S') Q P i S' SP2 b z (isB_oh _ _ _ _) q0 (HP'.frame dQP) q13 (by omega) q14 q15 hz
      cases b with
      | true =>
        rw [if_pos rfl] at e hab
        rw [e, (N3 i hi).2.1, hab]
      | false =>
        rw [if_neg (by decide)] at e hab
        rw [e, if_pos (by omega), hab.1]
    refine ⟨hw, ?_⟩
    have ha : a ≤ 700 := by
      cases b with
      | true =>
        rw [if_pos rfl] at hab
        have := hpl i
        omega
      | false =>
        rw [if_neg (by decide)] at hab
        exact hab.2
    have ew : xm (d + 67) 68 [.ref Q] (oh 4 h' Q S') = _ := hw (d + 65)
    have hne : ¬ nI a = -nI 1 := by
      rw [k_neg (by omega)]
      exact fun q => q
    simp (disch := omega) only [q_40_114, q_40_115, q_40_118, q_40_119, q_40_122, q_40_123, o_is, ↓reduceIte, k_cr, k_ci, k_oR, k_oN, k_aR, k_aN, and_true, true_and, and_self, eq_self, Nat.reduceLT, Nat.reduceLeDiff, Nat.reduceEqDiff, Nat.reduceAdd, Nat.reduceMul, Bool.true_eq_false, Bool.false_eq_true, Nat.add_sub_cancel, Nat.not_lt_zero, Nat.zero_le, k_sub, k_sb1, k_r, k_n, k_ret, k_t1, k_t0, k_nr, k_nn, k_z0, k_z1, k_zb, x_okI, lit_nI, k_in, k_cl, k_lt, k_le, k_eq, k_neg, nI_add, nI_mul, k_clt, k_cgt, k_cle, k_cge, k_ceq, bI_0, k_sh8, ne_eq, Nat.add_eq_zero_iff, Nat.one_ne_zero, Nat.succ_ne_zero, and_false, false_and, not_false_eq_true, not_true_eq_false, ite_true, ite_false, if_true, if_false, ew, hne]
  have hgt : teF p = txF p 701 0 := rfl
  rw [hgt]
  cases htx : txF p 701 0 with
  | inl q =>
    rw [htx] at hT
    obtain ⟨hq, S', h', k', g, t1, t2, t3, t4, t5, t6, t7⟩ := hT
    obtain ⟨z, z1, z2⟩ := t2.2.2.2.1
    have HP' : isB 0 h' P SP2 := hE2.1.kp t3 a5
    obtain ⟨w1, w2⟩ := wrong S' h' k' (p.2.1 q) true q z HP' ((fS t2.2.2.2.2).1.trans r0) t2.2.1 hq t2.2.2.1 z1 z2 rfl
    refine ⟨S', h', SP2, start _ (t1.trans w2), ⟨(fS t2.2.2.2.2).1, (fS t2.2.2.2.2).2, keep t3, t4.trans n2h.2.2, by omega, by omega, by omega⟩, HP', w1⟩
  | inr L =>
    rw [htx] at hT
    obtain ⟨S', h', k', w', j', t1, t2, t3, t4, t5, t6, t7, t8, t9, t10, t11, t12⟩ := hT
    have HP' : isB 0 h' P SP2 := hE2.1.kp t7 a5
    have hU : uP (fun _ => none) = fun _ => false := rfl
    rw [hU] at t3
    have t3 : hV P (rsS S β1 β2 κ0 h.2.2.1) S' j' (mnF (cmosB (bF n1 SK1) (bF n2 SK2) (fun c => eC (SK1 c) (m1 c)) (fun c => eC (SK2 c) (m2 c)) (eC SK0 0) (kC m2) (fun _ => false) 0 L) 701) (L.flatMap (moCod (bF n1 SK1) (fun c => eC (SK1 c) (m1 c)) (eC SK0 0))) := t3
    have t12 : L.flatMap (moCod (bF n1 SK1) (fun c => eC (SK1 c) (m1 c)) (eC SK0 0)) = [] ∨ (L.flatMap (moCod (bF n1 SK1) (fun c => eC (SK1 c) (m1 c)) (eC SK0 0))).length + 5 ≤ N := t12
    refine ⟨fun hz => ?_, fun hz => ?_⟩
    · obtain ⟨w1, w2⟩ := wrong S' h' k' _ false j' _ HP' ((fS t3.2.2.2.2.2.2).1.trans r0) t3.2.1 t2 t3.2.2.1 t3.2.2.2.1 t3.2.2.2.2.1 ⟨rfl, hz⟩
      exact ⟨S', h', SP2, start _ (t1.trans w2), ⟨(fS t3.2.2.2.2.2.2).1, (fS t3.2.2.2.2.2.2).2, keep t7, t8.trans n2h.2.2, by omega, by omega, by omega⟩, HP', w1⟩
    · have hCl : (L.flatMap (moCod (bF n1 SK1) (fun c => eC (SK1 c) (m1 c)) (eC SK0 0))).length < 700 ∧ (L.flatMap (moCod (bF n1 SK1) (fun c => eC (SK1 c) (m1 c)) (eC SK0 0))).length ≤ n := by
        rcases t12 with q | q
        · rw [q]
          exact ⟨by decide, Nat.zero_le _⟩
        · omega
      obtain ⟨b1, b5, b6⟩ := t3.b hp
      have hkk : sI S' 8 = nI L.length := by
        rw [t4, Nat.zero_add]
      obtain ⟨h3, g, ρ, u1, u2, u3, u4, u5, u6, u7⟩ := rd_end (d + 64) (k := k') (l1 := .ref (X + 3)) (l2 := nI n) (l3 := .ref β1) (l4 := .ref β2) hs (Nat.le_refl _) b5 b6 t3.r7 hK1 hK2 (hE2.kp t7) (by omega) t5 (by omega) t6 t3.2.2.2.2.2.1 hCl.1 hkk hQ10
      have u1 : xrun (d + 67) 40 124 [(1, .ref Q), (1, .ref (X + 3)), (1, .int (nI n)), (1, .ref β1), (1, .ref β2), (1, .int (nI k'))] [] (oh 4 h' Q S') = _ := u1
      have ew : xm (d + 67) 68 [.ref Q] (oh 4 h' Q S') = some (some (.int (-nI 1)), oh 4 h' Q S') := by
        have e := c_wrongPlace (d + 65) (oh 4 h' Q S') Q P j' S' SP2 false _ (isB_oh _ _ _ _) ((fS t3.2.2.2.2.2.2).1.trans r0) (HP'.frame dQP) t3.2.1 (by have := hNN.1; omega) t3.2.2.1 t3.2.2.2.1 t3.2.2.2.2.1
        rw [if_neg (by decide), if_neg hz] at e
        exact e
      refine ⟨S', h3, SP2, ρ, start _ (t1.trans ?_), ⟨(fS t3.2.2.2.2.2.2).1, (fS t3.2.2.2.2.2.2).2, keep (t7.trans u3), u4.trans (t8.trans n2h.2.2), by omega, by omega, by omega⟩, HP'.kp u3 a5, u2⟩
      rw [← u1]
      simp (disch := omega) only [q_40_114, q_40_115, q_40_118, q_40_119, o_is, ↓reduceIte, k_cr, k_ci, k_oR, k_oN, k_aR, k_aN, and_true, true_and, and_self, eq_self, Nat.reduceLT, Nat.reduceLeDiff, Nat.reduceEqDiff, Nat.reduceAdd, Nat.reduceMul, Bool.true_eq_false, Bool.false_eq_true, Nat.add_sub_cancel, Nat.not_lt_zero, Nat.zero_le, k_sub, k_sb1, k_r, k_n, k_ret, k_t1, k_t0, k_nr, k_nn, k_z0, k_z1, k_zb, x_okI, lit_nI, k_in, k_cl, k_lt, k_le, k_eq, k_neg, nI_add, nI_mul, k_clt, k_cgt, k_cle, k_cge, k_ceq, bI_0, k_sh8, ne_eq, Nat.add_eq_zero_iff, Nat.one_ne_zero, Nat.succ_ne_zero, and_false, false_and, not_false_eq_true, not_true_eq_false, ite_true, ite_false, if_true, if_false, ew]
