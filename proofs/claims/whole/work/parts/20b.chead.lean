/-! The class: readHead. -/
/-- a MOVE as far as its RULES: whether it is a drop, and where it ends -/
def hdF (p : pP) (i : Nat) : Nat ⊕ (Bool × Nat) :=
  if pWd p i 1685221232 = true then (if pNm p (i + 1) = true then (if p.1 (i + 2) = nI 59 then .inr (true, i + 3) else .inl (i + 2)) else .inl (i + 1))
  else if pWd p i 1836021349 = true then (if pNm p (i + 1) = true then (if pWd p (i + 2) 29807 = true then (if pNm p (i + 3) = true then (if p.1 (i + 4) = nI 123 then .inr (false, i + 5) else .inl (i + 4)) else .inl (i + 3)) else .inl (i + 2)) else .inl (i + 1))
  else .inl i
def frB (U : Nat → Bool) : Option Nat → Bool
  | none => false
  | some c => !U c
/-- the Moves of the CLASSES behind it -/
def wN (U : Nat → Bool) (w : Nat → Value) (a : Nat) : Option Nat → Nat → Value
  | none => w
  | some c => if U c = true then w else updV w c (.ref a)
def mvE : xE := .inr (3, [.int (nI 0), .null, .null, .null, .null, .null, .null])
/-- the heap with a new Move -/
def mvH (h : xH) (t : Int32) : xH := oh 3 (grow (xmk h mvE 7) 6 51) h.2.2.1 (mvS t 8)
def mvX (U : Nat → Bool) (w : Nat → Value) (W a : Nat) (h : xH) : Option Nat → xH
  | none => h
  | some c => if U c = true then h else xput h W (.inl (8, 6, updV w c (.ref a)))
theorem mvH_kp (h : xH) (t : Int32) : kp h.2.2.1 h (mvH h t) := by
  intro q hq
  show (oh 3 (grow (xmk h mvE 7) 6 51) h.2.2.1 (mvS t 8)).1 q = h.1 q
  rw [oh_same (ofp_lo hq)]
  show va_up h.1 h.2.2.1 (some mvE) q = h.1 q
  exact va_up_ne _ _ (by omega)
/-- new Move(t) beside the parser -/
theorem n_Move (d : Nat) {Q : Nat} {h : xH} {S : gS} {t : Int32} (hb : below 4 Q h.2.2.1) : xm (d + 2) 5 [.ref h.2.2.1, .int t] (oh 4 (xmk h mvE 7) Q S) = some (none, oh 4 (mvH h t) Q S) := by
  have e := c_Move d (oh 4 (xmk h mvE 7) Q S) h.2.2.1 t (by
    rw [oh_same (hb.out (Nat.le_refl _))]
    exact va_up_self _ _ _) rfl
  rw [e, grow_oh]
  show some (none, oh 3 (oh 4 (grow (xmk h mvE 7) 6 51) Q S) h.2.2.1 (mvS t 8)) = some (none, oh 4 (oh 3 (grow (xmk h mvE 7) 6 51) h.2.2.1 (mvS t 8)) Q S)
  rw [oh_comm (hb.dj (Nat.le_refl _)).symm]
section
variable {Q P β1 W : Nat} {SB1 : gS} {n1 : Nat} {κ1 : Nat → Nat} {SK1 : Nat → gS} {h : xH} {U : Nat → Bool} {w : Nat → Value}
/-- one run of it, out of what it calls -/
theorem hd_run (d : Nat) {i k : Nat} {S S2 S3 S4 S6 : gS} {mv : Bool} {x : Int64} {o : Option Nat} {tv a : Int32} (hb1 : bB Q β1 SB1 n1 κ1 SK1 h) (hbq : below 4 Q h.2.2.1) (hbb : below 2 β1 h.2.2.1) (ho : bF n1 SK1 x = o) (hn6 : n1 ≤ 6) (hi : i < 700) (hW : laQ h W 6 w) (hWQ : ofp 4 Q W = false) (hWa : W < h.2.2.1) (hU : ∀ c, c < 6 → (U c = false → w c = .null) ∧ (U c = true → ∃ r, w c = .ref r)) (h13 : sI S 13 = nI i) (r5 : sR S 5 = .ref β1) (r7 : sR S 7 = .ref W) (r76 : sR S6 7 = .ref W) (r116 : sR S6 11 = .ref h.2.2.1) (h8 : sI S6 8 = nI k) (hk : k < 10000) (eK : xm (d + 2) 47 [.ref Q] (oh 4 h Q S) = some (some (.int (if mv = true then nI 5 else nI 6)), oh 4 h Q S)) (eW : xm (d + 2) 49 [.ref Q] (oh 4 h Q (uI S 13 (nI (i + 1)))) = some (some (.long x), oh 4 h Q (uI S 13 (nI (i + 1))))) (eN : frB U o = false → xm (d + 2) 50 [.ref Q] (oh 4 h Q (uI S 13 (nI (i + 1)))) = some (some (.int a), oh 4 h Q (uI S 13 (nI (i + 1)))) ∧ xm (d + 2) 51 [.ref Q, .int a] (oh 4 h Q (uI S 13 (nI (i + 1)))) = some (none, oh 4 h Q S2)) (eN' : frB U o = true → S2 = uI S 13 (nI (i + 1))) (eT : xm (d + 2) 52 [.ref Q, .int (nI 2)] (oh 4 h Q S2) = some (none, oh 4 h Q S3)) (e53 : mv = true → xm (d + 2) 53 [.ref Q, .int (oI o)] (oh 4 (xmk h mvE 7) Q S3) = some (some (.int tv), oh 4 (xmk h mvE 7) Q S4) ∧ S6 = uI (uR S4 11 (.ref h.2.2.1)) 12 (nI 1)) (e53' : mv = false → S4 = S3 ∧ tv = -nI 1 ∧ xm (d + 2) 52 [.ref Q, .int (nI 59)] (oh 4 (mvH h tv) Q (uI (uR S4 11 (.ref h.2.2.1)) 12 (nI 0))) = some (none, oh 4 (mvH h tv) Q S6)) : xm (d + 3) 48 [.ref Q] (oh 4 h Q S) = some (none, oh 4 (mvX U w W h.2.2.1 (mvH h tv) o) Q (uI S6 8 (nI (k + 1)))) := by
  have eF : xm (d + 2) 13 [.ref β1, .long x] (oh 4 h Q (uI S 13 (nI (i + 1)))) = _ := b_find (d + 1) (Q := Q) (S := uI S 13 (nI (i + 1))) (w := x) hb1
  rw [ho] at eF
  have iB := t_is hb1
  have eX : ∀ S, xmk (oh 4 h Q S) mvE 7 = oh 4 (xmk h mvE 7) Q S := fun S => xmk_oh (hbq.out (Nat.le_refl _))
  have eM : ∀ S t, xm (d + 2) 5 [.ref h.2.2.1, .int t] (oh 4 (xmk h mvE 7) Q S) = some (none, oh 4 (mvH h t) Q S) := fun S t => n_Move d hbq
  have rq : ∀ (S : gS) (c : Nat), c < 6 → ∀ F : Value → Option xR, xrq (oh 4 h Q S) W (nI c) F = F (w c) := fun S c hc F => (hW.frame hWQ).rd hc (by omega) F
  have hnx : ∀ S, (oh 4 h Q S).2.2.1 = h.2.2.1 := fun _ => rfl
  have hlt : ∀ c, o = some c → c < 6 := fun c hc => by
    have := bF_lt (ho.trans hc)
    omega
  have HA : isB 3 (mvH h tv) h.2.2.1 (mvS tv 8) := isB_oh _ _ _ _
  have hWm : laQ (mvH h tv) W 6 w := (mvH_kp h tv W hWa).trans hW
  have wq : ∀ (S : gS) (c : Nat), c < 6 → ∀ F : xH → Option xR, xwq (oh 4 (mvH h tv) Q S) W (nI c) (.ref h.2.2.1) F = F (oh 4 (xput (mvH h tv) W (.inl (8, 6, updV w c (.ref h.2.2.1)))) Q S) := fun S c hc F => by
    rw [(hWm.frame hWQ).wr hc (by omega) (fun X => h_is (HA.frame (hbq.dj (Nat.le_refl _))) X), xput_oh hWQ]
  have e0 : xm (d + 3) 48 [.ref Q] (oh 4 h Q S) = _ := E_48 (d + 2) (oh 4 h Q S) (.ref Q) rfl
  rw [e0]
  have hmv : (.inr (3, [.int (nI 0), .null, .null, .null, .null, .null, .null]) : xE) = mvE := rfl
  -- as far as l3
  have st : xrun (d + 2) 48 0 [(1, .ref Q), (0, .null), (0, .null), (0, .null)] [] (oh 4 h Q S) = xrun (d + 2) 48 80 [(1, .ref Q), (1, .int (bI mv)), (1, .int (oI o)), (1, .int (bI (frB U o)))] [] (oh 4 h Q (uI S 13 (nI (i + 1)))) := by
    cases mv with
    | true =>
      rw [if_pos rfl] at eK
      cases o with
      | none =>
        have eF : xm (d + 2) 13 [.ref β1, .long x] (oh 4 h Q (uI S 13 (nI (i + 1)))) = some (some (.int (-nI 1)), oh 4 h Q (uI S 13 (nI (i + 1)))) := eF
        rw [show bI (frB U none) = nI 0 from rfl, bI_t, show oI none = -nI 1 from rfl]
        simp (disch := omega) only [q_48_0, q_48_1, q_48_4, q_48_5, q_48_8, q_48_9, q_48_12, q_48_13, q_48_14, q_48_15, q_48_18, q_48_19, q_48_22, q_48_24, q_48_27, q_48_28, q_48_29, q_48_32, q_48_33, q_48_34, q_48_35, q_48_38, q_48_39, q_48_40, q_48_43, q_48_44, q_48_47, q_48_48, q_48_51, q_48_54, q_48_55, q_48_56, q_48_59, q_48_60, q_48_62, q_48_65, q_48_66, q_48_69, q_48_70, q_48_71, q_48_74, q_48_75, q_48_78, q_48_79, og_4_14, op_4_14, og_4_13, op_4_13, og_4_5, og_4_7, og_4_11, op_4_11, og_4_12, op_4_12, og_4_8, op_4_8, o_is, o_ob, ofs_len4, ↓reduceIte, k_cr, k_ci, k_oR, k_oN, k_aR, k_aN, and_true, true_and, and_self, eq_self, Nat.reduceLT, Nat.reduceLeDiff, Nat.reduceEqDiff, Nat.reduceAdd, Nat.reduceMul, Bool.true_eq_false, Bool.false_eq_true, Nat.add_sub_cancel, Nat.not_lt_zero, Nat.zero_le, k_sub, k_sb1, k_r, k_n, k_ret, k_t1, k_t0, k_nr, k_nn, k_z0, k_z1, k_zb, x_okI, lit_nI, k_in, k_cl, k_lt, k_le, k_eq, k_neg, nI_add, nI_mul, k_clt, k_cgt, k_cle, k_cge, k_ceq, bI_0, k_sh8, ne_eq, Nat.add_eq_zero_iff, Nat.one_ne_zero, Nat.succ_ne_zero, and_false, false_and, not_false_eq_true, not_true_eq_false, ite_true, ite_false, if_true, if_false, sI_uI, sJ_uI, sA_uI, sL_uI, sR_uI, sQ_uI, sI_uJ, sJ_uJ, sA_uJ, sL_uJ, sR_uJ, sQ_uJ, sI_uA, sJ_uA, sA_uA, sL_uA, sR_uA, sQ_uA, sI_uL, sJ_uL, sA_uL, sL_uL, sR_uL, sQ_uL, sI_uR, sJ_uR, sA_uR, sL_uR, sR_uR, sQ_uR, sI_uQ, sJ_uQ, sA_uQ, sL_uQ, sR_uQ, sQ_uQ, iB, eK, h13, r5, eW, eF, show (-nI 1 < nI 0) = True from by decide]
      | some c =>
        have hc := hlt c rfl
        have nc : ¬ 6 ≤ c := by omega
        have eF : xm (d + 2) 13 [.ref β1, .long x] (oh 4 h Q (uI S 13 (nI (i + 1)))) = some (some (.int (nI c)), oh 4 h Q (uI S 13 (nI (i + 1)))) := eF
        rw [bI_t, show oI (some c) = nI c from rfl]
        cases hu : U c with
        | true =>
          obtain ⟨r, hr⟩ := (hU c hc).2 hu
          rw [show frB U (some c) = !U c from rfl, hu, show bI (!true) = nI 0 from rfl]
          simp (disch := omega) only [q_48_0, q_48_1, q_48_4, q_48_5, q_48_8, q_48_9, q_48_12, q_48_13, q_48_14, q_48_15, q_48_18, q_48_19, q_48_22, q_48_24, q_48_27, q_48_28, q_48_29, q_48_32, q_48_33, q_48_34, q_48_35, q_48_38, q_48_39, q_48_40, q_48_43, q_48_44, q_48_47, q_48_48, q_48_51, q_48_54, q_48_55, q_48_56, q_48_59, q_48_60, q_48_62, q_48_65, q_48_66, q_48_69, q_48_70, q_48_71, q_48_74, q_48_75, q_48_78, q_48_79, og_4_14, op_4_14, og_4_13, op_4_13, og_4_5, og_4_7, og_4_11, op_4_11, og_4_12, op_4_12, og_4_8, op_4_8, o_is, o_ob, ofs_len4, ↓reduceIte, k_cr, k_ci, k_oR, k_oN, k_aR, k_aN, and_true, true_and, and_self, eq_self, Nat.reduceLT, Nat.reduceLeDiff, Nat.reduceEqDiff, Nat.reduceAdd, Nat.reduceMul, Bool.true_eq_false, Bool.false_eq_true, Nat.add_sub_cancel, Nat.not_lt_zero, Nat.zero_le, k_sub, k_sb1, k_r, k_n, k_ret, k_t1, k_t0, k_nr, k_nn, k_z0, k_z1, k_zb, x_okI, lit_nI, k_in, k_cl, k_lt, k_le, k_eq, k_neg, nI_add, nI_mul, k_clt, k_cgt, k_cle, k_cge, k_ceq, bI_0, k_sh8, ne_eq, Nat.add_eq_zero_iff, Nat.one_ne_zero, Nat.succ_ne_zero, and_false, false_and, not_false_eq_true, not_true_eq_false, ite_true, ite_false, if_true, if_false, sI_uI, sJ_uI, sA_uI, sL_uI, sR_uI, sQ_uI, sI_uJ, sJ_uJ, sA_uJ, sL_uJ, sR_uJ, sQ_uJ, sI_uA, sJ_uA, sA_uA, sL_uA, sR_uA, sQ_uA, sI_uL, sJ_uL, sA_uL, sL_uL, sR_uL, sQ_uL, sI_uR, sJ_uR, sA_uR, sL_uR, sR_uR, sQ_uR, sI_uQ, sJ_uQ, sA_uQ, sL_uQ, sR_uQ, sQ_uQ, iB, eK, h13, r5, r7, eW, eF, nc, rq, hr]
        | false =>
          have hr := (hU c hc).1 hu
          rw [show frB U (some c) = !U c from rfl, hu, show bI (!false) = nI 1 from rfl]
          simp (disch := omega) only [q_48_0, q_48_1, q_48_4, q_48_5, q_48_8, q_48_9, q_48_12, q_48_13, q_48_14, q_48_15, q_48_18, q_48_19, q_48_22, q_48_24, q_48_27, q_48_28, q_48_29, q_48_32, q_48_33, q_48_34, q_48_35, q_48_38, q_48_39, q_48_40, q_48_43, q_48_44, q_48_47, q_48_48, q_48_51, q_48_54, q_48_55, q_48_56, q_48_59, q_48_60, q_48_62, q_48_65, q_48_66, q_48_69, q_48_70, q_48_71, q_48_74, q_48_75, q_48_78, q_48_79, og_4_14, op_4_14, og_4_13, op_4_13, og_4_5, og_4_7, og_4_11, op_4_11, og_4_12, op_4_12, og_4_8, op_4_8, o_is, o_ob, ofs_len4, ↓reduceIte, k_cr, k_ci, k_oR, k_oN, k_aR, k_aN, and_true, true_and, and_self, eq_self, Nat.reduceLT, Nat.reduceLeDiff, Nat.reduceEqDiff, Nat.reduceAdd, Nat.reduceMul, Bool.true_eq_false, Bool.false_eq_true, Nat.add_sub_cancel, Nat.not_lt_zero, Nat.zero_le, k_sub, k_sb1, k_r, k_n, k_ret, k_t1, k_t0, k_nr, k_nn, k_z0, k_z1, k_zb, x_okI, lit_nI, k_in, k_cl, k_lt, k_le, k_eq, k_neg, nI_add, nI_mul, k_clt, k_cgt, k_cle, k_cge, k_ceq, bI_0, k_sh8, ne_eq, Nat.add_eq_zero_iff, Nat.one_ne_zero, Nat.succ_ne_zero, and_false, false_and, not_false_eq_true, not_true_eq_false, ite_true, ite_false, if_true, if_false, sI_uI, sJ_uI, sA_uI, sL_uI, sR_uI, sQ_uI, sI_uJ, sJ_uJ, sA_uJ, sL_uJ, sR_uJ, sQ_uJ, sI_uA, sJ_uA, sA_uA, sL_uA, sR_uA, sQ_uA, sI_uL, sJ_uL, sA_uL, sL_uL, sR_uL, sQ_uL, sI_uR, sJ_uR, sA_uR, sL_uR, sR_uR, sQ_uR, sI_uQ, sJ_uQ, sA_uQ, sL_uQ, sR_uQ, sQ_uQ, iB, eK, h13, r5, r7, eW, eF, nc, rq, hr]
    | false =>
      rw [if_neg (by decide)] at eK
      cases o with
      | none =>
        have eF : xm (d + 2) 13 [.ref β1, .long x] (oh 4 h Q (uI S 13 (nI (i + 1)))) = some (some (.int (-nI 1)), oh 4 h Q (uI S 13 (nI (i + 1)))) := eF
        rw [show bI (frB U none) = nI 0 from rfl, bI_f, show oI none = -nI 1 from rfl]
        simp (disch := omega) only [q_48_0, q_48_1, q_48_4, q_48_5, q_48_8, q_48_9, q_48_12, q_48_13, q_48_14, q_48_15, q_48_18, q_48_19, q_48_22, q_48_24, q_48_27, q_48_28, q_48_29, q_48_32, q_48_33, q_48_34, q_48_35, q_48_38, q_48_39, q_48_40, q_48_43, q_48_44, q_48_47, q_48_48, q_48_51, q_48_54, q_48_55, q_48_56, q_48_59, q_48_60, q_48_62, q_48_65, q_48_66, q_48_69, q_48_70, q_48_71, q_48_74, q_48_75, q_48_78, q_48_79, og_4_14, op_4_14, og_4_13, op_4_13, og_4_5, og_4_7, og_4_11, op_4_11, og_4_12, op_4_12, og_4_8, op_4_8, o_is, o_ob, ofs_len4, ↓reduceIte, k_cr, k_ci, k_oR, k_oN, k_aR, k_aN, and_true, true_and, and_self, eq_self, Nat.reduceLT, Nat.reduceLeDiff, Nat.reduceEqDiff, Nat.reduceAdd, Nat.reduceMul, Bool.true_eq_false, Bool.false_eq_true, Nat.add_sub_cancel, Nat.not_lt_zero, Nat.zero_le, k_sub, k_sb1, k_r, k_n, k_ret, k_t1, k_t0, k_nr, k_nn, k_z0, k_z1, k_zb, x_okI, lit_nI, k_in, k_cl, k_lt, k_le, k_eq, k_neg, nI_add, nI_mul, k_clt, k_cgt, k_cle, k_cge, k_ceq, bI_0, k_sh8, ne_eq, Nat.add_eq_zero_iff, Nat.one_ne_zero, Nat.succ_ne_zero, and_false, false_and, not_false_eq_true, not_true_eq_false, ite_true, ite_false, if_true, if_false, sI_uI, sJ_uI, sA_uI, sL_uI, sR_uI, sQ_uI, sI_uJ, sJ_uJ, sA_uJ, sL_uJ, sR_uJ, sQ_uJ, sI_uA, sJ_uA, sA_uA, sL_uA, sR_uA, sQ_uA, sI_uL, sJ_uL, sA_uL, sL_uL, sR_uL, sQ_uL, sI_uR, sJ_uR, sA_uR, sL_uR, sR_uR, sQ_uR, sI_uQ, sJ_uQ, sA_uQ, sL_uQ, sR_uQ, sQ_uQ, iB, eK, h13, r5, eW, eF, show (-nI 1 < nI 0) = True from by decide]
      | some c =>
        have hc := hlt c rfl
        have nc : ¬ 6 ≤ c := by omega
        have eF : xm (d + 2) 13 [.ref β1, .long x] (oh 4 h Q (uI S 13 (nI (i + 1)))) = some (some (.int (nI c)), oh 4 h Q (uI S 13 (nI (i + 1)))) := eF
        rw [bI_f, show oI (some c) = nI c from rfl]
        cases hu : U c with
        | true =>
          obtain ⟨r, hr⟩ := (hU c hc).2 hu
          rw [show frB U (some c) = !U c from rfl, hu, show bI (!true) = nI 0 from rfl]
          simp (disch := omega) only [q_48_0, q_48_1, q_48_4, q_48_5, q_48_8, q_48_9, q_48_12, q_48_13, q_48_14, q_48_15, q_48_18, q_48_19, q_48_22, q_48_24, q_48_27, q_48_28, q_48_29, q_48_32, q_48_33, q_48_34, q_48_35, q_48_38, q_48_39, q_48_40, q_48_43, q_48_44, q_48_47, q_48_48, q_48_51, q_48_54, q_48_55, q_48_56, q_48_59, q_48_60, q_48_62, q_48_65, q_48_66, q_48_69, q_48_70, q_48_71, q_48_74, q_48_75, q_48_78, q_48_79, og_4_14, op_4_14, og_4_13, op_4_13, og_4_5, og_4_7, og_4_11, op_4_11, og_4_12, op_4_12, og_4_8, op_4_8, o_is, o_ob, ofs_len4, ↓reduceIte, k_cr, k_ci, k_oR, k_oN, k_aR, k_aN, and_true, true_and, and_self, eq_self, Nat.reduceLT, Nat.reduceLeDiff, Nat.reduceEqDiff, Nat.reduceAdd, Nat.reduceMul, Bool.true_eq_false, Bool.false_eq_true, Nat.add_sub_cancel, Nat.not_lt_zero, Nat.zero_le, k_sub, k_sb1, k_r, k_n, k_ret, k_t1, k_t0, k_nr, k_nn, k_z0, k_z1, k_zb, x_okI, lit_nI, k_in, k_cl, k_lt, k_le, k_eq, k_neg, nI_add, nI_mul, k_clt, k_cgt, k_cle, k_cge, k_ceq, bI_0, k_sh8, ne_eq, Nat.add_eq_zero_iff, Nat.one_ne_zero, Nat.succ_ne_zero, and_false, false_and, not_false_eq_true, not_true_eq_false, ite_true, ite_false, if_true, if_false, sI_uI, sJ_uI, sA_uI, sL_uI, sR_uI, sQ_uI, sI_uJ, sJ_uJ, sA_uJ, sL_uJ, sR_uJ, sQ_uJ, sI_uA, sJ_uA, sA_uA, sL_uA, sR_uA, sQ_uA, sI_uL, sJ_uL, sA_uL, sL_uL, sR_uL, sQ_uL, sI_uR, sJ_uR, sA_uR, sL_uR, sR_uR, sQ_uR, sI_uQ, sJ_uQ, sA_uQ, sL_uQ, sR_uQ, sQ_uQ, iB, eK, h13, r5, r7, eW, eF, nc, rq, hr]
        | false =>
          have hr := (hU c hc).1 hu
          rw [show frB U (some c) = !U c from rfl, hu, show bI (!false) = nI 1 from rfl]
          simp (disch := omega) only [q_48_0, q_48_1, q_48_4, q_48_5, q_48_8, q_48_9, q_48_12, q_48_13, q_48_14, q_48_15, q_48_18, q_48_19, q_48_22, q_48_24, q_48_27, q_48_28, q_48_29, q_48_32, q_48_33, q_48_34, q_48_35, q_48_38, q_48_39, q_48_40, q_48_43, q_48_44, q_48_47, q_48_48, q_48_51, q_48_54, q_48_55, q_48_56, q_48_59, q_48_60, q_48_62, q_48_65, q_48_66, q_48_69, q_48_70, q_48_71, q_48_74, q_48_75, q_48_78, q_48_79, og_4_14, op_4_14, og_4_13, op_4_13, og_4_5, og_4_7, og_4_11, op_4_11, og_4_12, op_4_12, og_4_8, op_4_8, o_is, o_ob, ofs_len4, ↓reduceIte, k_cr, k_ci, k_oR, k_oN, k_aR, k_aN, and_true, true_and, and_self, eq_self, Nat.reduceLT, Nat.reduceLeDiff, Nat.reduceEqDiff, Nat.reduceAdd, Nat.reduceMul, Bool.true_eq_false, Bool.false_eq_true, Nat.add_sub_cancel, Nat.not_lt_zero, Nat.zero_le, k_sub, k_sb1, k_r, k_n, k_ret, k_t1, k_t0, k_nr, k_nn, k_z0, k_z1, k_zb, x_okI, lit_nI, k_in, k_cl, k_lt, k_le, k_eq, k_neg, nI_add, nI_mul, k_clt, k_cgt, k_cle, k_cge, k_ceq, bI_0, k_sh8, ne_eq, Nat.add_eq_zero_iff, Nat.one_ne_zero, Nat.succ_ne_zero, and_false, false_and, not_false_eq_true, not_true_eq_false, ite_true, ite_false, if_true, if_false, sI_uI, sJ_uI, sA_uI, sL_uI, sR_uI, sQ_uI, sI_uJ, sJ_uJ, sA_uJ, sL_uJ, sR_uJ, sQ_uJ, sI_uA, sJ_uA, sA_uA, sL_uA, sR_uA, sQ_uA, sI_uL, sJ_uL, sA_uL, sL_uL, sR_uL, sQ_uL, sI_uR, sJ_uR, sA_uR, sL_uR, sR_uR, sQ_uR, sI_uQ, sJ_uQ, sA_uQ, sL_uQ, sR_uQ, sQ_uQ, iB, eK, h13, r5, r7, eW, eF, nc, rq, hr]
  -- the note, take(NAME)
  have st2 : xrun (d + 2) 48 80 [(1, .ref Q), (1, .int (bI mv)), (1, .int (oI o)), (1, .int (bI (frB U o)))] [] (oh 4 h Q (uI S 13 (nI (i + 1)))) = xrun (d + 2) 48 97 [(1, .ref Q), (1, .int (bI mv)), (1, .int (oI o)), (1, .int (bI (frB U o)))] [] (oh 4 h Q S3) := by
    generalize oI o = ov
    generalize bI mv = bv
    cases hf : frB U o with
    | true =>
      have e2 := eN' hf
      subst e2
      rw [bI_t]
      simp (disch := omega) only [q_48_80, q_48_81, q_48_84, q_48_85, q_48_86, q_48_89, q_48_92, q_48_93, q_48_94, o_is, ↓reduceIte, k_cr, k_ci, k_oR, k_oN, k_aR, k_aN, and_true, true_and, and_self, eq_self, Nat.reduceLT, Nat.reduceLeDiff, Nat.reduceEqDiff, Nat.reduceAdd, Nat.reduceMul, Bool.true_eq_false, Bool.false_eq_true, Nat.add_sub_cancel, Nat.not_lt_zero, Nat.zero_le, k_sub, k_sb1, k_r, k_n, k_ret, k_t1, k_t0, k_nr, k_nn, k_z0, k_z1, k_zb, x_okI, lit_nI, k_in, k_cl, k_lt, k_le, k_eq, k_neg, nI_add, nI_mul, k_clt, k_cgt, k_cle, k_cge, k_ceq, bI_0, k_sh8, ne_eq, Nat.add_eq_zero_iff, Nat.one_ne_zero, Nat.succ_ne_zero, and_false, false_and, not_false_eq_true, not_true_eq_false, ite_true, ite_false, if_true, if_false, eT]
    | false =>
      obtain ⟨e1, e2⟩ := eN hf
      rw [bI_f]
      simp (disch := omega) only [q_48_80, q_48_81, q_48_84, q_48_85, q_48_86, q_48_89, q_48_92, q_48_93, q_48_94, o_is, ↓reduceIte, k_cr, k_ci, k_oR, k_oN, k_aR, k_aN, and_true, true_and, and_self, eq_self, Nat.reduceLT, Nat.reduceLeDiff, Nat.reduceEqDiff, Nat.reduceAdd, Nat.reduceMul, Bool.true_eq_false, Bool.false_eq_true, Nat.add_sub_cancel, Nat.not_lt_zero, Nat.zero_le, k_sub, k_sb1, k_r, k_n, k_ret, k_t1, k_t0, k_nr, k_nn, k_z0, k_z1, k_zb, x_okI, lit_nI, k_in, k_cl, k_lt, k_le, k_eq, k_neg, nI_add, nI_mul, k_clt, k_cgt, k_cle, k_cge, k_ceq, bI_0, k_sh8, ne_eq, Nat.add_eq_zero_iff, Nat.one_ne_zero, Nat.succ_ne_zero, and_false, false_and, not_false_eq_true, not_true_eq_false, ite_true, ite_false, if_true, if_false, e1, e2, eT]
  -- the Move
  have st3 : xrun (d + 2) 48 97 [(1, .ref Q), (1, .int (bI mv)), (1, .int (oI o)), (1, .int (bI (frB U o)))] [] (oh 4 h Q S3) = xrun (d + 2) 48 136 [(1, .ref Q), (1, .int (bI mv)), (1, .int (oI o)), (1, .int (bI (frB U o)))] [] (oh 4 (mvH h tv) Q S6) := by
    generalize bI (frB U o) = fv
    cases mv with
    | true =>
      obtain ⟨e1, e2⟩ := e53 rfl
      subst e2
      generalize oI o = ov at *
      rw [bI_t]
      simp (disch := omega) only [q_48_97, q_48_98, q_48_101, q_48_102, q_48_103, q_48_106, q_48_107, q_48_108, q_48_111, q_48_115, q_48_118, q_48_121, q_48_122, q_48_123, q_48_126, q_48_127, og_4_11, op_4_11, op_4_12, o_is, o_ob, ofs_len4, ↓reduceIte, k_cr, k_ci, k_oR, k_oN, k_aR, k_aN, and_true, true_and, and_self, eq_self, Nat.reduceLT, Nat.reduceLeDiff, Nat.reduceEqDiff, Nat.reduceAdd, Nat.reduceMul, Bool.true_eq_false, Bool.false_eq_true, Nat.add_sub_cancel, Nat.not_lt_zero, Nat.zero_le, k_sub, k_sb1, k_r, k_n, k_ret, k_t1, k_t0, k_nr, k_nn, k_z0, k_z1, k_zb, x_okI, lit_nI, k_in, k_cl, k_lt, k_le, k_eq, k_neg, nI_add, nI_mul, k_clt, k_cgt, k_cle, k_cge, k_ceq, bI_0, k_sh8, ne_eq, Nat.add_eq_zero_iff, Nat.one_ne_zero, Nat.succ_ne_zero, and_false, false_and, not_false_eq_true, not_true_eq_false, ite_true, ite_false, if_true, if_false, sI_uI, sJ_uI, sA_uI, sL_uI, sR_uI, sQ_uI, sI_uJ, sJ_uJ, sA_uJ, sL_uJ, sR_uJ, sQ_uJ, sI_uA, sJ_uA, sA_uA, sL_uA, sR_uA, sQ_uA, sI_uL, sJ_uL, sA_uL, sL_uL, sR_uL, sQ_uL, sI_uR, sJ_uR, sA_uR, sL_uR, sR_uR, sQ_uR, sI_uQ, sJ_uQ, sA_uQ, sL_uQ, sR_uQ, sQ_uQ, hnx, hmv, eX, e1, eM]
    | false =>
      obtain ⟨e1, e2, e3⟩ := e53' rfl
      subst e1
      subst e2
      generalize oI o = ov at *
      rw [bI_f]
      simp (disch := omega) only [q_48_97, q_48_98, q_48_101, q_48_102, q_48_103, q_48_114, q_48_115, q_48_118, q_48_121, q_48_122, q_48_123, q_48_126, q_48_127, q_48_130, q_48_131, q_48_133, og_4_11, op_4_11, op_4_12, o_is, o_ob, ofs_len4, ↓reduceIte, k_cr, k_ci, k_oR, k_oN, k_aR, k_aN, and_true, true_and, and_self, eq_self, Nat.reduceLT, Nat.reduceLeDiff, Nat.reduceEqDiff, Nat.reduceAdd, Nat.reduceMul, Bool.true_eq_false, Bool.false_eq_true, Nat.add_sub_cancel, Nat.not_lt_zero, Nat.zero_le, k_sub, k_sb1, k_r, k_n, k_ret, k_t1, k_t0, k_nr, k_nn, k_z0, k_z1, k_zb, x_okI, lit_nI, k_in, k_cl, k_lt, k_le, k_eq, k_neg, nI_add, nI_mul, k_clt, k_cgt, k_cle, k_cge, k_ceq, bI_0, k_sh8, ne_eq, Nat.add_eq_zero_iff, Nat.one_ne_zero, Nat.succ_ne_zero, and_false, false_and, not_false_eq_true, not_true_eq_false, ite_true, ite_false, if_true, if_false, sI_uI, sJ_uI, sA_uI, sL_uI, sR_uI, sQ_uI, sI_uJ, sJ_uJ, sA_uJ, sL_uJ, sR_uJ, sQ_uJ, sI_uA, sJ_uA, sA_uA, sL_uA, sR_uA, sQ_uA, sI_uL, sJ_uL, sA_uL, sL_uL, sR_uL, sQ_uL, sI_uR, sJ_uR, sA_uR, sL_uR, sR_uR, sQ_uR, sI_uQ, sJ_uQ, sA_uQ, sL_uQ, sR_uQ, sQ_uQ, hnx, hmv, eX, eM, e3]
  rw [st, st2, st3]
  generalize bI mv = bv
  cases o with
  | none =>
    rw [show bI (frB U none) = nI 0 from rfl, show oI none = -nI 1 from rfl]
    simp (disch := omega) only [q_48_136, q_48_137, q_48_140, q_48_141, q_48_144, q_48_145, q_48_146, q_48_149, q_48_150, q_48_151, q_48_152, q_48_155, q_48_156, q_48_157, q_48_160, og_4_14, op_4_14, og_4_13, op_4_13, og_4_5, og_4_7, og_4_11, op_4_11, og_4_12, op_4_12, og_4_8, op_4_8, o_is, o_ob, ofs_len4, ↓reduceIte, k_cr, k_ci, k_oR, k_oN, k_aR, k_aN, and_true, true_and, and_self, eq_self, Nat.reduceLT, Nat.reduceLeDiff, Nat.reduceEqDiff, Nat.reduceAdd, Nat.reduceMul, Bool.true_eq_false, Bool.false_eq_true, Nat.add_sub_cancel, Nat.not_lt_zero, Nat.zero_le, k_sub, k_sb1, k_r, k_n, k_ret, k_t1, k_t0, k_nr, k_nn, k_z0, k_z1, k_zb, x_okI, lit_nI, k_in, k_cl, k_lt, k_le, k_eq, k_neg, nI_add, nI_mul, k_clt, k_cgt, k_cle, k_cge, k_ceq, bI_0, k_sh8, ne_eq, Nat.add_eq_zero_iff, Nat.one_ne_zero, Nat.succ_ne_zero, and_false, false_and, not_false_eq_true, not_true_eq_false, ite_true, ite_false, if_true, if_false, sI_uI, sJ_uI, sA_uI, sL_uI, sR_uI, sQ_uI, sI_uJ, sJ_uJ, sA_uJ, sL_uJ, sR_uJ, sQ_uJ, sI_uA, sJ_uA, sA_uA, sL_uA, sR_uA, sQ_uA, sI_uL, sJ_uL, sA_uL, sL_uL, sR_uL, sQ_uL, sI_uR, sJ_uR, sA_uR, sL_uR, sR_uR, sQ_uR, sI_uQ, sJ_uQ, sA_uQ, sL_uQ, sR_uQ, sQ_uQ, mvX, h8]
  | some c =>
    have hc := hlt c rfl
    rw [show oI (some c) = nI c from rfl]
    cases hu : U c with
    | true =>
      rw [show frB U (some c) = !U c from rfl, hu, show bI (!true) = nI 0 from rfl]
      simp (disch := omega) only [q_48_136, q_48_137, q_48_140, q_48_141, q_48_144, q_48_145, q_48_146, q_48_149, q_48_150, q_48_151, q_48_152, q_48_155, q_48_156, q_48_157, q_48_160, og_4_14, op_4_14, og_4_13, op_4_13, og_4_5, og_4_7, og_4_11, op_4_11, og_4_12, op_4_12, og_4_8, op_4_8, o_is, o_ob, ofs_len4, ↓reduceIte, k_cr, k_ci, k_oR, k_oN, k_aR, k_aN, and_true, true_and, and_self, eq_self, Nat.reduceLT, Nat.reduceLeDiff, Nat.reduceEqDiff, Nat.reduceAdd, Nat.reduceMul, Bool.true_eq_false, Bool.false_eq_true, Nat.add_sub_cancel, Nat.not_lt_zero, Nat.zero_le, k_sub, k_sb1, k_r, k_n, k_ret, k_t1, k_t0, k_nr, k_nn, k_z0, k_z1, k_zb, x_okI, lit_nI, k_in, k_cl, k_lt, k_le, k_eq, k_neg, nI_add, nI_mul, k_clt, k_cgt, k_cle, k_cge, k_ceq, bI_0, k_sh8, ne_eq, Nat.add_eq_zero_iff, Nat.one_ne_zero, Nat.succ_ne_zero, and_false, false_and, not_false_eq_true, not_true_eq_false, ite_true, ite_false, if_true, if_false, sI_uI, sJ_uI, sA_uI, sL_uI, sR_uI, sQ_uI, sI_uJ, sJ_uJ, sA_uJ, sL_uJ, sR_uJ, sQ_uJ, sI_uA, sJ_uA, sA_uA, sL_uA, sR_uA, sQ_uA, sI_uL, sJ_uL, sA_uL, sL_uL, sR_uL, sQ_uL, sI_uR, sJ_uR, sA_uR, sL_uR, sR_uR, sQ_uR, sI_uQ, sJ_uQ, sA_uQ, sL_uQ, sR_uQ, sQ_uQ, mvX, hu, h8]
    | false =>
      rw [show frB U (some c) = !U c from rfl, hu, show bI (!false) = nI 1 from rfl]
      simp (disch := omega) only [q_48_136, q_48_137, q_48_140, q_48_141, q_48_144, q_48_145, q_48_146, q_48_149, q_48_150, q_48_151, q_48_152, q_48_155, q_48_156, q_48_157, q_48_160, og_4_14, op_4_14, og_4_13, op_4_13, og_4_5, og_4_7, og_4_11, op_4_11, og_4_12, op_4_12, og_4_8, op_4_8, o_is, o_ob, ofs_len4, ↓reduceIte, k_cr, k_ci, k_oR, k_oN, k_aR, k_aN, and_true, true_and, and_self, eq_self, Nat.reduceLT, Nat.reduceLeDiff, Nat.reduceEqDiff, Nat.reduceAdd, Nat.reduceMul, Bool.true_eq_false, Bool.false_eq_true, Nat.add_sub_cancel, Nat.not_lt_zero, Nat.zero_le, k_sub, k_sb1, k_r, k_n, k_ret, k_t1, k_t0, k_nr, k_nn, k_z0, k_z1, k_zb, x_okI, lit_nI, k_in, k_cl, k_lt, k_le, k_eq, k_neg, nI_add, nI_mul, k_clt, k_cgt, k_cle, k_cge, k_ceq, bI_0, k_sh8, ne_eq, Nat.add_eq_zero_iff, Nat.one_ne_zero, Nat.succ_ne_zero, and_false, false_and, not_false_eq_true, not_true_eq_false, ite_true, ite_false, if_true, if_false, sI_uI, sJ_uI, sA_uI, sL_uI, sR_uI, sQ_uI, sI_uJ, sJ_uJ, sA_uJ, sL_uJ, sR_uJ, sQ_uJ, sI_uA, sJ_uA, sA_uA, sL_uA, sR_uA, sQ_uA, sI_uL, sJ_uL, sA_uL, sL_uL, sR_uL, sQ_uL, sI_uR, sJ_uR, sA_uR, sL_uR, sR_uR, sQ_uR, sI_uQ, sJ_uQ, sA_uQ, sL_uQ, sR_uQ, sQ_uQ, mvX, hu, h8, r76, r116, wq]
end
theorem clBad_fr (U : Nat → Bool) (a : Nat) (o : Option Nat) : clBad U a o = if frB U o = true then [] else [a] := by
  cases o with
  | none => rfl
  | some c =>
    show (if U c = true then [a] else []) = if (!U c) = true then [] else [a]
    cases U c <;> rfl
theorem h_noteB {P : Nat} {S0 S : gS} {i z : Nat} {C : List cT} (d : Nat) {Q N : Nat} {SP : gS} {p : pP} {h : xH} (b : Bool) (hs : hS Q P SP N p) (hh : isB 0 h P SP) (hv : hV P S0 S i z C) (hi : i ≤ N) : ∃ S2, hV P S0 S2 i (mnF (if b = true then [] else [p.2.1 i]) z) C ∧ (b = false → xm (d + 1) 50 [.ref Q] (oh 4 h Q S) = some (some (.int (nI (p.2.1 i))), oh 4 h Q S) ∧ xm (d + 1) 51 [.ref Q, .int (nI (p.2.1 i))] (oh 4 h Q S) = some (none, oh 4 h Q S2)) ∧ (b = true → S2 = S) ∧ sI S2 8 = sI S 8 := by
  have hpl := hs.2.2.2.2 i
  cases b with
  | false => exact ⟨_, hv.no (p.2.1 i), fun _ => ⟨h_place d hs hh hv.r0 hv.2.1 hi, k_note d hv.2.2.2.1 hv.2.2.2.2.1 (show p.2.1 i ≤ 701 by omega)⟩, fun z => (by cases z), rfl⟩
  | true => exact ⟨S, hv, fun z => (by cases z), fun _ => rfl, rfl⟩
theorem hV.op {P : Nat} {S0 S : gS} {i z : Nat} {C : List cT} (h : hV P S0 S i z C) (a : Value) (x : Int32) : hV P S0 (uI (uR S 11 a) 12 x) i z C :=
  ⟨h.1, h.2.1, h.2.2.1, h.2.2.2.1, h.2.2.2.2.1, h.2.2.2.2.2.1, (h.2.2.2.2.2.2.uR (by decide)).uI (by decide)⟩
theorem hX.op {P : Nat} {S0 S : gS} {q : Nat} (h : hX P S0 S q) (a : Value) (x : Int32) : hX P S0 (uI (uR S 11 a) 12 x) q :=
  ⟨h.1, h.2.1, h.2.2.1, h.2.2.2.1, (h.2.2.2.2.uR (by decide)).uI (by decide)⟩
theorem hV.ct {P : Nat} {S0 S : gS} {i z : Nat} {C : List cT} (h : hV P S0 S i z C) (x : Int32) : hV P S0 (uI S 8 x) i z C :=
  ⟨h.1, h.2.1, h.2.2.1, h.2.2.2.1, h.2.2.2.2.1, h.2.2.2.2.2.1, h.2.2.2.2.2.2.uI (by decide)⟩
theorem hX.ct {P : Nat} {S0 S : gS} {q : Nat} (h : hX P S0 S q) (x : Int32) : hX P S0 (uI S 8 x) q :=
  ⟨h.1, h.2.1, h.2.2.1, h.2.2.2.1, h.2.2.2.2.uI (by decide)⟩
theorem hV.r7 {P : Nat} {S0 S : gS} {i z : Nat} {C : List cT} (h : hV P S0 S i z C) : sR S 7 = sR S0 7 := (h.2.2.2.2.2.2 7 (by decide)).2.2.2.2.1
theorem hX.r7 {P : Nat} {S0 S : gS} {q : Nat} (h : hX P S0 S q) : sR S 7 = sR S0 7 := (h.2.2.2.2 7 (by decide)).2.2.2.2.1
/-- what stays while a text is read -/
def pE (Q P β1 β2 κ0 n0 : Nat) (SP SB1 SB2 SK0 : gS) (n1 n2 : Nat) (κ1 κ2 : Nat → Nat) (SK1 SK2 : Nat → gS) (h : xH) : Prop := isB 0 h P SP ∧ bB Q β1 SB1 n1 κ1 SK1 h ∧ bB Q β2 SB2 n2 κ2 SK2 h ∧ isB 1 h κ0 SK0 ∧ below 0 P n0 ∧ below 2 β1 n0 ∧ below 2 β2 n0 ∧ below 1 κ0 n0 ∧ (∀ i, i < n1 → below 1 (κ1 i) n0) ∧ (∀ i, i < n2 → below 1 (κ2 i) n0) ∧ below 4 Q n0 ∧ dj 4 Q 1 κ0 ∧ kOK SK0 0
theorem bB.kp {Q β n0 : Nat} {SB : gS} {n : Nat} {κ : Nat → Nat} {SK : Nat → gS} {h h' : xH} (H : bB Q β SB n κ SK h) (hk : kp n0 h h') (hb : below 2 β n0) (hb2 : ∀ i, i < n → below 1 (κ i) n0) : bB Q β SB n κ SK h' :=
  ⟨H.1.kp hk hb, ⟨H.2.1.1, H.2.1.2.1, fun i hi => ⟨(H.2.1.2.2 i hi).1, (H.2.1.2.2 i hi).2.kp hk (hb2 i hi)⟩⟩, H.2.2.1, H.2.2.2⟩
theorem pE.kp {Q P β1 β2 κ0 n0 : Nat} {SP SB1 SB2 SK0 : gS} {n1 n2 : Nat} {κ1 κ2 : Nat → Nat} {SK1 SK2 : Nat → gS} {h h' : xH} (H : pE Q P β1 β2 κ0 n0 SP SB1 SB2 SK0 n1 n2 κ1 κ2 SK1 SK2 h) (hk : kp n0 h h') : pE Q P β1 β2 κ0 n0 SP SB1 SB2 SK0 n1 n2 κ1 κ2 SK1 SK2 h' := by
  obtain ⟨a1, a2, a3, a4, a5, a6, a7, a8, a9, a10, a11, a12, a13⟩ := H
  exact ⟨a1.kp hk a5, a2.kp hk a6 a9, a3.kp hk a7 a10, a4.kp hk a8, a5, a6, a7, a8, a9, a10, a11, a12, a13⟩
/-- Moves so far -/
def mvW (U : Nat → Bool) (w : Nat → Value) : Prop := ∀ c, c < 6 → (U c = false → w c = .null) ∧ (U c = true → ∃ r, w c = .ref r)
def hdR (D Q P W κ0 : Nat) (κ1 κ2 : Nat → Nat) (S0 : gS) (fo ft : Int64 → Option Nat) (U : Nat → Bool) (w : Nat → Value) (p : pP) (N i z k : Nat) (C : List cT) (S : gS) (h : xH) : Nat ⊕ (Bool × Nat) → Prop
  | .inl q => q ≤ N ∧ ∃ S' h', xm D 48 [.ref Q] (oh 4 h Q S) = some (none, oh 4 h' Q S') ∧ hX P S0 S' q ∧ (h' = h ∨ ∃ tv, h' = mvX U w W h.2.2.1 (mvH h tv) (fo (p.2.2 (i + 1))))
  | .inr (true, j) => i + 3 ≤ j ∧ j ≤ N ∧ ∃ S', xm D 48 [.ref Q] (oh 4 h Q S) = some (none, oh 4 (mvX U w W h.2.2.1 (mvH h (-nI 1)) (fo (p.2.2 (i + 1)))) Q S') ∧ hV P S0 S' j (mnF (clBad U (p.2.1 (i + 1)) (fo (p.2.2 (i + 1)))) z) C ∧ sI S' 8 = nI (k + 1) ∧ sI S' 12 = nI 0
  | .inr (false, j) => i + 5 ≤ j ∧ j ≤ N ∧ ∃ S', xm D 48 [.ref Q] (oh 4 h Q S) = some (none, oh 4 (mvX U w W h.2.2.1 (mvH h (oI (ft (p.2.2 (i + 3))))) (fo (p.2.2 (i + 1)))) Q S') ∧ hV P S0 S' j (mnF (tgB (ft (p.2.2 (i + 3))) (p.2.1 (i + 3))) (mnF (clBad U (p.2.1 (i + 1)) (fo (p.2.2 (i + 1)))) z)) C ∧ sI S' 8 = nI (k + 1) ∧ sI S' 12 = nI 1 ∧ sR S' 9 = kR κ0 κ1 (fo (p.2.2 (i + 1))) ∧ sR S' 10 = kR κ0 κ2 (ft (p.2.2 (i + 3))) ∧ sR S' 11 = .ref h.2.2.1
theorem h_head (d : Nat) {Q P β1 β2 κ0 N n0 W : Nat} {SP SB1 SB2 SK0 S0 S : gS} {n1 n2 : Nat} {κ1 κ2 : Nat → Nat} {SK1 SK2 : Nat → gS} {h : xH} {p : pP} {U : Nat → Bool} {w : Nat → Value} {i z k : Nat} {C : List cT} (hs : hS Q P SP N p) (hE : pE Q P β1 β2 κ0 n0 SP SB1 SB2 SK0 n1 n2 κ1 κ2 SK1 SK2 h) (h0 : n0 ≤ h.2.2.1) (hW : laQ h W 6 w) (hW0 : n0 ≤ W) (hWa : W < h.2.2.1) (hU : mvW U w) (hp : pB S0 κ0 β1 β2) (r7 : sR S0 7 = .ref W) (hv : hV P S0 S i z C) (h8 : sI S 8 = nI k) (hk : k < 10000) (hi : i ≤ N) : hdR (d + 3) Q P W κ0 κ1 κ2 S0 (bF n1 SK1) (bF n2 SK2) U w p N i z k C S h (hdF p i) := by
  have hN := hs.2.2.1
  have hN7 := hN.1
  have hkp := hs.2.2.2.1
  have hE0 := hE
  obtain ⟨a1, a2, a3, a4, a5, a6, a7, a8, a9, a10, a11, a12, a13⟩ := hE
  have hn6 : n1 ≤ 6 := a2.2.1.2.1
  have hbq := a11.le h0
  have hbb := a6.le h0
  have hWQ : ofp 4 Q W = false := a11.out hW0
  have kpx : kp n0 h (xmk h mvE 7) := fun q hq => va_up_ne _ _ (by omega)
  have kpm : ∀ t, kp n0 h (mvH h t) := fun t => (mvH_kp h t).le h0
  have hEx := hE0.kp kpx
  have eK : xm (d + 2) 47 [.ref Q] (oh 4 h Q S) = _ := h_kind (d + 1) hs a1 hv.r0 hv.2.1 hi
  have wd1 : ∀ i w, pWd p i w = true → p.1 i = nI 1 := by
    intro i w q
    unfold pWd at q
    rw [Bool.and_eq_true, decide_eq_true_eq] at q
    exact q.1
  obtain ⟨b1, b5, b6⟩ := hv.b hp
  have q7 : sR S 7 = .ref W := hv.r7.trans r7
  have v1 := hv.at (i + 1)
  -- what both have
  have go : ∀ (mv : Bool), (cK p i = if mv = true then nI 5 else nI 6) → i + 1 ≤ N → ∃ S2, hV P S0 S2 (i + 1) (mnF (clBad U (p.2.1 (i + 1)) (bF n1 SK1 (p.2.2 (i + 1)))) z) C ∧ sI S2 8 = nI k ∧ ∀ (S3 S4 S6 : gS) (tv : Int32), sR S6 7 = .ref W → sR S6 11 = .ref h.2.2.1 → sI S6 8 = nI k → xm (d + 2) 52 [.ref Q, .int (nI 2)] (oh 4 h Q S2) = some (none, oh 4 h Q S3) → (mv = true → xm (d + 2) 53 [.ref Q, .int (oI (bF n1 SK1 (p.2.2 (i + 1))))] (oh 4 (xmk h mvE 7) Q S3) = some (some (.int tv), oh 4 (xmk h mvE 7) Q S4) ∧ S6 = uI (uR S4 11 (.ref h.2.2.1)) 12 (nI 1)) → (mv = false → S4 = S3 ∧ tv = -nI 1 ∧ xm (d + 2) 52 [.ref Q, .int (nI 59)] (oh 4 (mvH h tv) Q (uI (uR S4 11 (.ref h.2.2.1)) 12 (nI 0))) = some (none, oh 4 (mvH h tv) Q S6)) → xm (d + 3) 48 [.ref Q] (oh 4 h Q S) = some (none, oh 4 (mvX U w W h.2.2.1 (mvH h tv) (bF n1 SK1 (p.2.2 (i + 1)))) Q (uI S6 8 (nI (k + 1)))) := by
    intro mv hc hj
    rw [hc] at eK
    obtain ⟨S2, v2, e1, e2, g8⟩ := h_noteB (d + 1) (frB U (bF n1 SK1 (p.2.2 (i + 1)))) hs a1 v1 hj
    rw [← clBad_fr] at v2
    refine ⟨S2, v2, g8.trans h8, fun S3 S4 S6 tv x7 x11 x8 eT e53 e53' => ?_⟩
    exact hd_run d a2 hbq hbb rfl hn6 (by omega) hW hWQ hWa hU hv.2.1 b5 q7 x7 x11 x8 hk eK (h_word (d + 1) hs a1 v1.r0 v1.2.1 hj) e1 e2 eT e53 e53'
  unfold hdF
  by_cases cd : pWd p i 1685221232 = true
  · rw [if_pos cd]
    have hj : i + 1 ≤ N := hN.ltc hi (wd1 _ _ cd) (by decide)
    obtain ⟨S2, v2, g2, gg⟩ := go false (by rw [if_neg (by decide)]; exact (cK_wd (hkp i) (Or.inr (Or.inr (Or.inl ⟨rfl, rfl⟩)))).mpr cd) hj
    have tX : ∀ S3 q, q ≤ N → hX P S0 S3 q → sI S3 8 = nI k → xm (d + 2) 52 [.ref Q, .int (nI 2)] (oh 4 h Q S2) = some (none, oh 4 h Q S3) → hdR (d + 3) Q P W κ0 κ1 κ2 S0 (bF n1 SK1) (bF n2 SK2) U w p N i z k C S h (.inl q) := by
      intro S3 q hq x3 g3 eT
      have x4 := x3.op (.ref h.2.2.1) (nI 0)
      exact ⟨hq, _, _, gg S3 S3 _ (-nI 1) (x4.r7.trans r7) rfl g3 eT (fun q => by cases q) (fun _ => ⟨rfl, rfl, h_takeF (d + 1) hs (a1.kp (kpm _) a5) x4.r0 x4.2.1 hq x4.2.2.1⟩), x4.ct _, Or.inr ⟨_, rfl⟩⟩
    by_cases cn : pNm p (i + 1) = true
    · rw [if_pos cn]
      have hj2 : i + 2 ≤ N := hN.ltc hj (pNm_1 cn).1 (by decide)
      have eT : xm (d + 2) 52 [.ref Q, .int (nI 2)] (oh 4 h Q S2) = _ := h_take (d + 1) hs a1 v2.r0 v2.2.1 hj v2.2.2.1 (cK_nm.mpr cn) (by omega)
      have v3 := (v2.at (i + 2)).op (.ref h.2.2.1) (nI 0)
      have hm1 := a1.kp (kpm (-nI 1)) a5
      by_cases cs : p.1 (i + 2) = nI 59
      · rw [if_pos cs]
        have hj3 : i + 3 ≤ N := hN.ltc hj2 cs (by decide)
        have v4 := v3.at (i + 3)
        exact ⟨by omega, hj3, _, gg _ _ _ (-nI 1) (v4.r7.trans r7) rfl g2 eT (fun q => by cases q) (fun _ => ⟨rfl, rfl, h_take (d + 1) hs hm1 v3.r0 v3.2.1 hj2 v3.2.2.1 ((cK_c (by decide)).mpr cs) (by omega)⟩), v4.ct _, rfl, rfl⟩
      · rw [if_neg cs]
        have x4 := v3.bad
        exact ⟨hj2, _, _, gg _ _ _ (-nI 1) (x4.r7.trans r7) rfl g2 eT (fun q => by cases q) (fun _ => ⟨rfl, rfl, h_takeX (d + 1) hs hm1 v3.r0 v3.2.1 hj2 v3.2.2.1 (fun q => cs ((cK_c (by decide)).mp q))⟩), x4.ct _, Or.inr ⟨_, rfl⟩⟩
    · rw [if_neg cn]
      exact tX _ (i + 1) hj v2.bad g2 (h_takeX (d + 1) hs a1 v2.r0 v2.2.1 hj v2.2.2.1 (fun q => cn (cK_nm.mp q)))
  · rw [if_neg cd]
    by_cases cm : pWd p i 1836021349 = true
    · rw [if_pos cm]
      have hj : i + 1 ≤ N := hN.ltc hi (wd1 _ _ cm) (by decide)
      obtain ⟨S2, v2, g2, gg⟩ := go true (by rw [if_pos rfl]; exact (cK_wd (hkp i) (Or.inr (Or.inl ⟨rfl, rfl⟩))).mpr cm) hj
      have hb1 := hEx.2.1
      have hb2 := hEx.2.2.1
      have hc : ∀ x, bF n1 SK1 (p.2.2 (i + 1)) = some x → x < n1 := fun x hx => bF_lt hx
      by_cases cn : pNm p (i + 1) = true
      · rw [if_pos cn]
        have hj2 : i + 2 ≤ N := hN.ltc hj (pNm_1 cn).1 (by decide)
        have eT : xm (d + 2) 52 [.ref Q, .int (nI 2)] (oh 4 h Q S2) = _ := h_take (d + 1) hs a1 v2.r0 v2.2.1 hj v2.2.2.1 (cK_nm.mpr cn) (by omega)
        have v3 := v2.at (i + 2)
        have ht := h_target d (i := i + 2) (i1 := i + 3) (i2 := i + 4) (i3 := i + 5) rfl rfl rfl hs hEx.1 hb1 hb2 hp hc v3 hj2
        have fin : ∀ S4 o q, q ≤ N → xm (d + 2) 53 [.ref Q, .int (oI (bF n1 SK1 (p.2.2 (i + 1))))] (oh 4 (xmk h mvE 7) Q (uI S2 13 (nI (i + 2)))) = some (some (.int (oI o)), oh 4 (xmk h mvE 7) Q S4) → hX P S0 S4 q → sI S4 8 = sI (uI S2 13 (nI (i + 2))) 8 → hdR (d + 3) Q P W κ0 κ1 κ2 S0 (bF n1 SK1) (bF n2 SK2) U w p N i z k C S h (.inl q) := by
          intro S4 o q hq e53 x4 g4
          have x5 := x4.op (.ref h.2.2.1) (nI 1)
          exact ⟨hq, _, _, gg _ S4 _ (oI o) (x5.r7.trans r7) rfl (g4.trans g2) eT (fun _ => ⟨e53, rfl⟩) (fun q => by cases q), x5.ct _, Or.inr ⟨_, rfl⟩⟩
        by_cases ct : pWd p (i + 2) 29807 = true
        · rw [if_pos ct]
          obtain ⟨hj3, ht1, ht2⟩ := ht.2 ct
          by_cases cn2 : pNm p (i + 3) = true
          · rw [if_pos cn2]
            obtain ⟨hj4, ht3, ht4⟩ := ht2 cn2
            by_cases cb : p.1 (i + 4) = nI 123
            · rw [if_pos cb]
              obtain ⟨hj5, S4, e53, v4, g4⟩ := ht4 cb
              have v5 := (v4.kinds (kR κ0 κ1 (bF n1 SK1 (p.2.2 (i + 1)))) (kR κ0 κ2 (bF n2 SK2 (p.2.2 (i + 3))))).op (.ref h.2.2.1) (nI 1)
              exact ⟨by omega, hj5, _, gg _ _ _ _ (v5.r7.trans r7) rfl (g4.trans g2) eT (fun _ => ⟨e53, rfl⟩) (fun q => by cases q), v5.ct _, rfl, rfl, rfl, rfl, rfl⟩
            · rw [if_neg cb]
              obtain ⟨S4, o, e53, x4, g4⟩ := ht3 cb
              exact fin S4 o (i + 4) hj4 e53 x4 g4
          · rw [if_neg cn2]
            obtain ⟨S4, o, e53, x4, g4⟩ := ht1 cn2
            exact fin S4 o (i + 3) hj3 e53 x4 g4
        · rw [if_neg ct]
          obtain ⟨S4, o, e53, x4, g4⟩ := ht.1 ct
          exact fin S4 o (i + 2) hj2 e53 x4 g4
      · rw [if_neg cn]
        have x3 := v2.bad
        obtain ⟨S4, e53, x4, g4⟩ := h_tX d hs hEx.1 hb1 hb2 hp hc x3 hj
        have x5 := x4.op (.ref h.2.2.1) (nI 1)
        exact ⟨hj, _, _, gg _ S4 _ _ (x5.r7.trans r7) rfl (g4.trans g2) (h_takeX (d + 1) hs a1 v2.r0 v2.2.1 hj v2.2.2.1 (fun q => cn (cK_nm.mp q))) (fun _ => ⟨e53, rfl⟩) (fun q => by cases q), x5.ct _, Or.inr ⟨_, rfl⟩⟩
    · rw [if_neg cm]
      have n5 : ¬ cK p i = nI 5 := fun q => cm ((cK_wd (hkp i) (Or.inr (Or.inl ⟨rfl, rfl⟩))).mp q)
      have n6 : ¬ cK p i = nI 6 := fun q => cd ((cK_wd (hkp i) (Or.inr (Or.inr (Or.inl ⟨rfl, rfl⟩)))).mp q)
      refine ⟨hi, uI S 14 (nI 1), h, ?_, hv.bad, Or.inl rfl⟩
      have e0 : xm (d + 3) 48 [.ref Q] (oh 4 h Q S) = _ := E_48 (d + 2) (oh 4 h Q S) (.ref Q) rfl
      rw [e0]
      generalize cK p i = ck at *
      simp (disch := omega) only [q_48_0, q_48_1, q_48_4, q_48_5, q_48_8, q_48_9, q_48_12, q_48_13, q_48_14, q_48_15, q_48_18, q_48_19, q_48_22, q_48_24, q_48_27, q_48_28, q_48_29, q_48_32, og_4_14, op_4_14, og_4_13, op_4_13, og_4_5, og_4_7, og_4_11, op_4_11, og_4_12, op_4_12, og_4_8, op_4_8, o_is, o_ob, ofs_len4, ↓reduceIte, k_cr, k_ci, k_oR, k_oN, k_aR, k_aN, and_true, true_and, and_self, eq_self, Nat.reduceLT, Nat.reduceLeDiff, Nat.reduceEqDiff, Nat.reduceAdd, Nat.reduceMul, Bool.true_eq_false, Bool.false_eq_true, Nat.add_sub_cancel, Nat.not_lt_zero, Nat.zero_le, k_sub, k_sb1, k_r, k_n, k_ret, k_t1, k_t0, k_nr, k_nn, k_z0, k_z1, k_zb, x_okI, lit_nI, k_in, k_cl, k_lt, k_le, k_eq, k_neg, nI_add, nI_mul, k_clt, k_cgt, k_cle, k_cge, k_ceq, bI_0, k_sh8, ne_eq, Nat.add_eq_zero_iff, Nat.one_ne_zero, Nat.succ_ne_zero, and_false, false_and, not_false_eq_true, not_true_eq_false, ite_true, ite_false, if_true, if_false, eK, n5, n6]
