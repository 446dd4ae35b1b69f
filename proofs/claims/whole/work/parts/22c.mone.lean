/-! The reference carries a VALUE. -/
def nvU (w : vW) (i : Nat) (x : Nat × (Nat → Int64)) : vW := (w.1, up w.2.1 i x.1, fun m k => if m = i ∧ k < x.1 then x.2 k else w.2.2 m k)
def nvS (g : Nat → Nat ⊕ Option (Nat × (Nat → Int64))) : Nat → Nat → vW → (Nat × Nat) ⊕ vW
  | 0, _, w => .inr w
  | k + 1, i, w => match g i with
    | .inl q => .inl (q, i)
    | .inr none => nvS g k (i + 1) w
    | .inr (some x) => nvS g k (i + 1) (nvU w i x)
def nv0 (key : Int64) (nN : Nat) (rn : Nat → Bool) : vW := (key, fun i => if i < nN ∧ rn i = false then 1 else 0, fun _ _ => 0)
/-- BUILDS of the reference, with their TYPES -/
def refT (S : gS) (cN mN ty : Nat → Nat) : Prop := bdOK S cN mN ∧ rwOK S ∧ ∀ i, i < 384 → sA S 4 i = nI (ty i) ∧ ty i ≤ 7
theorem refT.fr {P : Nat → Bool} {S T : gS} {cN mN ty : Nat → Nat} (h : refT S cN mN ty) (hf : fr P S T) (h0 : P 0 = false) (h2 : P 2 = false) (h4 : P 4 = false) (h5 : P 5 = false) : refT T cN mN ty := by
  obtain ⟨⟨a1, a2⟩, a3, a4⟩ := h
  refine ⟨⟨fun b hb => ?_, fun b c hb hc => ?_⟩, fun i => ?_, fun i hi => ?_⟩
  · rw [(hf 0 h0).2.2.1]
    exact a1 b hb
  · rw [(hf 2 h2).2.2.1]
    exact a2 b c hb hc
  · unfold rw_
    rw [(hf 5 h5).2.2.1]
    exact a3 i
  · rw [(hf 4 h4).2.2.1]
    exact a4 i hi
theorem rkO.fr {P : Nat → Bool} {S T : gS} {k : Option Nat} {b0 : Nat} {af : Nat → Nat} {R : List rT} (h : rkO S k b0 af R) (hf : fr P S T) (hP : ∀ q, 41 ≤ q → q ≤ 52 → P q = false) : rkO T k b0 af R := by
  cases k with
  | none => exact h
  | some k =>
    obtain ⟨h1, h2, h3, h4, h5, h6⟩ := h
    refine ⟨h1, ?_, ?_, h4, fun q hq => ?_, fun q r hq => ?_⟩
    · rw [(hf 41 (hP 41 (by omega) (by omega))).2.2.1]
      exact h2
    · rw [(hf 41 (hP 41 (by omega) (by omega))).2.2.1]
      exact h3
    · rw [(hf 48 (hP 48 (by omega) (by omega))).2.2.1]
      exact h5 q hq
    · obtain ⟨x1, x2, x3, x4⟩ := h6 q r hq
      obtain ⟨r1, r2, r3, r4, r5⟩ := x1
      refine ⟨⟨?_, ?_, ?_, fun z => ?_, ?_⟩, x2, x3, fun x a hx => ⟨?_, ?_⟩⟩
      · rw [(hf 43 (hP 43 (by omega) (by omega))).2.2.1]
        exact r1
      · rw [(hf 44 (hP 44 (by omega) (by omega))).2.2.2.1]
        exact r2
      · rw [(hf 45 (hP 45 (by omega) (by omega))).2.2.1]
        exact r3
      · rw [(hf 46 (hP 46 (by omega) (by omega))).2.2.1]
        exact r4 z
      · rw [(hf 47 (hP 47 (by omega) (by omega))).2.2.1]
        exact r5
      · rw [(hf 50 (hP 50 (by omega) (by omega))).2.2.1]
        exact (x4 x a hx).1
      · rw [(hf 51 (hP 51 (by omega) (by omega))).2.2.2.1]
        exact (x4 x a hx).2
/-- the cells of VALUE to -/
def nwV (S : gS) (to : Nat) (w : vW) : Prop := (∀ m, m < 8 → sA S 10 (8 * to + m) = nI (w.2.1 m) ∧ w.2.1 m ≤ 8) ∧ ∀ m k, m < 8 → k < 8 → sL S 11 (64 * to + 8 * m + k) = w.2.2 m k
/-- what is left alone while members are carried to VALUE to -/
def coF (S S' : gS) (to : Nat) : Prop := fr cmP S S' ∧ (∀ q, (q < 8 * to ∨ 8 * to + 8 ≤ q) → sA S' 10 q = sA S 10 q) ∧ ∀ q, (q < 64 * to ∨ 64 * to + 64 ≤ q) → sL S' 11 q = sL S 11 q
theorem coF.trans {S S' S'' : gS} {to : Nat} (h1 : coF S S' to) (h2 : coF S' S'' to) : coF S S'' to := ⟨h1.1.trans h2.1, fun q hq => (h2.2.1 q hq).trans (h1.2.1 q hq), fun q hq => (h2.2.2 q hq).trans (h1.2.2 q hq)⟩
theorem cmF.co {S S' : gS} {to m : Nat} (h : cmF S S' to m) (hm : m < 8) : coF S S' to := ⟨h.1, fun q hq => h.2.1 q (by omega), fun q hq => h.2.2 q (by omega)⟩
theorem coF.V {S S' : gS} {to b c n v : Nat} {w : vW} (h : coF S S' to) (hv : wkV S b c n v w) (hne : v ≠ to) : wkV S' b c n v w := by
  obtain ⟨a1, a2, a3, a4, a5, a6, a7, a8, a9⟩ := hv
  refine ⟨a1, a2, ?_, a4, a5, ?_, ?_, fun m hm => ⟨?_, (a8 m hm).2⟩, fun m k hm hk => ?_⟩
  · rw [(h.1 2 (by decide)).2.2.1]
    exact a3
  · rw [(h.1 9 (by decide)).2.2.1]
    exact a6
  · rw [(h.1 8 (by decide)).2.2.2.1]
    exact a7
  · rw [h.2.1 _ (by omega)]
    exact (a8 m hm).1
  · rw [h.2.2 _ (by omega)]
    exact a9 m k hm hk
theorem eMs_eK (S : gS) (mN : Nat → Nat) (b c : Nat) (w : Int64) : (eK S mN b c).1 w = eMs S b c (mN (6 * b + c)) w := rfl
section
variable {f t c v to e : Nat} {cN mN ty : Nat → Nat} {vw : vW} {k : Option Nat} {b0 : Nat} {af : Nat → Nat} {R : List rT} {eo : kE} {nm : Nat → Int64}
/-- what member i of the new VALUE gets -/
def gM (eo : kE) (vw : vW) (tyO tyN : Nat → Nat) (rn : Nat → Bool) (nm : Nat → Int64) (R : List rT) (i : Nat) : Nat ⊕ Option (Nat × (Nat → Int64)) := fiM eo vw tyO (tyN i) (plR eo (rn i) R (nm i))
theorem fiC_8 {vw : vW} {ty : Nat → Nat} {t : Nat} {o : Option Nat} {x : Nat × (Nat → Int64)} (h : fiC vw ty t o = .inr (some x)) (h8 : ∀ m, o = some m → vw.2.1 m ≤ 8) : x.1 ≤ 8 := by
  cases o with
  | none => cases h
  | some o =>
    have h : (if cpQ vw ty t o (vw.2.1 o) 0 = true then .inr (some (vw.2.1 o, fun k => tnC (vw.2.2 o k) (ty o) t)) else .inl 1 : Nat ⊕ Option (Nat × (Nat → Int64))) = .inr (some x) := h
    split at h
    · cases h
      exact h8 o rfl
    · cases h
theorem smO_q {o : Option Nat} {ro : Nat → Bool} {rn : Bool} {R : List rT} {w : Int64} {x : Nat} (h : smO o ro rn R w = some x) : o = some x := by
  unfold smO at h
  split at h
  · cases h
  · split at h
    · exact h
    · cases h
theorem fiM_8 {vw : vW} {ty : Nat → Nat} {t : Nat} {rn : Bool} {w : Int64} {x : Nat × (Nat → Int64)} (h : fiM eo vw ty t (plR eo rn R w) = .inr (some x)) (h8 : ∀ v m, eo.1 v = some m → vw.2.1 m ≤ 8) : x.1 ≤ 8 := by
  unfold fiM plR at h
  cases hf : R.find? (isR 1 w) with
  | none =>
    rw [hf] at h
    exact fiC_8 h (fun m hm => h8 w m (smO_q hm))
  | some r =>
    rw [hf] at h
    cases hj : r.2.2.2.2.1 with
    | true =>
      simp only [hj, if_true] at h
      exact fiC_8 h (fun m hm => h8 _ m hm)
    | false =>
      simp only [hj, Bool.false_eq_true, if_false] at h
      unfold fiW at h
      split at h
      · cases h
      · split at h
        · cases h
          show 1 ≤ 8
          omega
        · cases h
theorem co_loop (d : Nat) (h : xH) (M : Nat) {number l8 : Int32} {l9 : Int64} (ht : t < 8) (he : e < 6) (hto : 120 ≤ to ∧ to < 180) (hvt : v < 120) (hR : rlOK eo R) (hb : b0 + R.length ≤ 699) (hwf : ∀ o, o < mN (6 * f + c) → ∀ k, k < vw.2.1 o → wfT (ty (8 * (6 * f + c) + o)) (vw.2.2 o k)) : ∀ (kk i : Nat) (S : gS) (w : vW) (l12 : Nat × Value), i + kk = mN (6 * t + e) → refT S cN mN ty → wkV S f c (mN (6 * f + c)) v vw → (∀ w, eo.1 w = eMs S f c (mN (6 * f + c)) w) → (∀ q, eo.2.1 q = rw_ S (8 * (6 * f + c) + q)) → rkO S k b0 af R → nwV S to w → (∀ m, i ≤ m → m < mN (6 * t + e) → rw_ S (8 * (6 * t + e) + m) = false → w.2.1 m = 1) → (∀ m, m < mN (6 * t + e) → ∀ r, R.find? (isR 1 (sL S 3 (8 * (6 * t + e) + m))) = some r → ¬ r.2.2.2.2.1 = true → rw_ S (8 * (6 * t + e) + m) = false) → ∃ S', coF S S' to ∧ (∀ w', nvS (gM eo vw (fun o => ty (8 * (6 * f + c) + o)) (fun i => ty (8 * (6 * t + e) + i)) (fun i => rw_ S (8 * (6 * t + e) + i)) (fun i => sL S 3 (8 * (6 * t + e) + i)) R) kk i w = .inr w' → nwV S' to w' ∧ w'.1 = w.1 ∧ xrun (d + 4) 176 101 [(1, .ref M), (1, .int (nI f)), (1, .int (nI t)), (1, .int (nI v)), (1, .int (nI e)), (1, .int (oI k)), (1, .int number), (1, .int (nI to)), (1, .int l8), (2, .long l9), (0, .null), (1, .int (nI i)), l12] [] (oh 11 h M S) = some (some (.int (nI 1)), oh 11 h M (uA S' 7 2 (sA S' 7 2 + nI 1)))) ∧ ∀ q m, nvS (gM eo vw (fun o => ty (8 * (6 * f + c) + o)) (fun i => ty (8 * (6 * t + e) + i)) (fun i => rw_ S (8 * (6 * t + e) + i)) (fun i => sL S 3 (8 * (6 * t + e) + i)) R) kk i w = .inl (q, m) → xrun (d + 4) 176 101 [(1, .ref M), (1, .int (nI f)), (1, .int (nI t)), (1, .int (nI v)), (1, .int (nI e)), (1, .int (oI k)), (1, .int number), (1, .int (nI to)), (1, .int l8), (2, .long l9), (0, .null), (1, .int (nI i)), l12] [] (oh 11 h M S) = some (some (.int (nI 0)), oh 11 h M (rfS S' q (if q = 3 then -nI 1 else nI c) (nI m) number vw.1))
  | 0, i, S, w, l12, hi, hT, hV, heo, hro, hk, hw, h1, hrow => by
    have hnN := hT.1.2 t e ht he
    have g2 := hnN.1
    have hle : mN (6 * t + e) ≤ i := by omega
    have h8 := hnN.2
    refine ⟨S, ⟨fr.rfl, fun _ _ => rfl, fun _ _ => rfl⟩, fun w' hw' => ?_, fun q m hq => by cases hq⟩
    have hw' : w = w' := Sum.inr.inj hw'
    subst hw'
    refine ⟨hw, rfl, ?_⟩
    generalize oI k = kv at *
    rw [q_176_101]
    simp (disch := omega) only [q_176_0, q_176_2, q_176_3, q_176_6, q_176_7, q_176_8, q_176_9, q_176_11, q_176_12, q_176_15, q_176_17, q_176_18, q_176_19, q_176_20, q_176_22, q_176_23, q_176_25, q_176_28, q_176_29, q_176_31, q_176_32, q_176_33, q_176_36, q_176_38, q_176_40, q_176_41, q_176_44, q_176_45, q_176_48, q_176_49, q_176_50, q_176_53, q_176_54, q_176_56, q_176_57, q_176_58, q_176_61, q_176_63, q_176_65, q_176_66, q_176_69, q_176_70, q_176_73, q_176_76, q_176_77, q_176_78, q_176_81, q_176_82, q_176_83, q_176_85, q_176_88, q_176_89, q_176_90, q_176_93, q_176_95, q_176_97, q_176_98, q_176_99, q_176_103, q_176_104, q_176_107, q_176_109, q_176_110, q_176_111, q_176_113, q_176_114, q_176_115, q_176_118, q_176_119, q_176_120, q_176_121, q_176_122, q_176_124, q_176_126, q_176_128, q_176_130, q_176_133, q_176_135, q_176_137, q_176_140, q_176_141, q_176_143, q_176_144, q_176_146, q_176_148, q_176_151, q_176_152, q_176_155, q_176_158, q_176_159, q_176_162, q_176_163, q_176_164, q_176_165, q_176_166, q_176_167, q_176_168, q_176_169, og_11_7, or_11_7, ow_11_7, og_11_64, or_11_64, ow_11_64, og_11_8, or_11_8, ow_11_8, og_11_61, og_11_2, or_11_2, ow_11_2, o_is, o_ob, ofs_len11, ↓reduceIte, k_cr, k_ci, k_oR, k_oN, k_aR, k_aN, and_true, true_and, and_self, eq_self, Nat.reduceLT, Nat.reduceLeDiff, Nat.reduceEqDiff, Nat.reduceAdd, Nat.reduceMul, Bool.true_eq_false, Bool.false_eq_true, Nat.add_sub_cancel, Nat.not_lt_zero, Nat.zero_le, k_sub, k_sb1, k_r, k_n, k_ret, k_t1, k_t0, k_nr, k_nn, k_z0, k_z1, k_zb, x_okI, lit_nI, k_in, k_cl, k_lt, k_le, k_eq, k_neg, nI_add, nI_mul, k_clt, k_cgt, k_cle, k_cge, k_ceq, bI_0, k_sh8, ne_eq, Nat.add_eq_zero_iff, Nat.one_ne_zero, Nat.succ_ne_zero, and_false, false_and, not_false_eq_true, not_true_eq_false, ite_true, ite_false, if_true, if_false, sI_uI, sJ_uI, sA_uI, sL_uI, sR_uI, sQ_uI, sI_uJ, sJ_uJ, sA_uJ, sL_uJ, sR_uJ, sQ_uJ, sI_uA, sJ_uA, sA_uA, sL_uA, sR_uA, sQ_uA, sI_uL, sJ_uL, sA_uL, sL_uL, sR_uL, sQ_uL, sI_uR, sJ_uR, sA_uR, sL_uR, sR_uR, sQ_uR, sI_uQ, sJ_uQ, sA_uQ, sL_uQ, sR_uQ, sQ_uQ, g2, hle]
  | kk + 1, i, S, w, l12, hi, hT, hV, heo, hro, hk, hw, h1, hrow => by
    have hnN := hT.1.2 t e ht he
    have g2 := hnN.1
    have h8 := hnN.2
    have hle : ¬ mN (6 * t + e) ≤ i := by omega
    have hi8 : i < 8 := by omega
    have hnO := hT.1.2 f c hV.1 hV.2.1
    have hidx : ∀ q, q < 8 → 8 * (6 * f + c) + q < 384 := fun q hq => by
      have := hV.1
      have := hV.2.1
      omega
    obtain ⟨S1, e1, c1, c2⟩ := m_carryMember d h M S (ty := fun o => ty (8 * (6 * f + c) + o)) (tt := ty (8 * (6 * t + e) + i)) (rn := rw_ S (8 * (6 * t + e) + i)) hV ht he hi8 hto hvt heo (fun q hq => by rw [hro]; exact hT.2.1 _) (hT.2.1 _) (fun q hq => hT.2.2 _ (hidx q (by omega))) (hT.2.2 _ (by omega)) hwf hk hb hR (fun r hr hj => by
      have := hrow i (by omega) r hr hj
      rw [(hw.1 i hi8).1, h1 i (Nat.le_refl _) (by omega) this])
    have co := c1.co hi8
    have f1 := co.1
    have hg : gM eo vw (fun o => ty (8 * (6 * f + c) + o)) (fun i => ty (8 * (6 * t + e) + i)) (fun i => rw_ S (8 * (6 * t + e) + i)) (fun i => sL S 3 (8 * (6 * t + e) + i)) R i = fiM eo vw (fun o => ty (8 * (6 * f + c) + o)) (ty (8 * (6 * t + e) + i)) (plR eo (rw_ S (8 * (6 * t + e) + i)) R (sL S 3 (8 * (6 * t + e) + i))) := rfl
    have eN : nvS (gM eo vw (fun o => ty (8 * (6 * f + c) + o)) (fun i => ty (8 * (6 * t + e) + i)) (fun i => rw_ S (8 * (6 * t + e) + i)) (fun i => sL S 3 (8 * (6 * t + e) + i)) R) (kk + 1) i w = (match gM eo vw (fun o => ty (8 * (6 * f + c) + o)) (fun i => ty (8 * (6 * t + e) + i)) (fun i => rw_ S (8 * (6 * t + e) + i)) (fun i => sL S 3 (8 * (6 * t + e) + i)) R i with
      | .inl q => .inl (q, i)
      | .inr none => nvS (gM eo vw (fun o => ty (8 * (6 * f + c) + o)) (fun i => ty (8 * (6 * t + e) + i)) (fun i => rw_ S (8 * (6 * t + e) + i)) (fun i => sL S 3 (8 * (6 * t + e) + i)) R) kk (i + 1) w
      | .inr (some x) => nvS (gM eo vw (fun o => ty (8 * (6 * f + c) + o)) (fun i => ty (8 * (6 * t + e) + i)) (fun i => rw_ S (8 * (6 * t + e) + i)) (fun i => sL S 3 (8 * (6 * t + e) + i)) R) kk (i + 1) (nvU w i x)) := rfl
    rw [eN, hg]
    have e1 : xm (d + 4) 181 [.ref M, .int (nI f), .int (nI t), .int (nI v), .int (nI to), .int (nI e), .int (nI i), .int (oI k)] (oh 11 h M S) = _ := e1
    cases hq : fiM eo vw (fun o => ty (8 * (6 * f + c) + o)) (ty (8 * (6 * t + e) + i)) (plR eo (rw_ S (8 * (6 * t + e) + i)) R (sL S 3 (8 * (6 * t + e) + i))) with
    | inl q =>
      rw [hq] at e1
      have e1 : xm (d + 4) 181 [.ref M, .int (nI f), .int (nI t), .int (nI v), .int (nI to), .int (nI e), .int (nI i), .int (oI k)] (oh 11 h M S) = some (some (.int (nI q)), oh 11 h M S1) := e1
      have hq5 : q ≠ 0 ∧ q < 100 := fiM_ne hq
      refine ⟨S1, co, fun w' hw' => (by cases hw'), fun q2 m2 h2 => ?_⟩
      cases h2
      have eR : xm (d + 4) 175 [.ref M, .int (nI q), .int (nI v), .int (nI i), .int number] (oh 11 h M S1) = _ := m_refuse (d + 3) h M S1 (mb := nI i) (st := number) hq5.2 (show v < 180 by omega)
      rw [(f1 9 (by decide)).2.2.1, (f1 8 (by decide)).2.2.2.1, hV.2.2.2.2.2.1, hV.2.2.2.2.2.2.1] at eR
      have q0 := hq5.1
      have q1 := hq5.2
      have q00 : ¬ q = 0 := q0
      generalize oI k = kv at *
      rw [q_176_101]
      simp (disch := omega) only [q_176_0, q_176_2, q_176_3, q_176_6, q_176_7, q_176_8, q_176_9, q_176_11, q_176_12, q_176_15, q_176_17, q_176_18, q_176_19, q_176_20, q_176_22, q_176_23, q_176_25, q_176_28, q_176_29, q_176_31, q_176_32, q_176_33, q_176_36, q_176_38, q_176_40, q_176_41, q_176_44, q_176_45, q_176_48, q_176_49, q_176_50, q_176_53, q_176_54, q_176_56, q_176_57, q_176_58, q_176_61, q_176_63, q_176_65, q_176_66, q_176_69, q_176_70, q_176_73, q_176_76, q_176_77, q_176_78, q_176_81, q_176_82, q_176_83, q_176_85, q_176_88, q_176_89, q_176_90, q_176_93, q_176_95, q_176_97, q_176_98, q_176_99, q_176_103, q_176_104, q_176_107, q_176_109, q_176_110, q_176_111, q_176_113, q_176_114, q_176_115, q_176_118, q_176_119, q_176_120, q_176_121, q_176_122, q_176_124, q_176_126, q_176_128, q_176_130, q_176_133, q_176_135, q_176_137, q_176_140, q_176_141, q_176_143, q_176_144, q_176_146, q_176_148, q_176_151, q_176_152, q_176_155, q_176_158, q_176_159, q_176_162, q_176_163, q_176_164, q_176_165, q_176_166, q_176_167, q_176_168, q_176_169, og_11_7, or_11_7, ow_11_7, og_11_64, or_11_64, ow_11_64, og_11_8, or_11_8, ow_11_8, og_11_61, og_11_2, or_11_2, ow_11_2, o_is, o_ob, ofs_len11, ↓reduceIte, k_cr, k_ci, k_oR, k_oN, k_aR, k_aN, and_true, true_and, and_self, eq_self, Nat.reduceLT, Nat.reduceLeDiff, Nat.reduceEqDiff, Nat.reduceAdd, Nat.reduceMul, Bool.true_eq_false, Bool.false_eq_true, Nat.add_sub_cancel, Nat.not_lt_zero, Nat.zero_le, k_sub, k_sb1, k_r, k_n, k_ret, k_t1, k_t0, k_nr, k_nn, k_z0, k_z1, k_zb, x_okI, lit_nI, k_in, k_cl, k_lt, k_le, k_eq, k_neg, nI_add, nI_mul, k_clt, k_cgt, k_cle, k_cge, k_ceq, bI_0, k_sh8, ne_eq, Nat.add_eq_zero_iff, Nat.one_ne_zero, Nat.succ_ne_zero, and_false, false_and, not_false_eq_true, not_true_eq_false, ite_true, ite_false, if_true, if_false, sI_uI, sJ_uI, sA_uI, sL_uI, sR_uI, sQ_uI, sI_uJ, sJ_uJ, sA_uJ, sL_uJ, sR_uJ, sQ_uJ, sI_uA, sJ_uA, sA_uA, sL_uA, sR_uA, sQ_uA, sI_uL, sJ_uL, sA_uL, sL_uL, sR_uL, sQ_uL, sI_uR, sJ_uR, sA_uR, sL_uR, sR_uR, sQ_uR, sI_uQ, sJ_uQ, sA_uQ, sL_uQ, sR_uQ, sQ_uQ, g2, hle, e1, q00, eR]
    | inr g =>
      rw [hq] at e1
      have e1 : xm (d + 4) 181 [.ref M, .int (nI f), .int (nI t), .int (nI v), .int (nI to), .int (nI e), .int (nI i), .int (oI k)] (oh 11 h M S) = some (some (.int (nI 0)), oh 11 h M S1) := e1
      have c3 := c2 g hq
      -- what the state is behind it
      have go : ∀ w1 : vW, nwV S1 to w1 → w1.1 = w.1 → (∀ m, i + 1 ≤ m → w1.2.1 m = w.2.1 m) → ∃ S', coF S S' to ∧ (∀ w', nvS (gM eo vw (fun o => ty (8 * (6 * f + c) + o)) (fun i => ty (8 * (6 * t + e) + i)) (fun i => rw_ S (8 * (6 * t + e) + i)) (fun i => sL S 3 (8 * (6 * t + e) + i)) R) kk (i + 1) w1 = .inr w' → nwV S' to w' ∧ w'.1 = w.1 ∧ xrun (d + 4) 176 101 [(1, .ref M), (1, .int (nI f)), (1, .int (nI t)), (1, .int (nI v)), (1, .int (nI e)), (1, .int (oI k)), (1, .int number), (1, .int (nI to)), (1, .int l8), (2, .long l9), (0, .null), (1, .int (nI i)), l12] [] (oh 11 h M S) = some (some (.int (nI 1)), oh 11 h M (uA S' 7 2 (sA S' 7 2 + nI 1)))) ∧ ∀ q m, nvS (gM eo vw (fun o => ty (8 * (6 * f + c) + o)) (fun i => ty (8 * (6 * t + e) + i)) (fun i => rw_ S (8 * (6 * t + e) + i)) (fun i => sL S 3 (8 * (6 * t + e) + i)) R) kk (i + 1) w1 = .inl (q, m) → xrun (d + 4) 176 101 [(1, .ref M), (1, .int (nI f)), (1, .int (nI t)), (1, .int (nI v)), (1, .int (nI e)), (1, .int (oI k)), (1, .int number), (1, .int (nI to)), (1, .int l8), (2, .long l9), (0, .null), (1, .int (nI i)), l12] [] (oh 11 h M S) = some (some (.int (nI 0)), oh 11 h M (rfS S' q (if q = 3 then -nI 1 else nI c) (nI m) number vw.1)) := by
        intro w1 hw1 hk1 hm1
        have rr : ∀ q, rw_ S1 q = rw_ S q := fun q => by
          unfold rw_
          rw [(f1 5 (by decide)).2.2.1]
        have s3 : sL S1 3 = sL S 3 := (f1 3 (by decide)).2.2.2.1
        obtain ⟨S', i1, i2, i3⟩ := co_loop d h M (number := number) (l8 := l8) (l9 := l9) ht he hto hvt hR hb hwf kk (i + 1) S1 w1 (1, .int (nI 0)) (by omega) (hT.fr f1 (by decide) (by decide) (by decide) (by decide)) (co.V hV (by omega)) (fun w => by rw [eMs_fr f1 (by decide)]; exact heo w) (fun q => by rw [rr]; exact hro q) (hk.fr f1 (fun q h1 h2 => by
          unfold cmP
          simp only [Bool.or_eq_false_iff, decide_eq_false_iff_not]
          omega)) hw1 (fun m h2 h3 h4 => by rw [hm1 m h2]; exact h1 m (by omega) h3 (by rw [← rr]; exact h4)) (fun m h2 r hr hj => by
          rw [rr]
          rw [s3] at hr
          exact hrow m h2 r hr hj)
        have er : (fun i => rw_ S1 (8 * (6 * t + e) + i)) = fun i => rw_ S (8 * (6 * t + e) + i) := funext fun q => rr _
        rw [er, s3] at i2 i3
        have st : xrun (d + 4) 176 101 [(1, .ref M), (1, .int (nI f)), (1, .int (nI t)), (1, .int (nI v)), (1, .int (nI e)), (1, .int (oI k)), (1, .int number), (1, .int (nI to)), (1, .int l8), (2, .long l9), (0, .null), (1, .int (nI i)), l12] [] (oh 11 h M S) = xrun (d + 4) 176 101 [(1, .ref M), (1, .int (nI f)), (1, .int (nI t)), (1, .int (nI v)), (1, .int (nI e)), (1, .int (oI k)), (1, .int number), (1, .int (nI to)), (1, .int l8), (2, .long l9), (0, .null), (1, .int (nI (i + 1))), (1, .int (nI 0))] [] (oh 11 h M S1) := by
          generalize oI k = kv at *
          rw [q_176_101]
          simp (disch := omega) only [q_176_0, q_176_2, q_176_3, q_176_6, q_176_7, q_176_8, q_176_9, q_176_11, q_176_12, q_176_15, q_176_17, q_176_18, q_176_19, q_176_20, q_176_22, q_176_23, q_176_25, q_176_28, q_176_29, q_176_31, q_176_32, q_176_33, q_176_36, q_176_38, q_176_40, q_176_41, q_176_44, q_176_45, q_176_48, q_176_49, q_176_50, q_176_53, q_176_54, q_176_56, q_176_57, q_176_58, q_176_61, q_176_63, q_176_65, q_176_66, q_176_69, q_176_70, q_176_73, q_176_76, q_176_77, q_176_78, q_176_81, q_176_82, q_176_83, q_176_85, q_176_88, q_176_89, q_176_90, q_176_93, q_176_95, q_176_97, q_176_98, q_176_99, q_176_103, q_176_104, q_176_107, q_176_109, q_176_110, q_176_111, q_176_113, q_176_114, q_176_115, q_176_118, q_176_119, q_176_120, q_176_121, q_176_122, q_176_124, q_176_126, q_176_128, q_176_130, q_176_133, q_176_135, q_176_137, q_176_140, q_176_141, q_176_143, q_176_144, q_176_146, q_176_148, q_176_151, q_176_152, q_176_155, q_176_158, q_176_159, q_176_162, q_176_163, q_176_164, q_176_165, q_176_166, q_176_167, q_176_168, q_176_169, og_11_7, or_11_7, ow_11_7, og_11_64, or_11_64, ow_11_64, og_11_8, or_11_8, ow_11_8, og_11_61, og_11_2, or_11_2, ow_11_2, o_is, o_ob, ofs_len11, ↓reduceIte, k_cr, k_ci, k_oR, k_oN, k_aR, k_aN, and_true, true_and, and_self, eq_self, Nat.reduceLT, Nat.reduceLeDiff, Nat.reduceEqDiff, Nat.reduceAdd, Nat.reduceMul, Bool.true_eq_false, Bool.false_eq_true, Nat.add_sub_cancel, Nat.not_lt_zero, Nat.zero_le, k_sub, k_sb1, k_r, k_n, k_ret, k_t1, k_t0, k_nr, k_nn, k_z0, k_z1, k_zb, x_okI, lit_nI, k_in, k_cl, k_lt, k_le, k_eq, k_neg, nI_add, nI_mul, k_clt, k_cgt, k_cle, k_cge, k_ceq, bI_0, k_sh8, ne_eq, Nat.add_eq_zero_iff, Nat.one_ne_zero, Nat.succ_ne_zero, and_false, false_and, not_false_eq_true, not_true_eq_false, ite_true, ite_false, if_true, if_false, sI_uI, sJ_uI, sA_uI, sL_uI, sR_uI, sQ_uI, sI_uJ, sJ_uJ, sA_uJ, sL_uJ, sR_uJ, sQ_uJ, sI_uA, sJ_uA, sA_uA, sL_uA, sR_uA, sQ_uA, sI_uL, sJ_uL, sA_uL, sL_uL, sR_uL, sQ_uL, sI_uR, sJ_uR, sA_uR, sL_uR, sR_uR, sQ_uR, sI_uQ, sJ_uQ, sA_uQ, sL_uQ, sR_uQ, sQ_uQ, g2, hle, e1]
        refine ⟨S', co.trans i1, fun w' hw' => ?_, fun q m hq2 => ?_⟩
        · obtain ⟨j1, j2, j3⟩ := i2 w' hw'
          exact ⟨j1, j2.trans hk1, st.trans j3⟩
        · exact st.trans (i3 q m hq2)
      cases g with
      | none =>
        refine go w ⟨fun m hm => ?_, fun m k hm hk => ?_⟩ rfl (fun m _ => rfl)
        · by_cases hmi : m = i
          · subst hmi
            rw [c3.1]
            exact hw.1 m hm
          · rw [c1.2.1 _ (by omega)]
            exact hw.1 m hm
        · by_cases hmi : m = i
          · subst hmi
            rw [c3.2 k hk]
            exact hw.2 m k hm hk
          · rw [c1.2.2 _ (by omega)]
            exact hw.2 m k hm hk
      | some x =>
        have hx8 : x.1 ≤ 8 := fiM_8 hq (fun v2 m hm => by
          rw [heo] at hm
          have hlt := (fnd_lt (f := fun i => sL S 3 (8 * (6 * f + c) + i)) hm).1
          exact (hV.2.2.2.2.2.2.2.1 m (by have := hV.2.2.2.1; omega)).2)
        refine go (nvU w i x) ⟨fun m hm => ?_, fun m k hm hk => ?_⟩ rfl (fun m hm => ?_)
        · show sA S1 10 (8 * to + m) = nI (up w.2.1 i x.1 m) ∧ up w.2.1 i x.1 m ≤ 8
          unfold up
          by_cases hmi : m = i
          · rw [if_pos hmi, hmi]
            exact ⟨c3.1, hx8⟩
          · rw [if_neg hmi, c1.2.1 _ (by omega)]
            exact hw.1 m hm
        · show sL S1 11 (64 * to + 8 * m + k) = if m = i ∧ k < x.1 then x.2 k else w.2.2 m k
          by_cases hmi : m = i
          · subst hmi
            rw [c3.2 k hk]
            by_cases hkx : k < x.1
            · rw [if_pos hkx, if_pos ⟨rfl, hkx⟩]
            · rw [if_neg hkx, if_neg (fun z => hkx z.2)]
              exact hw.2 m k hm hk
          · rw [if_neg (fun z => hmi z.1), c1.2.2 _ (by omega)]
            exact hw.2 m k hm hk
        · show up w.2.1 i x.1 m = w.2.1 m
          unfold up
          rw [if_neg (by omega)]
end
/-- the KEY of the new VALUE -/
def cvK (eo : kE) (vw : vW) (R : List rT) : Nat ⊕ Int64 := match R.find? (isR 0 0) with
  | none => .inr vw.1
  | some r => (match evF eo vw r.2.2.2.2.2 (fun _ => 0) 0 with
    | .inl q => .inl q
    | .inr z => .inr (z.1 0))
/-- a VALUE that is carried: why not and of which MEMBER, or the new one -/
def cvR (eo : kE) (vw : vW) (R : List rT) (g : Nat → Nat ⊕ Option (Nat × (Nat → Int64))) (nN : Nat) (rn : Nat → Bool) : (Nat × Option Nat) ⊕ vW := match cvK eo vw R with
  | .inl q => .inl (q, none)
  | .inr x => (match nvS g nN 0 (nv0 x nN rn) with
    | .inl z => .inl (z.1, some z.2)
    | .inr w => .inr w)
def coP (k : Nat) : Bool := decide (k = 8) || decide (k = 9) || decide (k = 10) || decide (k = 11) || decide (k = 27) || decide (k = 59) || decide (k = 60) || decide (k = 61) || decide (k = 64)
/-- what is left alone while VALUE to is made -/
def coG (S S' : gS) (to : Nat) : Prop := fr coP S S' ∧ (∀ q, (q < 8 * to ∨ 8 * to + 8 ≤ q) → sA S' 10 q = sA S 10 q) ∧ (∀ q, (q < 64 * to ∨ 64 * to + 64 ≤ q) → sL S' 11 q = sL S 11 q) ∧ (∀ q, q ≠ to → sL S' 8 q = sL S 8 q) ∧ (∀ q, q ≠ to → sA S' 9 q = sA S 9 q) ∧ ∀ q, q ≠ to → sA S' 64 q = sA S 64 q
theorem coG.trans {S S' S'' : gS} {to : Nat} (h1 : coG S S' to) (h2 : coG S' S'' to) : coG S S'' to := ⟨h1.1.trans h2.1, fun q hq => (h2.2.1 q hq).trans (h1.2.1 q hq), fun q hq => (h2.2.2.1 q hq).trans (h1.2.2.1 q hq), fun q hq => (h2.2.2.2.1 q hq).trans (h1.2.2.2.1 q hq), fun q hq => (h2.2.2.2.2.1 q hq).trans (h1.2.2.2.2.1 q hq), fun q hq => (h2.2.2.2.2.2 q hq).trans (h1.2.2.2.2.2 q hq)⟩
theorem coF.G {S S' : gS} {to : Nat} (h : coF S S' to) : coG S S' to := ⟨h.1.mono (fun q hq => by
    unfold coP at hq
    unfold cmP
    simp only [Bool.or_eq_false_iff] at hq ⊢
    exact ⟨⟨⟨⟨⟨hq.1.1.1.1.1.1.2, hq.1.1.1.1.1.2⟩, hq.1.1.1.1.2⟩, hq.1.1.1.2⟩, hq.1.1.2⟩, hq.1.2⟩), h.2.1, h.2.2, fun q _ => by rw [(h.1 8 (by decide)).2.2.2.1], fun q _ => by rw [(h.1 9 (by decide)).2.2.1], fun q _ => by rw [(h.1 64 (by decide)).2.2.1]⟩
theorem coG.V {S S' : gS} {to b c n v : Nat} {w : vW} (h : coG S S' to) (hv : wkV S b c n v w) (hne : v ≠ to) : wkV S' b c n v w := by
  obtain ⟨a1, a2, a3, a4, a5, a6, a7, a8, a9⟩ := hv
  refine ⟨a1, a2, ?_, a4, a5, ?_, ?_, fun m hm => ⟨?_, (a8 m hm).2⟩, fun m k hm hk => ?_⟩
  · rw [(h.1 2 (by decide)).2.2.1]
    exact a3
  · rw [h.2.2.2.2.1 v hne]
    exact a6
  · rw [h.2.2.2.1 v hne]
    exact a7
  · rw [h.2.1 _ (by omega)]
    exact (a8 m hm).1
  · rw [h.2.2.1 _ (by omega)]
    exact a9 m k hm hk
theorem cl_new (S : gS) {v t e to nN : Nat} (hto : to < 180) (hn8 : nN ≤ 8) (key : Int64) : coG S (clS (uA S 64 to (nI v)) to t e nN 8 64) to ∧ nwV (clS (uA S 64 to (nI v)) to t e nN 8 64) to (nv0 key nN (fun i => rw_ S (8 * (6 * t + e) + i))) ∧ sA (clS (uA S 64 to (nI v)) to t e nN 8 64) 9 to = nI e ∧ sA (clS (uA S 64 to (nI v)) to t e nN 8 64) 64 to = nI v := by
  have e10 : ∀ q, sA (clS (uA S 64 to (nI v)) to t e nN 8 64) 10 q = fillF (sA S 10) (c0F S t e nN) (8 * to) 8 q := fun q => by
    unfold clS
    rw [sA_rL, sA_rA, if_pos rfl]
    rfl
  have e11 : ∀ q, sL (clS (uA S 64 to (nI v)) to t e nN 8 64) 11 q = fillF (sL S 11) (fun _ => 0) (64 * to) 64 q := fun q => by
    unfold clS
    rw [sL_rL, if_pos rfl]
    rfl
  have e9 : ∀ q, sA (clS (uA S 64 to (nI v)) to t e nN 8 64) 9 q = if q = to then nI e else sA S 9 q := fun q => by
    unfold clS
    rw [sA_rL, sA_rA, if_neg (by decide), sA_uA]
    by_cases c : q = to
    · rw [if_pos ⟨rfl, c⟩, if_pos c]
    · rw [if_neg (fun z => c z.2), if_neg c, sA_uA, if_neg (fun z => by cases z.1)]
  have e64 : ∀ q, sA (clS (uA S 64 to (nI v)) to t e nN 8 64) 64 q = if q = to then nI v else sA S 64 q := fun q => by
    unfold clS
    rw [sA_rL, sA_rA, if_neg (by decide), sA_uA, if_neg (fun z => by cases z.1), sA_uA]
    by_cases c : q = to
    · rw [if_pos ⟨rfl, c⟩, if_pos c]
    · rw [if_neg (fun z => c z.2), if_neg c]
  have fr0 : fr coP S (clS (uA S 64 to (nI v)) to t e nN 8 64) := by
    intro k hk
    unfold coP at hk
    simp only [Bool.or_eq_false_iff, decide_eq_false_iff_not] at hk
    refine ⟨rfl, rfl, ?_, ?_, rfl, rfl⟩
    · funext q
      unfold clS
      rw [sA_rL, sA_rA, if_neg hk.1.1.1.1.1.1.2, sA_uA, if_neg (fun z => hk.1.1.1.1.1.1.1.2 z.1), sA_uA, if_neg (fun z => hk.2 z.1)]
    · funext q
      unfold clS
      rw [sL_rL, if_neg hk.1.1.1.1.1.2]
      rfl
  refine ⟨⟨fr0, fun q hq => ?_, fun q hq => ?_, fun q _ => rfl, fun q hq => ?_, fun q hq => ?_⟩, ⟨fun m hm => ?_, fun m k hm hk => ?_⟩, ?_, ?_⟩
  · rw [e10, fillF_out _ _ hq]
  · rw [e11, fillF_out _ _ hq]
  · rw [e9, if_neg hq]
  · rw [e64, if_neg hq]
  · rw [e10, fillF_in _ _ hm]
    unfold c0F
    show (if m < nN ∧ rw_ S (8 * (6 * t + e) + m) = false then nI 1 else nI 0) = nI (if m < nN ∧ rw_ S (8 * (6 * t + e) + m) = false then 1 else 0) ∧ (if m < nN ∧ rw_ S (8 * (6 * t + e) + m) = false then 1 else 0) ≤ 8
    split
    · exact ⟨rfl, by omega⟩
    · exact ⟨rfl, by omega⟩
  · rw [e11, show 64 * to + 8 * m + k = 64 * to + (8 * m + k) by omega, fillF_in _ _ (show 8 * m + k < 64 by omega)]
    rfl
  · rw [e9, if_pos rfl]
  · rw [e64, if_pos rfl]
theorem m_carryOne (d : Nat) (h : xH) (M : Nat) (S : gS) {f t c v e n2 : Nat} {cN mN ty : Nat → Nat} {vw : vW} {k : Option Nat} {b0 : Nat} {af : Nat → Nat} {R : List rT} {number : Int32} (ht : t < 8) (he : e < 6) (hvt : v < 120) (h7 : sA S 7 2 = nI n2) (hn2 : n2 < 60) (hT : refT S cN mN ty) (hV : wkV S f c (mN (6 * f + c)) v vw) (hk : rkO S k b0 af R) (hb : b0 + R.length ≤ 699) (hR : rlOK (eK S mN f c) R) (hj0 : ∀ r, r ∈ R → r.1 = 0 → ¬ r.2.2.2.2.1 = true) (hwf : ∀ o, o < mN (6 * f + c) → ∀ k, k < vw.2.1 o → wfT (ty (8 * (6 * f + c) + o)) (vw.2.2 o k)) (hrow : ∀ m, m < mN (6 * t + e) → ∀ r, R.find? (isR 1 (sL S 3 (8 * (6 * t + e) + m))) = some r → ¬ r.2.2.2.2.1 = true → rw_ S (8 * (6 * t + e) + m) = false) : ∃ S', coG S S' (120 + n2) ∧ (∀ w, cvR (eK S mN f c) vw R (gM (eK S mN f c) vw (fun o => ty (8 * (6 * f + c) + o)) (fun i => ty (8 * (6 * t + e) + i)) (fun i => rw_ S (8 * (6 * t + e) + i)) (fun i => sL S 3 (8 * (6 * t + e) + i)) R) (mN (6 * t + e)) (fun i => rw_ S (8 * (6 * t + e) + i)) = .inr w → wkV S' t e (mN (6 * t + e)) (120 + n2) w ∧ sA S' 64 (120 + n2) = nI v ∧ xm (d + 5) 176 [.ref M, .int (nI f), .int (nI t), .int (nI v), .int (nI e), .int (oI k), .int number] (oh 11 h M S) = some (some (.int (nI 1)), oh 11 h M (uA S' 7 2 (nI (n2 + 1))))) ∧ ∀ q m, cvR (eK S mN f c) vw R (gM (eK S mN f c) vw (fun o => ty (8 * (6 * f + c) + o)) (fun i => ty (8 * (6 * t + e) + i)) (fun i => rw_ S (8 * (6 * t + e) + i)) (fun i => sL S 3 (8 * (6 * t + e) + i)) R) (mN (6 * t + e)) (fun i => rw_ S (8 * (6 * t + e) + i)) = .inl (q, m) → xm (d + 5) 176 [.ref M, .int (nI f), .int (nI t), .int (nI v), .int (nI e), .int (oI k), .int number] (oh 11 h M S) = some (some (.int (nI 0)), oh 11 h M (rfS S' q (if q = 3 then -nI 1 else nI c) (oI m) number vw.1)) := by
  have hnN := hT.1.2 t e ht he
  have hto : 120 ≤ 120 + n2 ∧ 120 + n2 < 180 := by omega
  generalize hto2 : 120 + n2 = to at *
  obtain ⟨g1, g2, g3, g4⟩ := cl_new S (v := v) (t := t) (e := e) hto.2 hnN.2 0
  have eC : xm (d + 4) 138 [.ref M, .int (nI to), .int (nI t), .int (nI e)] (oh 11 h M (uA S 64 to (nI v))) = _ := m_clear (d + 3) h M (uA S 64 to (nI v)) to t e (mN (6 * t + e)) hto.2 ht he hnN.1 hnN.2 hT.2.1
  generalize hS1 : clS (uA S 64 to (nI v)) to t e (mN (6 * t + e)) 8 64 = S1 at *
  have f1 := g1.1
  have hV1 := g1.V hV (show v ≠ to by omega)
  have hk1 : rkO S1 k b0 af R := hk.fr f1 (fun q h1 h2 => by
    unfold coP
    simp only [Bool.or_eq_false_iff, decide_eq_false_iff_not]
    omega)
  have hT1 := hT.fr f1 (by decide) (by decide) (by decide) (by decide)
  have e0 : xm (d + 4) 177 [.ref M, .int (oI k), .int (nI 0), .long 0] (oh 11 h M S1) = _ := m_ruleOf (d + 3) h M S1 0 0 hk1 (by omega)
  have rr : ∀ {T : gS}, fr coP S T → ∀ q, rw_ T q = rw_ S q := fun hf q => by
    unfold rw_
    rw [(hf 5 (by decide)).2.2.1]
  have s3 : ∀ {T : gS}, fr coP S T → sL T 3 = sL S 3 := fun hf => (hf 3 (by decide)).2.2.2.1
  have eE : xm (d + 5) 176 [.ref M, .int (nI f), .int (nI t), .int (nI v), .int (nI e), .int (oI k), .int number] (oh 11 h M S) = _ := E_176 (d + 4) (oh 11 h M S) (.ref M) (nI f) (nI t) (nI v) (nI e) (oI k) number rfl
  -- the members, with a KEY
  have mem : ∀ (S2 : gS) (key : Int64) (l8 : Int32), coG S S2 to → nwV S2 to (nv0 0 (mN (6 * t + e)) (fun i => rw_ S (8 * (6 * t + e) + i))) → sA S2 9 to = nI e → sA S2 64 to = nI v → (∀ r, xrun (d + 4) 176 89 [(1, .ref M), (1, .int (nI f)), (1, .int (nI t)), (1, .int (nI v)), (1, .int (nI e)), (1, .int (oI k)), (1, .int number), (1, .int (nI to)), (1, .int l8), (2, .long key), (0, .null), (0, .null), (0, .null)] [] (oh 11 h M S2) = r → xm (d + 5) 176 [.ref M, .int (nI f), .int (nI t), .int (nI v), .int (nI e), .int (oI k), .int number] (oh 11 h M S) = r) → cvK (eK S mN f c) vw R = .inr key → ∃ S', coG S S' to ∧ (∀ w, cvR (eK S mN f c) vw R (gM (eK S mN f c) vw (fun o => ty (8 * (6 * f + c) + o)) (fun i => ty (8 * (6 * t + e) + i)) (fun i => rw_ S (8 * (6 * t + e) + i)) (fun i => sL S 3 (8 * (6 * t + e) + i)) R) (mN (6 * t + e)) (fun i => rw_ S (8 * (6 * t + e) + i)) = .inr w → wkV S' t e (mN (6 * t + e)) to w ∧ sA S' 64 to = nI v ∧ xm (d + 5) 176 [.ref M, .int (nI f), .int (nI t), .int (nI v), .int (nI e), .int (oI k), .int number] (oh 11 h M S) = some (some (.int (nI 1)), oh 11 h M (uA S' 7 2 (nI (n2 + 1))))) ∧ ∀ q m, cvR (eK S mN f c) vw R (gM (eK S mN f c) vw (fun o => ty (8 * (6 * f + c) + o)) (fun i => ty (8 * (6 * t + e) + i)) (fun i => rw_ S (8 * (6 * t + e) + i)) (fun i => sL S 3 (8 * (6 * t + e) + i)) R) (mN (6 * t + e)) (fun i => rw_ S (8 * (6 * t + e) + i)) = .inl (q, m) → xm (d + 5) 176 [.ref M, .int (nI f), .int (nI t), .int (nI v), .int (nI e), .int (oI k), .int number] (oh 11 h M S) = some (some (.int (nI 0)), oh 11 h M (rfS S' q (if q = 3 then -nI 1 else nI c) (oI m) number vw.1)) := by
    intro S2 key l8 h1 h2 h9 h64 hrun hkey
    have h3 : coG S2 (uL S2 8 to key) to := ⟨fr.rfl.uL (by decide), fun _ _ => rfl, fun q _ => by rw [sL_uL, if_neg (fun z => by cases z.1)], fun q hq => by rw [sL_uL, if_neg (fun z => hq z.2)], fun _ _ => rfl, fun _ _ => rfl⟩
    have h4 := h1.trans h3
    have f4 := h4.1
    have eK1 : ∀ w, (eK S mN f c).1 w = eMs (uL S2 8 to key) f c (mN (6 * f + c)) w := fun w => by
      rw [eMs_fr f4 (by decide)]
      rfl
    obtain ⟨S', i1, i2, i3⟩ := co_loop d h M (number := number) (l8 := l8) (l9 := key) (cN := cN) (eo := eK S mN f c) ht he hto hvt hR hb hwf (mN (6 * t + e)) 0 (uL S2 8 to key) (nv0 key (mN (6 * t + e)) (fun i => rw_ S (8 * (6 * t + e) + i))) (0, .null) (by omega) (hT.fr f4 (by decide) (by decide) (by decide) (by decide)) (h4.V hV (by omega)) eK1 (fun q => (rr f4 _).symm) (hk.fr f4 (fun q h1 h2 => by
      unfold coP
      simp only [Bool.or_eq_false_iff, decide_eq_false_iff_not]
      omega)) ⟨fun m hm => h2.1 m hm, fun m k hm hk => (by
        rw [sL_uL, if_neg (fun z => by cases z.1)]
        exact h2.2 m k hm hk)⟩ (fun m _ hm hr => by
      rw [rr f4] at hr
      show (if m < mN (6 * t + e) ∧ rw_ S (8 * (6 * t + e) + m) = false then 1 else 0) = 1
      rw [if_pos ⟨hm, hr⟩]) (fun m hm r hr hj => by
      rw [rr f4]
      rw [s3 f4] at hr
      exact hrow m hm r hr hj)
    have er : (fun i => rw_ (uL S2 8 to key) (8 * (6 * t + e) + i)) = fun i => rw_ S (8 * (6 * t + e) + i) := funext fun q => rr f4 _
    rw [er, s3 f4] at i2 i3
    have c89 : xrun (d + 4) 176 89 [(1, .ref M), (1, .int (nI f)), (1, .int (nI t)), (1, .int (nI v)), (1, .int (nI e)), (1, .int (oI k)), (1, .int number), (1, .int (nI to)), (1, .int l8), (2, .long key), (0, .null), (0, .null), (0, .null)] [] (oh 11 h M S2) = xrun (d + 4) 176 101 [(1, .ref M), (1, .int (nI f)), (1, .int (nI t)), (1, .int (nI v)), (1, .int (nI e)), (1, .int (oI k)), (1, .int number), (1, .int (nI to)), (1, .int l8), (2, .long key), (0, .null), (1, .int (nI 0)), (0, .null)] [] (oh 11 h M (uL S2 8 to key)) := by
      generalize oI k = kv
      simp (disch := omega) only [q_176_89, q_176_90, q_176_93, q_176_95, q_176_97, q_176_98, q_176_99, og_11_8, ow_11_8, o_is, ↓reduceIte, k_cr, k_ci, k_oR, k_oN, k_aR, k_aN, and_true, true_and, and_self, eq_self, Nat.reduceLT, Nat.reduceLeDiff, Nat.reduceEqDiff, Nat.reduceAdd, Nat.reduceMul, Bool.true_eq_false, Bool.false_eq_true, Nat.add_sub_cancel, Nat.not_lt_zero, Nat.zero_le, k_sub, k_sb1, k_r, k_n, k_ret, k_t1, k_t0, k_nr, k_nn, k_z0, k_z1, k_zb, x_okI, lit_nI, k_in, k_cl, k_lt, k_le, k_eq, k_neg, nI_add, nI_mul, k_clt, k_cgt, k_cle, k_cge, k_ceq, bI_0, k_sh8, ne_eq, Nat.add_eq_zero_iff, Nat.one_ne_zero, Nat.succ_ne_zero, and_false, false_and, not_false_eq_true, not_true_eq_false, ite_true, ite_false, if_true, if_false]
    refine ⟨S', h4.trans i1.G, fun w hw => ?_, fun q m hq => ?_⟩
    · unfold cvR at hw
      rw [hkey] at hw
      have hw : (match nvS (gM (eK S mN f c) vw (fun o => ty (8 * (6 * f + c) + o)) (fun i => ty (8 * (6 * t + e) + i)) (fun i => rw_ S (8 * (6 * t + e) + i)) (fun i => sL S 3 (8 * (6 * t + e) + i)) R) (mN (6 * t + e)) 0 (nv0 key (mN (6 * t + e)) (fun i => rw_ S (8 * (6 * t + e) + i))) with
        | .inl z => .inl (z.1, some z.2)
        | .inr w => .inr w : (Nat × Option Nat) ⊕ vW) = .inr w := hw
      split at hw
      · cases hw
      · rename_i w2 hw2
        cases hw
        obtain ⟨j1, j2, j3⟩ := i2 w hw2
        have f5 := i1.1
        refine ⟨⟨ht, he, ?_, hnN.2, hto.2, ?_, ?_, j1.1, j1.2⟩, ?_, ?_⟩
        · rw [(f5 2 (by decide)).2.2.1]
          show sA S2 2 _ = _
          rw [(h1.1 2 (by decide)).2.2.1]
          exact hnN.1
        · rw [(f5 9 (by decide)).2.2.1]
          exact h9
        · rw [(f5 8 (by decide)).2.2.2.1, j2, sL_uL, if_pos ⟨rfl, rfl⟩]
          rfl
        · rw [(f5 64 (by decide)).2.2.1]
          exact h64
        · have e7 : sA S' 7 2 = nI n2 := by
            rw [(f5 7 (by decide)).2.2.1]
            show sA S2 7 2 = _
            rw [(h1.1 7 (by decide)).2.2.1]
            exact h7
          rw [e7, nI_add] at j3
          exact hrun _ (c89.trans j3)
    · unfold cvR at hq
      rw [hkey] at hq
      have hq : (match nvS (gM (eK S mN f c) vw (fun o => ty (8 * (6 * f + c) + o)) (fun i => ty (8 * (6 * t + e) + i)) (fun i => rw_ S (8 * (6 * t + e) + i)) (fun i => sL S 3 (8 * (6 * t + e) + i)) R) (mN (6 * t + e)) 0 (nv0 key (mN (6 * t + e)) (fun i => rw_ S (8 * (6 * t + e) + i))) with
        | .inl z => .inl (z.1, some z.2)
        | .inr w => .inr w : (Nat × Option Nat) ⊕ vW) = .inl (q, m) := hq
      split at hq
      · rename_i z hz
        obtain ⟨z1, z2⟩ := z
        cases hq
        exact hrun _ (c89.trans (i3 z1 z2 hz))
      · cases hq
  obtain ⟨q1, q2⟩ := fnR_find 0 0 R b0
  cases hr : fnR 0 0 R b0 with
  | none =>
    rw [hr] at e0
    have e0 : xm (d + 4) 177 [.ref M, .int (oI k), .int (nI 0), .long 0] (oh 11 h M S1) = some (some (.int (-nI 1)), oh 11 h M S1) := e0
    refine mem S1 vw.1 (-nI 1) g1 g2 g3 g4 (fun r hrr => ?_) ?_
    · rw [eE, ← hrr]
      have h8 := hV1.2.2.2.2.2.2.1
      generalize oI k = kv at *
      simp (disch := omega) only [q_176_0, q_176_2, q_176_3, q_176_6, q_176_7, q_176_8, q_176_9, q_176_11, q_176_12, q_176_15, q_176_17, q_176_18, q_176_19, q_176_20, q_176_22, q_176_23, q_176_25, q_176_28, q_176_29, q_176_31, q_176_32, q_176_33, q_176_36, q_176_38, q_176_40, q_176_41, q_176_44, q_176_45, q_176_48, q_176_49, q_176_50, q_176_53, q_176_54, q_176_56, q_176_57, q_176_58, q_176_61, q_176_63, q_176_65, q_176_66, q_176_69, q_176_70, q_176_73, q_176_76, q_176_77, q_176_78, q_176_81, q_176_82, q_176_83, q_176_85, q_176_88, og_11_7, or_11_7, ow_11_7, og_11_64, or_11_64, ow_11_64, og_11_8, or_11_8, ow_11_8, og_11_61, og_11_2, or_11_2, ow_11_2, o_is, o_ob, ofs_len11, ↓reduceIte, k_cr, k_ci, k_oR, k_oN, k_aR, k_aN, and_true, true_and, and_self, eq_self, Nat.reduceLT, Nat.reduceLeDiff, Nat.reduceEqDiff, Nat.reduceAdd, Nat.reduceMul, Bool.true_eq_false, Bool.false_eq_true, Nat.add_sub_cancel, Nat.not_lt_zero, Nat.zero_le, k_sub, k_sb1, k_r, k_n, k_ret, k_t1, k_t0, k_nr, k_nn, k_z0, k_z1, k_zb, x_okI, lit_nI, k_in, k_cl, k_lt, k_le, k_eq, k_neg, nI_add, nI_mul, k_clt, k_cgt, k_cle, k_cge, k_ceq, bI_0, k_sh8, ne_eq, Nat.add_eq_zero_iff, Nat.one_ne_zero, Nat.succ_ne_zero, and_false, false_and, not_false_eq_true, not_true_eq_false, ite_true, ite_false, if_true, if_false, sI_uI, sJ_uI, sA_uI, sL_uI, sR_uI, sQ_uI, sI_uJ, sJ_uJ, sA_uJ, sL_uJ, sR_uJ, sQ_uJ, sI_uA, sJ_uA, sA_uA, sL_uA, sR_uA, sQ_uA, sI_uL, sJ_uL, sA_uL, sL_uL, sR_uL, sQ_uL, sI_uR, sJ_uR, sA_uR, sL_uR, sR_uR, sQ_uR, sI_uQ, sJ_uQ, sA_uQ, sL_uQ, sR_uQ, sQ_uQ, h7, hto2, eC, e0, h8]
    · unfold cvK
      rw [q1 hr]
  | some j =>
    obtain ⟨r, r1, r2, r3⟩ := q2 j hr
    have hjl := fnR_lt 0 0 R b0 j hr
    have hmem : r ∈ R := List.mem_of_find?_eq_some r2
    have nj : ¬ nI j = -nI 1 := by
      rw [k_neg (by omega)]
      exact fun z => z
    rw [hr] at e0
    have e0 : xm (d + 4) 177 [.ref M, .int (oI k), .int (nI 0), .long 0] (oh 11 h M S1) = some (some (.int (nI j)), oh 11 h M S1) := e0
    have hkM : rkM S1 b0 af R := by
      cases k with
      | none =>
        have hk : R = [] := hk
        subst hk
        cases hmem
      | some k => exact hk1.2.2.2
    obtain ⟨x1, x2, x3, x4⟩ := hkM.2.2 (j - b0) r r1
    have y0 := hkM.2.1 (j - b0) (by omega)
    have y1 := hkM.2.1 (j - b0 + 1) (by omega)
    rw [show b0 + (j - b0) = j by omega] at y0
    rw [show b0 + (j - b0 + 1) = j + 1 by omega, x3] at y1
    have hr0 : r.1 = 0 := by
      have := List.find?_some r2
      unfold isR at this
      rw [Bool.and_eq_true, decide_eq_true_eq] at this
      exact this.1
    obtain ⟨hA, hO⟩ := (hR r hmem).2 (by omega) (hj0 r hmem hr0)
    obtain ⟨S2, eW, fW, gW⟩ := m_work (d + 1) h M S1 (r := j) (e := eK S mN f c) hV1 (fun w => by rw [eMs_fr f1 (by decide)]; rfl) (by omega) y1.2 y0.1 y1.1 x4 hA (hO 60 (by omega))
    have fW2 : coG S1 S2 to := ⟨fW.mono (fun q hq => by
      unfold coP at hq
      unfold wkF
      simp only [Bool.or_eq_false_iff] at hq ⊢
      exact ⟨⟨hq.1.1.1.2, hq.1.1.2⟩, hq.1.2⟩), fun q _ => by rw [(fW 10 (by decide)).2.2.1], fun q _ => by rw [(fW 11 (by decide)).2.2.2.1], fun q _ => by rw [(fW 8 (by decide)).2.2.2.1], fun q _ => by rw [(fW 9 (by decide)).2.2.1], fun q _ => by rw [(fW 64 (by decide)).2.2.1]⟩
    have eW : xm (d + 4) 178 [.ref M, .int (nI j), .int (nI f), .int (nI v)] (oh 11 h M S1) = _ := eW
    cases hev : evF (eK S mN f c) vw r.2.2.2.2.2 (fun _ => 0) 0 with
    | inl q =>
      rw [hev] at eW gW
      have gW : sI S2 61 = nI q := gW
      have hq0 := evF_ne hev
      have hqn : ¬ q = 0 := by omega
      have hq3 : ¬ q = 3 := by omega
      have eR : xm (d + 4) 175 [.ref M, .int (nI q), .int (nI v), .int (-nI 1), .int number] (oh 11 h M S2) = _ := m_refuse (d + 3) h M S2 (mb := -nI 1) (st := number) (show q < 100 by omega) (show v < 180 by omega)
      have hV2 := fW2.V hV1 (show v ≠ to by omega)
      rw [hV2.2.2.2.2.2.1, hV2.2.2.2.2.2.2.1] at eR
      have ek : cvK (eK S mN f c) vw R = .inl q := by
        unfold cvK
        rw [r2]
        show (match evF (eK S mN f c) vw r.2.2.2.2.2 (fun _ => 0) 0 with
          | .inl q => Sum.inl q
          | .inr z => Sum.inr (z.1 0)) = _
        rw [hev]
      refine ⟨S2, g1.trans fW2, fun w hw => ?_, fun q3 m3 hq4 => ?_⟩
      · unfold cvR at hw
        rw [ek] at hw
        cases hw
      · unfold cvR at hq4
        rw [ek] at hq4
        cases hq4
        rw [eE]
        show _ = some (some (Value.int (nI 0)), oh 11 h M (rfS S2 q (if q = 3 then -nI 1 else nI c) (-nI 1) number vw.1))
        generalize oI k = kv at *
        simp (disch := omega) only [q_176_0, q_176_2, q_176_3, q_176_6, q_176_7, q_176_8, q_176_9, q_176_11, q_176_12, q_176_15, q_176_17, q_176_18, q_176_19, q_176_20, q_176_22, q_176_23, q_176_25, q_176_28, q_176_29, q_176_31, q_176_32, q_176_33, q_176_36, q_176_38, q_176_40, q_176_41, q_176_44, q_176_45, q_176_48, q_176_49, q_176_50, q_176_53, q_176_54, q_176_56, q_176_57, q_176_58, q_176_61, q_176_63, q_176_65, q_176_66, q_176_69, q_176_70, q_176_73, q_176_76, q_176_77, q_176_78, q_176_81, q_176_82, q_176_83, q_176_85, q_176_88, og_11_7, or_11_7, ow_11_7, og_11_64, or_11_64, ow_11_64, og_11_8, or_11_8, ow_11_8, og_11_61, og_11_2, or_11_2, ow_11_2, o_is, o_ob, ofs_len11, ↓reduceIte, k_cr, k_ci, k_oR, k_oN, k_aR, k_aN, and_true, true_and, and_self, eq_self, Nat.reduceLT, Nat.reduceLeDiff, Nat.reduceEqDiff, Nat.reduceAdd, Nat.reduceMul, Bool.true_eq_false, Bool.false_eq_true, Nat.add_sub_cancel, Nat.not_lt_zero, Nat.zero_le, k_sub, k_sb1, k_r, k_n, k_ret, k_t1, k_t0, k_nr, k_nn, k_z0, k_z1, k_zb, x_okI, lit_nI, k_in, k_cl, k_lt, k_le, k_eq, k_neg, nI_add, nI_mul, k_clt, k_cgt, k_cle, k_cge, k_ceq, bI_0, k_sh8, ne_eq, Nat.add_eq_zero_iff, Nat.one_ne_zero, Nat.succ_ne_zero, and_false, false_and, not_false_eq_true, not_true_eq_false, ite_true, ite_false, if_true, if_false, sI_uI, sJ_uI, sA_uI, sL_uI, sR_uI, sQ_uI, sI_uJ, sJ_uJ, sA_uJ, sL_uJ, sR_uJ, sQ_uJ, sI_uA, sJ_uA, sA_uA, sL_uA, sR_uA, sQ_uA, sI_uL, sJ_uL, sA_uL, sL_uL, sR_uL, sQ_uL, sI_uR, sJ_uR, sA_uR, sL_uR, sR_uR, sQ_uR, sI_uQ, sJ_uQ, sA_uQ, sL_uQ, sR_uQ, sQ_uQ, h7, hto2, eC, e0, nj, eW, gW, hqn, eR]
    | inr z =>
      rw [hev] at eW gW
      have gW : sI S2 61 = nI 0 := gW
      have eW : xm (d + 4) 178 [.ref M, .int (nI j), .int (nI f), .int (nI v)] (oh 11 h M S1) = some (some (.long (z.1 0)), oh 11 h M S2) := eW
      refine mem S2 (z.1 0) (nI j) (g1.trans fW2) ⟨fun m hm => ?_, fun m k hm hk => ?_⟩ ?_ ?_ (fun r hrr => ?_) ?_
      · rw [(fW 10 (by decide)).2.2.1]
        exact g2.1 m hm
      · rw [(fW 11 (by decide)).2.2.2.1]
        exact g2.2 m k hm hk
      · rw [(fW 9 (by decide)).2.2.1]
        exact g3
      · rw [(fW 64 (by decide)).2.2.1]
        exact g4
      · rw [eE, ← hrr]
        generalize oI k = kv at *
        simp (disch := omega) only [q_176_0, q_176_2, q_176_3, q_176_6, q_176_7, q_176_8, q_176_9, q_176_11, q_176_12, q_176_15, q_176_17, q_176_18, q_176_19, q_176_20, q_176_22, q_176_23, q_176_25, q_176_28, q_176_29, q_176_31, q_176_32, q_176_33, q_176_36, q_176_38, q_176_40, q_176_41, q_176_44, q_176_45, q_176_48, q_176_49, q_176_50, q_176_53, q_176_54, q_176_56, q_176_57, q_176_58, q_176_61, q_176_63, q_176_65, q_176_66, q_176_69, q_176_70, q_176_73, q_176_76, q_176_77, q_176_78, q_176_81, q_176_82, q_176_83, q_176_85, q_176_88, og_11_7, or_11_7, ow_11_7, og_11_64, or_11_64, ow_11_64, og_11_8, or_11_8, ow_11_8, og_11_61, og_11_2, or_11_2, ow_11_2, o_is, o_ob, ofs_len11, ↓reduceIte, k_cr, k_ci, k_oR, k_oN, k_aR, k_aN, and_true, true_and, and_self, eq_self, Nat.reduceLT, Nat.reduceLeDiff, Nat.reduceEqDiff, Nat.reduceAdd, Nat.reduceMul, Bool.true_eq_false, Bool.false_eq_true, Nat.add_sub_cancel, Nat.not_lt_zero, Nat.zero_le, k_sub, k_sb1, k_r, k_n, k_ret, k_t1, k_t0, k_nr, k_nn, k_z0, k_z1, k_zb, x_okI, lit_nI, k_in, k_cl, k_lt, k_le, k_eq, k_neg, nI_add, nI_mul, k_clt, k_cgt, k_cle, k_cge, k_ceq, bI_0, k_sh8, ne_eq, Nat.add_eq_zero_iff, Nat.one_ne_zero, Nat.succ_ne_zero, and_false, false_and, not_false_eq_true, not_true_eq_false, ite_true, ite_false, if_true, if_false, sI_uI, sJ_uI, sA_uI, sL_uI, sR_uI, sQ_uI, sI_uJ, sJ_uJ, sA_uJ, sL_uJ, sR_uJ, sQ_uJ, sI_uA, sJ_uA, sA_uA, sL_uA, sR_uA, sQ_uA, sI_uL, sJ_uL, sA_uL, sL_uL, sR_uL, sQ_uL, sI_uR, sJ_uR, sA_uR, sL_uR, sR_uR, sQ_uR, sI_uQ, sJ_uQ, sA_uQ, sL_uQ, sR_uQ, sQ_uQ, h7, hto2, eC, e0, nj, eW, gW]
      · unfold cvK
        rw [r2]
        show (match evF (eK S mN f c) vw r.2.2.2.2.2 (fun _ => 0) 0 with
          | .inl q => Sum.inl q
          | .inr z => Sum.inr (z.1 0)) = _
        rw [hev]
