/-! The reference: step. -/
def stpP (k : Nat) : Bool := (decide (7 ≤ k) && decide (k ≤ 11)) || (decide (27 ≤ k) && decide (k ≤ 64))
theorem k15_stpP : k15 stpP := ⟨rfl, rfl, rfl, rfl, rfl, rfl⟩
/-- what a step leaves alone -/
def stK (S S' : gS) : Prop := fr stpP S S' ∧ (∀ q, q < 60 → rvS S' q = rvS S q) ∧ sA S' 7 0 = sA S 7 0
theorem stK.trans {S S' S'' : gS} (a : stK S S') (b : stK S' S'') : stK S S'' := ⟨a.1.trans b.1, fun q hq => (b.2.1 q hq).trans (a.2.1 q hq), b.2.2.trans a.2.2⟩
theorem stG.K {S S' : gS} (h : stG S S') : stK S S' := ⟨h.1.mono (fun q hq => by
  unfold stpP at hq
  unfold stQ
  simp only [Bool.or_eq_false_iff, Bool.and_eq_false_iff, decide_eq_false_iff_not] at hq ⊢
  omega), fun q hq => by
  unfold rvS
  rw [(h.2.2.2.1 q (by omega)).1, (h.2.2.2.1 q (by omega)).2]
  congr 1
  congr 1
  congr 1
  · funext i
    by_cases c : i < 8
    · rw [if_pos c, if_pos c, h.2.1 _ (by omega)]
    · rw [if_neg c, if_neg c]
  · funext i
    by_cases c : i < 64
    · rw [if_pos c, if_pos c, h.2.2.1 _ (by omega)]
    · rw [if_neg c, if_neg c], h.2.2.2.2.1⟩
def smpR (h : xH) (M : Nat) (mN : Nat → Nat) (t x y : Nat) (number : Int32) (S' : gS) (run : Option xR) : rfT ⊕ (List aX × Nat × Nat) → Prop
  | .inl q => run = some (some (.int (nI 0)), oh 11 h M (rfX S' q number))
  | .inr r => run = some (some (.int (nI 1)), oh 11 h M S') ∧ sA S' 7 1 = nI r.1.length ∧ r.1.length ≤ 60 ∧ (∀ j z, r.1[j]? = some z → wkV S' t z.2.2.1 (mN (6 * t + z.2.2.1)) (60 + j) z.2.2.2 ∧ z.2.2.2.1 = z.1) ∧ sI S' 62 = nI (x + r.2.1) ∧ sI S' 63 = nI (y + r.2.2)
theorem stF_len {z : sE} {dr : Bool} : ∀ (V : List (Nat × vW)) (r : List aX × Nat × Nat), stF z dr V = .inr r → r.1.length ≤ V.length ∧ r.2.1 ≤ r.2.1
  | [], r, h => by
    have h : Sum.inr ([], 0, 0) = Sum.inr r := h
    cases h
    exact ⟨Nat.le_refl _, Nat.le_refl _⟩
  | v :: V, r, h => by
    refine ⟨?_, Nat.le_refl _⟩
    have h : (match oneV z dr v.1 v.2 with
      | .inl q => .inl (q.1, some v.1, q.2, v.2.1, 0)
      | .inr none => stD (stF z dr V)
      | .inr (some u) => stC (u.1.2.1, v.2.1, u.1.1, u.1.2) u.2 (stF z dr V)) = Sum.inr r := h
    rw [List.length_cons]
    split at h
    · cases h
    · cases hq : stF z dr V with
      | inl q => rw [hq] at h; cases h
      | inr r2 =>
        rw [hq] at h
        cases h
        have := (stF_len V r2 hq).1
        show r2.1.length ≤ _
        omega
    · cases hq : stF z dr V with
      | inl q => rw [hq] at h; cases h
      | inr r2 =>
        rw [hq] at h
        cases h
        have := (stF_len V r2 hq).1
        show (_ :: r2.1).length ≤ _
        rw [List.length_cons]
        omega
/-- behind the VALUES: two of one KEY, or all of them sorted -/
theorem sm_tail (d : Nat) (h : xH) (M : Nat) {t x y : Nat} {mN : Nat → Nat} {S : gS} {A : List aX} {l d2 : Nat} {f1 t1 number l4 l5 : Int32} {l6 l7 l8 : Nat × Value} (h72 : sA S 7 2 = nI A.length) (hA : A.length ≤ 60) (hn : nvl S mN t A) (h62 : sI S 62 = nI (x + l)) (h63 : sI S 63 = nI (y + d2)) : ∃ S', stK S S' ∧ smpR h M mN t x y number S' (xrun (d + 7) 173 242 [(1, .ref M), (1, .int f1), (1, .int t1), (1, .int number), (1, .int l4), (1, .int l5), l6, l7, l8] [] (oh 11 h M S)) (stA (A, l, d2)) := by
  have kz : kyL (sL S 8) A.length 120 = (zp A 120).map (gm (fun u => u.1)) := zp_k A 120 (fun j z hj => by
    obtain ⟨a1, a2, _⟩ := hn j z hj
    rw [a1.2.2.2.2.2.2.1, a2])
  have r1 : rdp (kyL (sL S 8) A.length 120) none = (rdp (zp A 120) none).map (gm2 (fun u => u.1)) := by
    rw [kz]
    exact rdp_map (fun u : Nat × aX => u.1) (zp A 120) none
  have r2 : adj (srt A []) = (rdp (zp A 120) none).map (gm2 (fun u => u.2.2)) := by
    rw [dup_same]
    have e := rdp_map (fun u : Nat × aX => u.2.2) (zp A 120) none
    rw [← zp_x A 120] at e
    exact e
  have fmk : ∀ i, 120 ≤ i → i < 120 + A.length → ∃ v, sA S 64 i = nI v ∧ 60 ≤ v ∧ v < 120 := fun i h1 h2 => by
    have hl : i - 120 < A.length := by omega
    obtain ⟨_, _, v, a3, a4, a5, _⟩ := hn (i - 120) A[i - 120] (List.getElem?_eq_getElem hl)
    rw [show 120 + (i - 120) = i by omega] at a3
    exact ⟨v, a3, a4, a5⟩
  have eA : xm (d + 7) 191 [.ref M, .int number] (oh 11 h M S) = _ := m_areAllOther (d + 5) h M S A.length (number := number) (fm := fun i => (sA S 64 i).toNatClampNeg) h72 hA (fun i h1 h2 => by
    obtain ⟨v, a3, a4, a5⟩ := fmk i h1 h2
    show sA S 64 i = nI (sA S 64 i).toNatClampNeg ∧ (sA S 64 i).toNatClampNeg < 180
    rw [a3, nI_clamp (by omega)]
    exact ⟨rfl, by omega⟩)
  rw [r1] at eA
  unfold stA
  dsimp only
  rw [r2]
  cases hq : rdp (zp A 120) none with
  | some f =>
    rw [hq] at eA
    obtain ⟨m1, m2⟩ := rdp_mem (W := zp A 120) (zp A 120) none (fun _ hx => hx) (fun f hf => by cases hf) f hq
    obtain ⟨j1, p1, p2⟩ := zp_mem A 120 f.1 m1
    obtain ⟨j2, p3, p4⟩ := zp_mem A 120 f.2 m2
    obtain ⟨_, _, v1, b3, b4, b5, b6⟩ := hn j1 _ p1
    obtain ⟨_, _, v2, c3, c4, c5, c6⟩ := hn j2 _ p3
    have eA : xm (d + 7) 191 [.ref M, .int number] (oh 11 h M S) = some (some (.int (nI 0)), oh 11 h M (uJ (rfS S 3 (-nI 1) (-nI 1) number (sL S 8 ((sA S 64 f.1.2.1).toNatClampNeg))) 23 (sL S 8 ((sA S 64 f.2.2.1).toNatClampNeg)))) := eA
    rw [p2, p4, b3, c3, nI_clamp (by omega), nI_clamp (by omega), b6, c6] at eA
    refine ⟨S, ⟨fr.rfl, fun _ _ => rfl, rfl⟩, ?_⟩
    show _ = some (some (Value.int (nI 0)), oh 11 h M (uJ (rfS S 3 (-nI 1) (-nI 1) number f.1.2.2.2.1) 23 f.2.2.2.2.1))
    simp (disch := omega) only [q_173_242, q_173_243, q_173_244, q_173_247, q_173_250, q_173_251, q_173_252, q_173_253, q_173_256, q_173_257, q_173_258, q_173_259, q_173_261, q_173_265, q_173_267, q_173_268, q_173_271, q_173_272, q_173_273, q_173_274, q_173_277, q_173_278, q_173_280, q_173_283, q_173_286, q_173_289, q_173_290, og_11_13, or_11_13, ow_11_13, og_11_29, op_11_29, og_11_28, or_11_28, ow_11_28, og_11_14, or_11_14, ow_11_14, og_11_7, or_11_7, ow_11_7, og_11_9, or_11_9, ow_11_9, og_11_36, or_11_36, ow_11_36, og_11_63, op_11_63, og_11_1, or_11_1, ow_11_1, og_11_39, or_11_39, ow_11_39, og_11_17, o_is, o_ob, ofs_len11, ↓reduceIte, k_cr, k_ci, k_oR, k_oN, k_aR, k_aN, and_true, true_and, and_self, eq_self, Nat.reduceLT, Nat.reduceLeDiff, Nat.reduceEqDiff, Nat.reduceAdd, Nat.reduceMul, Bool.true_eq_false, Bool.false_eq_true, Nat.add_sub_cancel, Nat.not_lt_zero, Nat.zero_le, k_sub, k_sb1, k_r, k_n, k_ret, k_t1, k_t0, k_nr, k_nn, k_z0, k_z1, k_zb, x_okI, lit_nI, k_in, k_cl, k_lt, k_le, k_eq, k_neg, nI_add, nI_mul, k_clt, k_cgt, k_cle, k_cge, k_ceq, bI_0, k_sh8, ne_eq, Nat.add_eq_zero_iff, Nat.one_ne_zero, Nat.succ_ne_zero, and_false, false_and, not_false_eq_true, not_true_eq_false, ite_true, ite_false, if_true, if_false, eA]
  | none =>
    rw [hq] at eA
    have eA : xm (d + 7) 191 [.ref M, .int number] (oh 11 h M S) = some (some (.int (nI 1)), oh 11 h M S) := eA
    have k7 : fr (fun k => decide (k = 7)) S (uA S 7 1 (nI 0)) := fr.rfl.uA (by decide)
    obtain ⟨S', i1, i2, i3, i4, i5, i6, i7⟩ := pt_loop (d + 5) h M hA (f := f1) (t := t1) (number := number) (l4 := l4) (l6 := l6) (l7 := l7) (l8 := l8) A.length 0 (uA S 7 1 (nI 0)) (by omega) (by
      rw [sA_uA, if_neg (by decide)]
      exact h72) (by rw [sA_uA, if_pos ⟨rfl, rfl⟩])
    have rv0 : ∀ v, rvS (uA S 7 1 (nI 0)) v = rvS S v := fun v => rvS_fr k7 rfl rfl rfl rfl v
    have e7 : lsK (rvS (uA S 7 1 (nI 0))) A.length (120 + 0) = A.map (gm rvX) := lsK_x A 120 (fun j z hj => by
      obtain ⟨a1, a2, _⟩ := hn j z hj
      rw [rv0]
      exact a1.rv a2)
    rw [e7] at i6
    have i6 : rvL S' 60 A.length = srt (A.map (gm rvX)) (([] : List aX).map (gm rvX)) := i6
    rw [srt_map] at i6
    have fS : fr stpP S S' := (k7.mono (fun k hk => by
      unfold stpP at hk
      simp only [Bool.or_eq_false_iff, Bool.and_eq_false_iff, decide_eq_false_iff_not] at hk ⊢
      omega)).trans (i2.mono (fun k hk => by
      unfold stpP at hk
      unfold vl7
      simp only [Bool.or_eq_false_iff, Bool.and_eq_false_iff, decide_eq_false_iff_not] at hk ⊢
      omega))
    have sl : (srt A []).length = A.length := srt_len A []
    refine ⟨S', ⟨fS, fun q hq => (i7 q (Or.inl hq)).trans (rv0 q), i5.trans (by rw [sA_uA, if_neg (by decide)])⟩, ?_, ?_, ?_, fun j z hj => ?_, ?_, ?_⟩
    · show xrun (d + 7) 173 242 _ [] (oh 11 h M S) = _
      rw [← i1]
      simp (disch := omega) only [q_173_242, q_173_243, q_173_244, q_173_247, q_173_250, q_173_251, q_173_252, q_173_253, q_173_256, q_173_257, q_173_258, q_173_259, q_173_261, q_173_265, q_173_267, q_173_268, q_173_271, q_173_272, q_173_273, q_173_274, q_173_277, q_173_278, q_173_280, q_173_283, q_173_286, q_173_289, q_173_290, og_11_13, or_11_13, ow_11_13, og_11_29, op_11_29, og_11_28, or_11_28, ow_11_28, og_11_14, or_11_14, ow_11_14, og_11_7, or_11_7, ow_11_7, og_11_9, or_11_9, ow_11_9, og_11_36, or_11_36, ow_11_36, og_11_63, op_11_63, og_11_1, or_11_1, ow_11_1, og_11_39, or_11_39, ow_11_39, og_11_17, o_is, o_ob, ofs_len11, ↓reduceIte, k_cr, k_ci, k_oR, k_oN, k_aR, k_aN, and_true, true_and, and_self, eq_self, Nat.reduceLT, Nat.reduceLeDiff, Nat.reduceEqDiff, Nat.reduceAdd, Nat.reduceMul, Bool.true_eq_false, Bool.false_eq_true, Nat.add_sub_cancel, Nat.not_lt_zero, Nat.zero_le, k_sub, k_sb1, k_r, k_n, k_ret, k_t1, k_t0, k_nr, k_nn, k_z0, k_z1, k_zb, x_okI, lit_nI, k_in, k_cl, k_lt, k_le, k_eq, k_neg, nI_add, nI_mul, k_clt, k_cgt, k_cle, k_cge, k_ceq, bI_0, k_sh8, ne_eq, Nat.add_eq_zero_iff, Nat.one_ne_zero, Nat.succ_ne_zero, and_false, false_and, not_false_eq_true, not_true_eq_false, ite_true, ite_false, if_true, if_false, eA]
    · rw [sl]
      exact i3
    · show (srt A []).length ≤ 60
      omega
    · have hz : z ∈ srt A [] := List.mem_of_getElem? hj
      have hz : z ∈ A := ((srt_mem A []).mp hz).elim id (fun q => absurd q List.not_mem_nil)
      obtain ⟨k, hk⟩ := List.getElem?_of_mem hz
      obtain ⟨a1, a2, _⟩ := hn k z hk
      obtain ⟨h1, h2, h3, h4, h5, h6, h7, h8, h9⟩ := a1
      have hjl : j < (srt A []).length := get_lt hj
      have er := rvL_get S' 60 A.length j
      rw [if_pos (by omega), i6, List.getElem?_map] at er
      have hj : (srt A [])[j]? = some z := hj
      rw [hj] at er
      have er : some (gm rvX z) = some (rvS S' (60 + j)) := er
      refine ⟨wkV.of h1 h2 ?_ h4 (by omega) a2 (fun m hm => (h8 m hm).2) (Option.some.inj er).symm, a2⟩
      rw [(fS 2 rfl).2.2.1]
      exact h3
    · show sI S' 62 = nI (x + l)
      rw [(i2 62 rfl).1]
      exact h62
    · show sI S' 63 = nI (y + d2)
      rw [(i2 63 rfl).1]
      exact h63
theorem m_step (d : Nat) (h : xH) (M : Nat) (S : gS) {f t n nf x y : Nat} {cN mN ty : Nat → Nat} {L : List mT} {number : Int32} {dr : Bool} {V : List (Nat × vW)} (hf : f < 8) (ht : t < 8) (hK : refT S cN mN ty) (h13 : sA S 13 (8 * f + t) = nI n) (hn : n ≤ 700) (hte : teF (pcs (fun q => sA S 14 (700 * (8 * f + t) + q)) n) = .inr L) (h71 : sA S 7 1 = nI nf) (hnf : nf ≤ 60) (hVl : V.length = nf) (h62 : sI S 62 = nI x) (h63 : sI S 63 = nI y) (h17 : sI S 17 = bI dr) (hx : x + 8 * nf < 500000) (hV : ∀ j v, V[j]? = some v → v.1 < cN f ∧ wkV S f v.1 (mN (6 * f + v.1)) (60 + j) v.2 ∧ vOK (zK S cN mN ty f t L) v) (hgd : gdZ (zK S cN mN ty f t L) (cN f)) : ∃ S', stK S S' ∧ smpR h M mN t x y number S' (xm (d + 8) 173 [.ref M, .int (nI f), .int (nI t), .int number] (oh 11 h M S)) (stZ (zK S cN mN ty f t L) dr V) := by
  have hr : 8 * f + t < 64 := by omega
  -- the text comes in
  have e1 : xm (d + 8) 173 [.ref M, .int (nI f), .int (nI t), .int number] (oh 11 h M S) = xrun (d + 7) 173 58 [(1, .ref M), (1, .int (nI f)), (1, .int (nI t)), (1, .int number), (1, .int (nI (8 * f + t))), (1, .int (nI n)), (0, .null), (0, .null), (0, .null)] [] (oh 11 h M (rA (uI S 29 (nI n)) 28 (fillF (sA S 28) (fun q => sA S 14 (700 * (8 * f + t) + q)) 0 n))) := by
    have tl := tx_loop (d + 7) h M (uI S 29 (nI n)) (f := nI f) (t := nI t) (number := number) hn hr rfl n 0 (by omega)
    have tl : xrun (d + 7) 173 22 [(1, .ref M), (1, .int (nI f)), (1, .int (nI t)), (1, .int number), (1, .int (nI (8 * f + t))), (1, .int (nI 0)), (0, .null), (0, .null), (0, .null)] [] (oh 11 h M (rA (uI S 29 (nI n)) 28 (fillF (sA S 28) (fun q => sA S 14 (700 * (8 * f + t) + q)) 0 0))) = _ := tl
    rw [fillF_0] at tl
    have tl : xrun (d + 7) 173 22 [(1, .ref M), (1, .int (nI f)), (1, .int (nI t)), (1, .int number), (1, .int (nI (8 * f + t))), (1, .int (nI 0)), (0, .null), (0, .null), (0, .null)] [] (oh 11 h M (rA (uI S 29 (nI n)) 28 (sA (uI S 29 (nI n)) 28))) = _ := tl
    rw [rA_id] at tl
    refine Eq.trans ?_ tl
    rw [E_173 _ _ _ _ _ _ rfl]
    simp (disch := omega) only [q_173_0, q_173_2, q_173_3, q_173_4, q_173_5, q_173_6, q_173_8, q_173_9, q_173_10, q_173_13, q_173_15, q_173_16, q_173_19, q_173_20, og_11_13, or_11_13, ow_11_13, og_11_29, op_11_29, og_11_28, or_11_28, ow_11_28, og_11_14, or_11_14, ow_11_14, og_11_7, or_11_7, ow_11_7, og_11_9, or_11_9, ow_11_9, og_11_36, or_11_36, ow_11_36, og_11_63, op_11_63, og_11_1, or_11_1, ow_11_1, og_11_39, or_11_39, ow_11_39, og_11_17, o_is, o_ob, ofs_len11, ↓reduceIte, k_cr, k_ci, k_oR, k_oN, k_aR, k_aN, and_true, true_and, and_self, eq_self, Nat.reduceLT, Nat.reduceLeDiff, Nat.reduceEqDiff, Nat.reduceAdd, Nat.reduceMul, Bool.true_eq_false, Bool.false_eq_true, Nat.add_sub_cancel, Nat.not_lt_zero, Nat.zero_le, k_sub, k_sb1, k_r, k_n, k_ret, k_t1, k_t0, k_nr, k_nn, k_z0, k_z1, k_zb, x_okI, lit_nI, k_in, k_cl, k_lt, k_le, k_eq, k_neg, nI_add, nI_mul, k_clt, k_cgt, k_cle, k_cge, k_ceq, bI_0, k_sh8, ne_eq, Nat.add_eq_zero_iff, Nat.one_ne_zero, Nat.succ_ne_zero, and_false, false_and, not_false_eq_true, not_true_eq_false, ite_true, ite_false, if_true, if_false, h13]
  obtain ⟨a0, ha0⟩ := nI_sur (sI S 32)
  have pa := m_parse d h M (t := fillF (sA S 28) (fun q => sA S 14 (700 * (8 * f + t) + q)) 0 n) (n := n) (a := a0) (S := rA (uI S 29 (nI n)) 28 (fillF (sA S 28) (fun q => sA S 14 (700 * (8 * f + t) + q)) 0 n)) hn (by
    funext q
    rw [sA_rA, if_pos rfl]) rfl ha0
  have ep : pcs (fillF (sA S 28) (fun q => sA S 14 (700 * (8 * f + t) + q)) 0 n) n = pcs (fun q => sA S 14 (700 * (8 * f + t) + q)) n := pcs_congr (fun q hq => by
    have := fillF_in (sA S 28) (fun q => sA S 14 (700 * (8 * f + t) + q)) (o := 0) hq
    rw [Nat.zero_add] at this
    exact this)
  rw [ep, hte] at pa
  obtain ⟨S2, p1, p2, p3⟩ := pa
  have fS : fr (fun k => decide (28 ≤ k) && decide (k ≤ 57)) S S2 := (show fr (fun k => decide (28 ≤ k) && decide (k ≤ 57)) S (rA (uI S 29 (nI n)) 28 (fillF (sA S 28) (fun q => sA S 14 (700 * (8 * f + t) + q)) 0 n)) from (fr.rfl.uI (j := 29) (by decide)).rA (by decide)).trans (p3.mono (fun k hk => by
    unfold pMo
    simp only [Bool.and_eq_false_iff, decide_eq_false_iff_not] at hk ⊢
    omega))
  have fS3 : fr (fun k => decide (k = 7) || (decide (28 ≤ k) && decide (k ≤ 57))) S (uA S2 7 2 (nI 0)) := (fS.mono (fun k hk => by
    simp only [Bool.or_eq_false_iff] at hk
    exact hk.2)).uA (by decide)
  have kk : k15 (fun k => decide (k = 7) || (decide (28 ≤ k) && decide (k ≤ 57))) := ⟨rfl, rfl, rfl, rfl, rfl, rfl⟩
  have ez := zK_fr fS3 kk cN mN ty f t L
  have e7 : sA S2 7 = sA S 7 := (fS 7 rfl).2.2.1
  have hP : ∀ m, m ∈ L → moP aOK 700 m := fun m hm => (teF_P (aOK_P hn) hte m hm).mono hn
  have hT3 : isT (uA S2 7 2 (nI 0)) L := p2.fr (P := fun k => decide (k = 7)) (fr.rfl.uA (by decide)) (fun k h1 h2 => by
    simp only [decide_eq_false_iff_not]
    omega)
  obtain ⟨S4, s1, s2⟩ := rs_loop d h M (l4 := nI (8 * f + t)) (number := number) (dr := dr) (f := f) (t := t) (nf := nf) (cN := cN) (mN := mN) (ty := ty) (L := L) hf ht hP hnf V 0 x y (uA S2 7 2 (nI 0)) [] (0, .null) (0, .null) (0, .null) (by omega) hT3 (hK.fr fS3 rfl rfl rfl rfl) (by
    rw [sA_uA, if_neg (by decide), e7]
    exact h71) (by rw [sA_uA, if_pos ⟨rfl, rfl⟩]; rfl) (Nat.le_refl _) (((fS3 62 rfl).1).trans h62) (((fS3 63 rfl).1).trans h63) (((fS3 17 rfl).1).trans h17) (by rw [hVl]; exact hx) (fun j v hj => by
    obtain ⟨v1, v2, v3⟩ := hV j v hj
    refine ⟨v1, ?_, by rw [ez]; exact v3⟩
    rw [Nat.zero_add]
    exact v2.fr fS3 rfl rfl rfl rfl rfl) (by rw [ez]; exact hgd) (fun j x hx => by cases hx)
  rw [ez] at s2
  have kS3 : stK S (uA S2 7 2 (nI 0)) := ⟨fS3.mono (fun k hk => by
    unfold stpP at hk
    simp only [Bool.or_eq_false_iff, Bool.and_eq_false_iff, decide_eq_false_iff_not] at hk ⊢
    omega), fun q _ => rvS_fr fS3 rfl rfl rfl rfl q, by rw [sA_uA, if_neg (by decide), e7]⟩
  have e2 : xm (d + 8) 173 [.ref M, .int (nI f), .int (nI t), .int number] (oh 11 h M S) = xrun (d + 7) 173 73 [(1, .ref M), (1, .int (nI f)), (1, .int (nI t)), (1, .int number), (1, .int (nI (8 * f + t))), (1, .int (nI (60 + 0))), (0, .null), (0, .null), (0, .null)] [] (oh 11 h M (uA S2 7 2 (nI 0))) := by
    rw [e1]
    simp (disch := omega) only [q_173_58, q_173_59, q_173_62, q_173_63, q_173_66, q_173_67, q_173_68, q_173_69, q_173_71, o_is, og_11_7, ow_11_7, ↓reduceIte, k_cr, k_ci, k_oR, k_oN, k_aR, k_aN, and_true, true_and, and_self, eq_self, Nat.reduceLT, Nat.reduceLeDiff, Nat.reduceEqDiff, Nat.reduceAdd, Nat.reduceMul, Bool.true_eq_false, Bool.false_eq_true, Nat.add_sub_cancel, Nat.not_lt_zero, Nat.zero_le, k_sub, k_sb1, k_r, k_n, k_ret, k_t1, k_t0, k_nr, k_nn, k_z0, k_z1, k_zb, x_okI, lit_nI, k_in, k_cl, k_lt, k_le, k_eq, k_neg, nI_add, nI_mul, k_clt, k_cgt, k_cle, k_cge, k_ceq, bI_0, k_sh8, ne_eq, Nat.add_eq_zero_iff, Nat.one_ne_zero, Nat.succ_ne_zero, and_false, false_and, not_false_eq_true, not_true_eq_false, ite_true, ite_false, if_true, if_false, p1]
  unfold stZ
  cases hq : stF (zK S cN mN ty f t L) dr V with
  | inl q =>
    rw [hq] at s2
    exact ⟨S4, kS3.trans s1.K, e2.trans s2⟩
  | inr r =>
    rw [hq] at s2
    obtain ⟨⟨m5, m6, m7, m8, z1⟩, z2, z3, z4, z5⟩ := s2
    rw [List.nil_append] at z2
    have z3 : sA S4 7 2 = nI r.1.length := by
      rw [z3]
      show nI (0 + r.1.length) = _
      rw [Nat.zero_add]
    have hl := (stF_len V r hq).1
    obtain ⟨S', t1, t2⟩ := sm_tail d h M (t := t) (x := x) (y := y) (mN := mN) (S := S4) (A := r.1) (l := r.2.1) (d2 := r.2.2) (f1 := nI f) (t1 := nI t) (number := number) (l4 := nI (8 * f + t)) (l5 := m5) (l6 := m6) (l7 := m7) (l8 := m8) z3 (by omega) z2 z4 z5
    refine ⟨S', (kS3.trans s1.K).trans t1, ?_⟩
    rw [e2, z1]
    exact t2
