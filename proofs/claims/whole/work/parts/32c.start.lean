/-! The law from its entry. -/
def G0 (b X : Nat) : gG := fun q => if q = b then (7, b) else if q < X then (8, 0) else if q < X + 4 then (0, X) else if q = X + 4 ∨ q = X + 13 ∨ q = X + 14 then (0, X + 4) else if q < X + 9 then (0, X + 5) else if q < X + 13 then (0, X + 9) else if q < X + 25 then (8, 0) else if q = X + 25 then (0, X + 25) else if q < X + 28 then (0, X + 26) else if q < X + 30 then (2, X + 28) else if q < X + 32 then (3, X + 30) else if q < X + 34 then (4, X + 32) else if q < X + 50 then (1, X + 34 + 2 * ((q - X - 34) / 2)) else (6, X + 50)
theorem cntF_z {g : Nat → Bool} (h : ∀ i, g i = false) : ∀ (k i : Nat), cntF g k i = 0
  | 0, _ => rfl
  | k + 1, i => by rw [cntF_s, h i, if_neg (by decide), cntF_z h k (i + 1)]
theorem own_of {G : gG} {g ci a : Nat} (h0 : 0 < o_sz ci) (h : ∀ q, a ≤ q → q < a + o_sz ci → G q = (g, a)) : own G g ci a := fun q hq => by
  obtain ⟨h1, h2⟩ := ofp_lt h0 hq
  exact h q h1 h2
theorem o_own4 {b X : Nat} (hb : b < X) : own (G0 b X) 0 4 (X + 4) := by
  intro q hq
  obtain ⟨h1, h2⟩ := ofp_lt (by decide : 0 < o_sz 4) hq
  have h2 : q < X + 4 + 11 := h2
  have h3 : q = X + 4 ∨ q = X + 13 ∨ q = X + 14 := by
    unfold ofp at hq
    rw [Bool.or_eq_true, decide_eq_true_eq, Bool.and_eq_true] at hq
    rcases hq with e | ⟨_, e⟩
    · exact Or.inl e
    · obtain ⟨o, ho, rfl⟩ : ∃ o, o < 11 ∧ q = X + 4 + o := ⟨q - (X + 4), by omega, by omega⟩
      rw [show X + 4 + o - (X + 4) = o by omega] at e
      have h5 : o = 0 ∨ o = 1 ∨ o = 2 ∨ o = 3 ∨ o = 4 ∨ o = 5 ∨ o = 6 ∨ o = 7 ∨ o = 8 ∨ o = 9 ∨ o = 10 := by omega
      rcases h5 with rfl | rfl | rfl | rfl | rfl | rfl | rfl | rfl | rfl | rfl | rfl
      · exact Or.inl rfl
      · cases e
      · cases e
      · cases e
      · cases e
      · cases e
      · cases e
      · cases e
      · cases e
      · exact Or.inr (Or.inl rfl)
      · exact Or.inr (Or.inr rfl)
  unfold G0
  rw [if_neg (by omega), if_neg (by omega), if_neg (by omega), if_pos h3]
theorem made (b X : Nat) (g : xH) (SX : gS) (hb : b < X) (H8 : isB 8 g X SX) (H4 : isB 4 g (X + 4) (SQ0 (X + 4))) (H0 : isB 0 g (X + 5) Z0) (H1 : isB 1 g (X + 9) (K0 0)) (H6 : isB 6 g (X + 25) (SC00 (X + 25))) (H5 : isB 5 g (X + 26) Z0) (H70 : isB 7 g (X + 28) Z0) (H71 : isB 7 g (X + 30) Z0) (H72 : isB 7 g (X + 32) Z0) (H2 : ∀ i, i < 8 → isB 2 g (X + 34 + 2 * i) Z0) (H11 : isB 11 g (X + 50) Z0) (fX : fr (fun q => decide (q = 0)) (SX00 X) SX) (q0 : ∀ i, i < 8 → sQ SX 0 i = .ref (X + 34 + 2 * i)) (nx : g.2.2.1 = X + 87) (ns : g.2.2.2 ≤ 100000) : INV X (X + 50) b (X + 100) 100000 g := by
  have z8 : o_sz 8 = 4 := rfl
  have z4 : o_sz 4 = 11 := rfl
  have z0 : o_sz 0 = 4 := rfl
  have z1 : o_sz 1 = 4 := rfl
  have z6 : o_sz 6 = 1 := rfl
  have z5 : o_sz 5 = 2 := rfl
  have z7 : o_sz 7 = 2 := rfl
  have z2 : o_sz 2 = 2 := rfl
  have z11 : o_sz 11 = 37 := rfl
  have B8 : hB (G0 b X) 0 8 g X SX := ⟨H8, own_of (by decide) (fun q h1 h2 => by
    unfold G0
    rw [if_neg (by omega), if_neg (by omega), if_pos (by omega)]), by omega⟩
  have B4 : hB (G0 b X) 0 4 g (X + 4) (SQ0 (X + 4)) := ⟨H4, o_own4 hb, by omega⟩
  have B0 : hB (G0 b X) 0 0 g (X + 5) Z0 := ⟨H0, own_of (by decide) (fun q h1 h2 => by
    unfold G0
    rw [if_neg (by omega), if_neg (by omega), if_neg (by omega), if_neg (by omega), if_pos (by omega)]), by omega⟩
  have B1 : hB (G0 b X) 0 1 g (X + 9) (K0 0) := ⟨H1, own_of (by decide) (fun q h1 h2 => by
    unfold G0
    rw [if_neg (by omega), if_neg (by omega), if_neg (by omega), if_neg (by omega), if_neg (by omega), if_pos (by omega)]), by omega⟩
  have B6 : hB (G0 b X) 0 6 g (X + 25) (SC00 (X + 25)) := ⟨H6, own_of (by decide) (fun q h1 h2 => by
    unfold G0
    rw [if_neg (by omega), if_neg (by omega), if_neg (by omega), if_neg (by omega), if_neg (by omega), if_neg (by omega), if_neg (by omega), if_pos (by omega)]), by omega⟩
  have B5 : hB (G0 b X) 0 5 g (X + 26) Z0 := ⟨H5, own_of (by decide) (fun q h1 h2 => by
    unfold G0
    rw [if_neg (by omega), if_neg (by omega), if_neg (by omega), if_neg (by omega), if_neg (by omega), if_neg (by omega), if_neg (by omega), if_neg (by omega), if_pos (by omega)]), by omega⟩
  have B70 : hB (G0 b X) 2 7 g (X + 28) Z0 := ⟨H70, own_of (by decide) (fun q h1 h2 => by
    unfold G0
    rw [if_neg (by omega), if_neg (by omega), if_neg (by omega), if_neg (by omega), if_neg (by omega), if_neg (by omega), if_neg (by omega), if_neg (by omega), if_neg (by omega), if_pos (by omega)]), by omega⟩
  have B71 : hB (G0 b X) 3 7 g (X + 30) Z0 := ⟨H71, own_of (by decide) (fun q h1 h2 => by
    unfold G0
    rw [if_neg (by omega), if_neg (by omega), if_neg (by omega), if_neg (by omega), if_neg (by omega), if_neg (by omega), if_neg (by omega), if_neg (by omega), if_neg (by omega), if_neg (by omega), if_pos (by omega)]), by omega⟩
  have B72 : hB (G0 b X) 4 7 g (X + 32) Z0 := ⟨H72, own_of (by decide) (fun q h1 h2 => by
    unfold G0
    rw [if_neg (by omega), if_neg (by omega), if_neg (by omega), if_neg (by omega), if_neg (by omega), if_neg (by omega), if_neg (by omega), if_neg (by omega), if_neg (by omega), if_neg (by omega), if_neg (by omega), if_pos (by omega)]), by omega⟩
  have B2 : ∀ i, i < 8 → hB (G0 b X) 1 2 g (X + 34 + 2 * i) Z0 := fun i hi => ⟨H2 i hi, own_of (by decide) (fun q h1 h2 => by
    unfold G0
    rw [if_neg (by omega), if_neg (by omega), if_neg (by omega), if_neg (by omega), if_neg (by omega), if_neg (by omega), if_neg (by omega), if_neg (by omega), if_neg (by omega), if_neg (by omega), if_neg (by omega), if_neg (by omega), if_pos (by omega), show (q - X - 34) / 2 = i by omega]), by omega⟩
  have B11 : hB (G0 b X) 6 11 g (X + 50) Z0 := ⟨H11, own_of (by decide) (fun q h1 h2 => by
    unfold G0
    rw [if_neg (by omega), if_neg (by omega), if_neg (by omega), if_neg (by omega), if_neg (by omega), if_neg (by omega), if_neg (by omega), if_neg (by omega), if_neg (by omega), if_neg (by omega), if_neg (by omega), if_neg (by omega), if_neg (by omega)]), by omega⟩
  have hz0 : ∀ i, hz Z0 i = false := fun i => by
    unfold hz
    show decide (¬ nI 0 = nI 0) = false
    decide
  have rw0 : ∀ i, rw_ Z0 i = false := fun i => by
    unfold rw_
    show decide (¬ nI 0 = nI 0) = false
    decide
  have st : ∀ {gg σ : Nat}, hB (G0 b X) gg 7 g σ Z0 → cSt gg (G0 b X) g σ Z0 0 0 (fun _ => 0) (fun _ => Z0) := fun H => ⟨H, rfl, Nat.le_refl _, by omega, fun i hi => by omega, fun i _ _ => rfl, fun i j hi => by omega⟩
  have xR : ∀ k, k ≠ 0 → sR SX k = sR (SX00 X) k := fun k hk => (fX k (decide_eq_false hk)).2.2.2.2.1
  have xI : ∀ k, k ≠ 0 → sI SX k = nI 0 := fun k hk => (fX k (decide_eq_false hk)).1
  refine ⟨G0 b X, Z0, fun _ => 0, fun _ => 0, fun _ => 0, fun _ => [], 0, [], 0, false, ⟨SX, X + 25, X + 26, X + 4, X + 5, X + 9, SC00 (X + 25), Z0, SQ0 (X + 4), Z0, K0 0, fun i => X + 34 + 2 * i, fun _ => Z0, fun _ _ => 0, fun _ _ => Z0, 0, ⟨B8, xR 4 (by decide), ⟨fun i hi => ⟨q0 i hi, B2 i hi, rfl, fun c _ _ => rfl⟩, fun i c _ hc => absurd hc (Nat.not_lt_zero _), fun i j _ _ e => ?_, fun i c j c2 _ hc => absurd hc (Nat.not_lt_zero _)⟩, fun i j hi hj => ⟨fun _ => ?_, fun hh => ?_⟩⟩, ⟨X + 28, X + 30, X + 32, 2, 3, 4, Z0, Z0, Z0, 0, 0, 0, 0, 0, fun _ => 0, fun _ => 0, fun _ => 0, fun _ => Z0, fun _ => Z0, fun _ => Z0, ⟨xR 5 (by decide), xR 6 (by decide), xR 7 (by decide)⟩, ⟨(by omega), (by omega), (by omega), (by omega), (by omega), (by omega)⟩, st B70, st B71, st B72, rfl, (fun j v hj => by cases hj), rfl⟩, ⟨B6, B5, rfl⟩, ⟨xR 3 (by decide), B4, B0, B1, ⟨rfl, (by decide), fun i => ?_⟩, rfl, rfl⟩, ⟨xI 8 (by decide), (fun i hi => absurd hi (Nat.not_lt_zero _)), ?_, xI 10 (by decide)⟩, ⟨rfl, rfl, false, rfl, (fun e => by cases e), fun _ => ⟨⟨rfl, rfl, rfl, rfl⟩, rfl, rfl⟩⟩, ?_⟩, ⟨⟨⟨fun i _ => ⟨rfl, Nat.zero_le _⟩, fun i c _ _ => ⟨rfl, Nat.zero_le _⟩⟩, fun i => ?_, fun i _ => ⟨rfl, Nat.zero_le _⟩⟩, fun i _ => ⟨fun c hc => absurd hc (Nat.not_lt_zero _), fun c _ m hm => absurd hm (Nat.not_lt_zero _)⟩, fun i => ?_, fun i j _ _ hh => ?_, ⟨(by decide), rfl, rfl, (by decide), (fun j v hj => by cases hj), fun v hv => absurd hv List.not_mem_nil⟩, rfl, Nat.zero_le _, rfl⟩, B11, ?_, by omega⟩
  · have e : X + 34 + 2 * i = X + 34 + 2 * j := e
    omega
  · rw [(fX 1 rfl).2.2.2.2.2]
    rfl
  · rw [hz0] at hh
    cases hh
  · show nI 0 = bI (kRow (K0 0) i)
    unfold kRow
    show nI 0 = bI (decide (¬ nI 0 = nI 0))
    decide
  · rw [xI 9 (by decide), cntF_z hz0]
  · unfold rmW
    omega
  · show nI 0 = bI (rw_ Z0 i)
    rw [rw0]
    rfl
  · show nI 0 = bI (hz Z0 i)
    rw [hz0]
    rfl
  · rw [hz0] at hh
    cases hh
  · unfold G0
    rw [if_pos rfl]
theorem bkL_sum {ci a n s : Nat} {S : gS} (h : 1 < o_sz ci) : ((bkL ci a S n s).map Prod.snd).sum = n + s := by
  unfold bkL
  rw [List.map_cons, List.sum_cons, List.map_map]
  exact congrArg (n + ·) (sum_if _ _ (by omega))
theorem LX_sum (X : Nat) : ((LX X).map Prod.snd).sum = 4651 := by
  have w0 : 1 < o_sz 0 := by decide
  have w1 : 1 < o_sz 1 := by decide
  have w2 : 1 < o_sz 2 := by decide
  have w3 : 1 < o_sz 3 := by decide
  have w5 : 1 < o_sz 5 := by decide
  have w7 : 1 < o_sz 7 := by decide
  unfold LX LQ LX0
  simp only [List.map_append, List.sum_append, List.map_cons, List.sum_cons, List.map_nil, List.sum_nil, bkL_sum w0, bkL_sum w1, bkL_sum w2, bkL_sum w3, bkL_sum w5, bkL_sum w7]
  omega
theorem law_ok (b L N : Nat) (xs : Nat → Int32) (hb : b < N) (hL : L ≤ 3584) : xLawOk b L xs N := by
  have xA := x_pre 76 (xmk (xh0 b L xs N) (.inr (8, dfX)) 11) N (va_up_self _ _ _) rfl
  obtain ⟨k8, k4, k0, k1, k6, k5, k70, k71, k72⟩ := x_blk (xmk (xh0 b L xs N) (.inr (8, dfX)) 11) N
  generalize hg0 : PB (xmk (xh0 b L xs N) (.inr (8, dfX)) 11) N 8 (ofs 8 N (SX00 N)) (LX N) = g0 at *
  have n0 : g0.2.2.1 = N + 34 := by
    rw [← hg0, PB_nx]
    show N + 1 + 33 = N + 34
    omega
  have s0 : g0.2.2.2 = 4662 := by
    rw [← hg0]
    show 0 + 11 + ((LX N).map Prod.snd).sum = 4662
    rw [LX_sum]
  have b0 : g0.1 b = some (.inl (x_tS, L, fun k => .int (xs k))) := by
    rw [← hg0, PB_lo hb]
    show va_up (xh0 b L xs N).1 N _ b = _
    rw [va_up_ne _ _ (by omega)]
    exact if_pos rfl
  obtain ⟨g1, SX, l1, l2, l3, l4, l5, l6, l7, l8, l9⟩ := x_loop 77 (X := N) 8 0 g0 (SX00 N) rfl k8 (by omega)
  rw [n0] at l4 l5 l6 l8
  have eA : xm 80 0 [.ref N] (xmk (xh0 b L xs N) (.inr (8, dfX)) 11) = some (none, g1) := xA.trans l1
  have n1 : g1.2.2.1 = N + 50 := by omega
  have eM := c_Model0 78 (xmk g1 (.inr (11, dfM)) 65) (N + 50) (by
    show va_up g1.1 g1.2.2.1 _ (N + 50) = _
    rw [n1, va_up_self]) (by
    show g1.2.2.1 + 1 = _
    rw [n1])
  generalize hg2 : oh 11 (grow (xmk g1 (.inr (11, dfM)) 65) 36 75847) (N + 50) Z0 = g2 at eM
  have kF : ∀ q, q < N + 50 → g2.1 q = g1.1 q := fun q hq => by
    rw [← hg2, oh_same (ofp_lo hq)]
    show va_up g1.1 g1.2.2.1 _ q = _
    rw [va_up_ne _ _ (by omega)]
  have z8 : o_sz 8 = 4 := rfl
  have o8 : ∀ q, (q < N ∨ N + 4 ≤ q) → ofp 8 N q = false := fun q hq => by
    cases hc : ofp 8 N q with
    | false => rfl
    | true =>
      have := ofp_lt (by decide : 0 < o_sz 8) hc
      omega
  have kK : ∀ {ci a : Nat} {S : gS}, 0 < o_sz ci → N + 4 ≤ a → a + o_sz ci ≤ N + 34 → isB ci g0 a S → isB ci g2 a S := fun hs h1 h2 H => H.any (fun q hq => by
    have := ofp_lt hs hq
    rw [kF q (by omega)]
    exact l6 q (by omega) (o8 q (by omega)))
  have hI : INV N (N + 50) b (N + 100) 100000 g2 := by
    refine made b N g2 SX hb (l2.any (fun q hq => kF q (by
      have := ofp_lt (by decide : 0 < o_sz 8) hq
      omega))) (kK (by decide) (by omega) (by show N + 4 + 11 ≤ N + 34; omega) k4) (kK (by decide) (by omega) (by show N + 5 + 4 ≤ N + 34; omega) k0) (kK (by decide) (by omega) (by show N + 9 + 4 ≤ N + 34; omega) k1) (kK (by decide) (by omega) (by show N + 25 + 1 ≤ N + 34; omega) k6) (kK (by decide) (by omega) (by show N + 26 + 2 ≤ N + 34; omega) k5) (kK (by decide) (by omega) (by show N + 28 + 2 ≤ N + 34; omega) k70) (kK (by decide) (by omega) (by show N + 30 + 2 ≤ N + 34; omega) k71) (kK (by decide) (by omega) (by show N + 32 + 2 ≤ N + 34; omega) k72) (fun i hi => (l5 i hi).any (fun q hq => kF q (by
      have := ofp_lt (by decide : 0 < o_sz 2) hq
      have : o_sz 2 = 2 := rfl
      omega))) (by rw [← hg2]; exact isB_oh _ _ _ _) l3 (fun i hi => ?_) ?_ ?_
    · rw [l4 i hi, if_pos (Nat.zero_le _), Nat.sub_zero]
    · rw [← hg2]
      show g1.2.2.1 + 1 + 36 = _
      omega
    · rw [← hg2]
      show g1.2.2.2 + 65 + 75847 ≤ _
      omega
  have hs : scr g2 b L xs := by
    unfold scr
    rw [kF b (by omega), l6 b (by omega) (o8 b (Or.inl hb))]
    exact b0
  obtain ⟨h1, a1, a2, a3⟩ := law_loop (F1 := N + 102500) (F2 := 509600) (X := N) (M := N + 50) (b := b) (L := L) (xs := xs) (by omega) 512 0 (N + 100) 100000 g2 (by omega) (by omega) hI hs (by omega) (by omega)
  refine ⟨80, h1, by omega, ?_, by omega, by omega⟩
  have nN : (xh0 b L xs N).2.2.1 = N := rfl
  have dX : [Value.null, .null, .null, .null, .null, .null, .null, .null, .int (nI 0), .int (nI 0), .int (nI 0)] = dfX := rfl
  have dM : dfM = dfM := rfl
  show xrun 80 203 0 [(1, .ref b), (0, .null), (0, .null), (0, .null)] [] (xh0 b L xs N) = some (some (.int (nI 1)), h1)
  rw [← a1]
  have e8 : xrun 80 203 0 [(1, .ref b), (0, .null), (0, .null), (0, .null)] [] (xh0 b L xs N) = xrun 80 203 8 [(1, .ref b), (1, .ref N), (0, .null), (0, .null)] [] g1 := by
    simp (disch := omega) only [q_203_0, q_203_3, q_203_4, q_203_7, ↓reduceIte, k_cr, k_ci, k_oR, k_oN, k_aR, k_aN, and_true, true_and, and_self, eq_self, Nat.reduceLT, Nat.reduceLeDiff, Nat.reduceEqDiff, Nat.reduceAdd, Nat.reduceMul, Bool.true_eq_false, Bool.false_eq_true, Nat.add_sub_cancel, Nat.not_lt_zero, Nat.zero_le, k_sub, k_sb1, k_r, k_n, k_ret, k_t1, k_t0, k_nr, k_nn, k_z0, k_z1, k_zb, x_okI, lit_nI, k_in, k_cl, k_lt, k_le, k_eq, k_neg, nI_add, nI_mul, k_clt, k_cgt, k_cle, k_cge, k_ceq, bI_0, k_sh8, ne_eq, Nat.add_eq_zero_iff, Nat.one_ne_zero, Nat.succ_ne_zero, and_false, false_and, not_false_eq_true, not_true_eq_false, ite_true, ite_false, if_true, if_false, nN, dX, eA]
  rw [e8, q_203_8, n1]
  have e11 : ∀ fs, fs = dfM → xrun 80 203 11 [(1, .ref b), (1, .ref N), (0, .null), (0, .null)] [.ref (N + 50)] (xmk g1 (.inr (11, fs)) 65) = xrun 80 203 18 [(1, .ref b), (1, .ref N), (1, .ref (N + 50)), (1, .int (nI 0))] [] g2 := fun fs hfs => by
    subst hfs
    simp (disch := omega) only [q_203_11, q_203_12, q_203_15, q_203_16, q_203_17, ↓reduceIte, k_cr, k_ci, k_oR, k_oN, k_aR, k_aN, and_true, true_and, and_self, eq_self, Nat.reduceLT, Nat.reduceLeDiff, Nat.reduceEqDiff, Nat.reduceAdd, Nat.reduceMul, Bool.true_eq_false, Bool.false_eq_true, Nat.add_sub_cancel, Nat.not_lt_zero, Nat.zero_le, k_sub, k_sb1, k_r, k_n, k_ret, k_t1, k_t0, k_nr, k_nn, k_z0, k_z1, k_zb, x_okI, lit_nI, k_in, k_cl, k_lt, k_le, k_eq, k_neg, nI_add, nI_mul, k_clt, k_cgt, k_cle, k_cge, k_ceq, bI_0, k_sh8, ne_eq, Nat.add_eq_zero_iff, Nat.one_ne_zero, Nat.succ_ne_zero, and_false, false_and, not_false_eq_true, not_true_eq_false, ite_true, ite_false, if_true, if_false, eM]
  exact e11 _ rfl
