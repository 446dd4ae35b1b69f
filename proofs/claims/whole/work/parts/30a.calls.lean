/-! Calls of both: feed, unknown, forget, begin. -/
def kRu (P : Nat → Bool) : Prop := k15 P ∧ P 12 = false ∧ P 13 = false ∧ P 14 = false
theorem hz_fr {P : Nat → Bool} {S T : gS} (h : fr P S T) (hp : P 12 = false) : hz T = hz S := by
  funext i
  unfold hz
  rw [(h 12 hp).2.2.1]
theorem pmK_fr {P : Nat → Bool} {S T : gS} (h : fr P S T) (hp : k15 P) (cN mN : Nat → Nat) (a b : Nat) (L : List mT) : pmK T cN mN a b L = pmK S cN mN a b L ∧ cdK T cN mN a L = cdK S cN mN a L := by
  have ea : eK T mN a = eK S mN a := funext fun c => eK_fr h hp mN a c
  have eb : eK T mN b = eK S mN b := funext fun c => eK_fr h hp mN b c
  have en : nmK T b = nmK S b := by
    funext o
    cases o with
    | none => rfl
    | some e =>
      show (fun i => sL T 3 (8 * (6 * b + e) + i)) = (fun i => sL S 3 (8 * (6 * b + e) + i))
      rw [(h 3 hp.2.2.2.1).2.2.2.1]
  unfold pmK cdK
  rw [ea, eb, en, fC_fr h hp, fC_fr h hp, (h 1 hp.2.1).2.2.2.1]
  exact ⟨rfl, rfl⟩
theorem cBld.S {G : gG} {h : xH} {SX SX' : gS} {β : Nat → Nat} {SB : Nat → gS} {κ : Nat → Nat → Nat} {SK : Nat → Nat → gS} {S S' : gS} {cN mN : Nat → Nat} {P : Nat → Bool} (H : cBld G h SX β SB κ SK S cN mN) (hf : fr P S S') (hp : k15 P) (e0 : sQ SX' 0 = sQ SX 0) : cBld G h SX' β SB κ SK S' cN mN := by
  obtain ⟨a1, a2, a3, a4⟩ := H
  refine ⟨fun b hb => ?_, fun b c hb hc => ?_, a3, a4⟩
  · rw [e0]
    exact a1 b hb
  · unfold rw_
    rw [(hf 1 hp.2.1).2.2.2.1, (hf 3 hp.2.2.2.1).2.2.2.1, (hf 4 hp.2.2.2.2.1).2.2.1, (hf 5 hp.2.2.2.2.2).2.2.1]
    exact a2 b c hb hc
theorem cRu.S {G : gG} {h : xH} {SX SX' : gS} {β : Nat → Nat} {S S' : gS} {cN mN : Nat → Nat} {Lf : Nat → List mT} {P : Nat → Bool} (H : cRu G h SX β S cN mN Lf) (hf : fr P S S') (hp : kRu P) (e1 : sQ SX' 1 = sQ SX 1) : cRu G h SX' β S' cN mN Lf := by
  intro a b ha hb
  rw [hz_fr hf hp.2.1, e1, (pmK_fr hf hp.1 cN mN a b _).1, (pmK_fr hf hp.1 cN mN a b _).2]
  exact H a b ha hb
theorem uqS.fr {S S' : gS} {cN mN : Nat → Nat} {P : Nat → Bool} (H : uqS S cN mN) (hf : fr P S S') (hp : k15 P) : uqS S' cN mN := by
  intro b hb
  rw [fC_fr hf hp, (hf 1 hp.2.1).2.2.2.1, (hf 3 hp.2.2.2.1).2.2.2.1]
  refine ⟨(H b hb).1, fun c hc m hm => ?_⟩
  rw [eK_fr hf hp]
  exact (H b hb).2 c hc m hm
theorem ruT.fr {S S' : gS} {cN mN : Nat → Nat} {Lf : Nat → List mT} {a b : Nat} {P : Nat → Bool} (H : ruT S cN mN Lf a b) (hf : fr P S S') (hp : kRu P) : ruT S' cN mN Lf a b := by
  obtain ⟨⟨n, n1, n2, n3⟩, n4⟩ := H
  have ea : eK S' mN a = eK S mN a := funext fun c => eK_fr hf hp.1 mN a c
  have eb : eK S' mN b = eK S mN b := funext fun c => eK_fr hf hp.1 mN b c
  refine ⟨⟨n, ?_, n2, ?_⟩, ?_⟩
  · rw [(hf 13 hp.2.2.1).2.2.1]
    exact n1
  · rw [(hf 14 hp.2.2.2).2.2.1]
    exact n3
  · rw [ea, eb, fC_fr hf hp.1, fC_fr hf hp.1]
    exact n4
theorem hzOK.fr {S S' : gS} {P : Nat → Bool} (H : hzOK S) (hf : fr P S S') (hp : P 12 = false) : hzOK S' := fun i => by
  rw [hz_fr hf hp, (hf 12 hp).2.2.1]
  exact H i
/-- the class, when its root alone has changed -/
theorem cl_X {G : gG} {h : xH} {X Kc R Q P κ0 : Nat} {SX SX' SC T SQ SP SK0 : gS} {β : Nat → Nat} {SB : Nat → gS} {κ : Nat → Nat → Nat} {SK : Nat → Nat → gS} {S : gS} {cN mN : Nat → Nat} {Lf Lf' : Nat → List mT} {bd mt : Nat} {V : vL} {S' : gS} (W : wyB G h X Kc SX β SB κ SK S cN mN Lf) (h3 : st3 G h SX κ cN mN bd V mt) (hC : caW G h Kc R SC T) (hP : prW1 G h SX Q P κ0 SQ SP SK0) (eR : ∀ k, 3 ≤ k → k ≤ 7 → sR SX' k = sR SX k) (hB : cBld G h SX' β SB κ SK S' cN mN) (hR : cRu G h SX' β S' cN mN Lf') : wyB G (oh 8 h X SX') X Kc SX' β SB κ SK S' cN mN Lf' ∧ st3 G (oh 8 h X SX') SX' κ cN mN bd V mt ∧ caW G (oh 8 h X SX') Kc R SC T ∧ prW1 G (oh 8 h X SX') SX' Q P κ0 SQ SP SK0 ∧ ∀ q, (G q).1 ≠ 0 → (oh 8 h X SX').1 q = h.1 q := by
  have k : ∀ q, G q ≠ (0, X) → (oh 8 h X SX').1 q = h.1 q := fun q hq => oh_same (own_out W.1.2.1 hq)
  have k1 : ∀ q, (G q).1 ≠ 0 → (oh 8 h X SX').1 q = h.1 q := fun q hq => k q (fun e => hq (by rw [e]))
  have k0 : ∀ q a, G q = (0, a) → X ≠ a → (oh 8 h X SX').1 q = h.1 q := fun q a e hne => k q (fun z => hne (Prod.mk.inj (z.symm.trans e)).2)
  refine ⟨⟨W.1.set, (eR 4 (by omega) (by omega)).trans W.2.1, hB.keep (fun _ _ => rfl) (fun q _ e => k1 q (by omega)) (Nat.le_refl _), hR.keep (fun _ _ => rfl) (fun q _ e => k1 q (by omega)) (Nat.le_refl _)⟩, h3.keep (fun _ _ => rfl) (fun q _ hc => k1 q (by omega)) (Nat.le_refl _) (eR 5 (by omega) (by omega)) (eR 6 (by omega) (by omega)) (eR 7 (by omega) (by omega)), hC.keep (fun _ _ => rfl) (fun q _ hc => hc.elim (fun e => k0 q _ e (W.1.ne hC.1 (by decide))) (fun e => k0 q _ e (W.1.ne hC.2.1 (by decide)))) (Nat.le_refl _), hP.keep (fun _ _ => rfl) (fun q _ hc => hc.elim (fun e => k0 q _ e (W.1.ne hP.2.1 (by decide))) (fun hc => hc.elim (fun e => k0 q _ e (W.1.ne hP.2.2.1 (by decide))) (fun e => k0 q _ e (W.1.ne hP.2.2.2.1 (by decide))))) (Nat.le_refl _) (eR 3 (by omega) (by omega)), k1⟩
theorem rw_id {P : Nat → Bool} {S S' : gS} (hf : fr P S S') (hp : k15 P) (i : Nat) : rw_ S' i = rw_ S i := by
  unfold rw_
  rw [(hf 5 hp.2.2.2.2.2).2.2.1]
/-- the reference, when its VALUES, BUILDS and RULES stay -/
theorem rf_same {S S' : gS} {cN mN ty : Nat → Nat} {Lf : Nat → List mT} {bd : Nat} {V : vL} {z z' : Nat} {dr dr' : Bool} {P : Nat → Bool} (H : rfW S cN mN ty Lf bd V z dr) (hf : fr P S S') (hp : kRu P) (h6 : P 6 = false) (h7 : P 7 = false) (h8 : P 8 = false) (h9 : P 9 = false) (h10 : P 10 = false) (h11 : P 11 = false) (e16 : sI S' 16 = nI z') (ez : z' ≤ 700) (e17 : sI S' 17 = bI dr') : rfW S' cN mN ty Lf bd V z' dr' := by
  obtain ⟨rT, rU, rH, rR, ⟨b8, b6, b7, b60, bV, bB⟩, z1, z2, d1⟩ := H
  refine ⟨rT.fr hf hp.1.1 hp.1.2.2.1 hp.1.2.2.2.2.1 hp.1.2.2.2.2.2, rU.fr hf hp.1, rH.fr hf hp.2.1, fun a b ha hb hh => ?_, ⟨b8, ((hf 6 h6).1).trans b6, ?_, b60, fun j v hj => (bV j v hj).fr hf hp.1.2.2.1 h8 h9 h10 h11, vlB_fr hf hp.1 bB⟩, e16, ez, e17⟩
  · rw [hz_fr hf hp.2.1] at hh
    exact (rR a b ha hb hh).fr hf hp
  · rw [(hf 7 h7).2.2.1]
    exact b7
theorem rfE.fr {SC S S' : gS} {P : Nat → Bool} (H : rfE SC S) (hf : fr P S S') (hp : ∀ k, 18 ≤ k → k ≤ 26 → P k = false) : rfE SC S' := by
  obtain ⟨a1, a2, w, w1, w2, w3⟩ := H
  refine ⟨a1.trans ((hf 25 (hp 25 (by omega) (by omega))).1).symm, a2.trans ((hf 26 (hp 26 (by omega) (by omega))).1).symm, w, ((hf 24 (hp 24 (by omega) (by omega))).1).trans w1, fun e => ?_, w3⟩
  rw [(hf 18 (hp 18 (by omega) (by omega))).1, (hf 19 (hp 19 (by omega) (by omega))).1, (hf 20 (hp 20 (by omega) (by omega))).1, (hf 21 (hp 21 (by omega) (by omega))).1, (hf 22 (hp 22 (by omega) (by omega))).2.1, (hf 23 (hp 23 (by omega) (by omega))).2.1]
  exact w2 e
theorem call_unknown {X M b E1 E2 : Nat} {h : xH} (H : INV X M b E1 E2 h) (x : Int32) : CALL X M b E1 E2 h 73 194 [.int x] := by
  obtain ⟨G, S, cN, mN, ty, Lf, bd, V, z, dr, C, r, B, s1, s2⟩ := id H
  obtain ⟨SX, Kc, R, Q, P, κ0, SC, T, SQ, SP, SK0, β, SB, κ, SK, mt, W, h3, hC, hP, hT, hE, hR⟩ := C
  have e1 : xm 80 73 [.ref X, .int x] h = _ := c_unknown 79 h X SX x W.1.1
  have e2 : ∀ h, xm 80 194 [.ref M, .int x] (oh 11 h M S) = _ := fun h => m_unknown 78 h M S x
  cases hx : inR x 0 1 with
  | false =>
    rw [hx, if_neg (show ¬ (false = true) by decide)] at e1
    have e3 := e2 h
    rw [hx, if_neg (show ¬ (false = true) by decide), show oh 11 h M S = h from B.1] at e3
    exact call_0 H e1 e3
  | true =>
    rw [hx, if_pos (show true = true from rfl)] at e1
    have e3 := e2 (oh 8 h X (uI SX 10 x))
    rw [hx, if_pos (show true = true from rfl)] at e3
    obtain ⟨t1, t2, t3, t4⟩ := hT
    rw [t4] at e1
    obtain ⟨z1, z2, d1⟩ := id r.2.2.2.2.2
    rw [d1] at e3
    have hd : ∃ dr', x = bI dr' := by
      rw [inR_01] at hx
      rcases hx with q | q
      · exact ⟨false, q⟩
      · exact ⟨true, q⟩
    obtain ⟨dr', hd⟩ := hd
    have hf : fr (fun k => decide (k = 17)) S (uI S 17 x) := fr.rfl.uI (by decide)
    have hp : kRu (fun k => decide (k = 17)) := ⟨⟨rfl, rfl, rfl, rfl, rfl, rfl⟩, rfl, rfl, rfl⟩
    obtain ⟨a1, a2, a3, a4, a5⟩ := cl_X (SX' := uI SX 10 x) W h3 hC hP (fun k _ _ => rfl) (W.2.2.1.S hf hp.1 rfl) (W.2.2.2.S hf hp rfl)
    refine call_1 (G' := G) (S' := uI S 17 x) (dr := dr') (z := z) B s1 s2 e1 e3 (fun _ _ => rfl) (fun q _ hq => a5 q (by omega)) (Nat.le_refl _) ⟨uI SX 10 x, Kc, R, Q, P, κ0, SC, T, SQ, SP, SK0, β, SB, κ, SK, mt, a1, a2, a3, a4, ⟨t1, t2, t3, hd⟩, hE.fr hf (fun k h1 h2 => by
      simp only [decide_eq_false_iff_not]
      omega), ?_⟩ (rf_same r hf hp rfl rfl rfl rfl rfl rfl z1 z2 hd)
    unfold rmW at hR ⊢
    exact ⟨Nat.le_trans hR.1 (by omega), Nat.le_trans hR.2.1 (by omega), hR.2.2⟩
theorem txE.feed {tc tr : Nat → Int32} {z n : Nat} {a b : Int64} (h : txE tc tr z) : txE (fillF tc (cby a b) z n) (fillF tr (rby a b) z n) (z + n) := by
  intro i hi
  by_cases c : i < z
  · rw [fillF_out _ _ (Or.inl c), fillF_out _ _ (Or.inl c)]
    exact h i c
  · have e : i = z + (i - z) := by omega
    rw [e, fillF_in _ _ (by omega), fillF_in _ _ (by omega)]
    have hx : ∃ x, x < 256 ∧ rby a b (i - z) = nI x := by
      unfold rby
      generalize (if i - z < 8 then a >>> ((nI (56 - 8 * (i - z))).toInt64 &&& 63) else b >>> ((nI (120 - 8 * (i - z))).toInt64 &&& 63)).toInt32 = y
      refine ⟨(y &&& nI 255).toBitVec.toNat, ?_, ?_⟩
      · rw [Int32.toBitVec_and, BitVec.toNat_and]
        exact Nat.lt_of_le_of_lt Nat.and_le_right (by decide)
      · unfold nI
        apply Int32.toBitVec_inj.mp
        show (y &&& nI 255).toBitVec = BitVec.ofNat 32 (y &&& nI 255).toBitVec.toNat
        rw [BitVec.ofNat_toNat, BitVec.setWidth_eq]
    obtain ⟨x, x1, x2⟩ := hx
    refine ⟨x, x1, x2, ?_⟩
    unfold cby
    rw [x2]
theorem call_feed {X M b E1 E2 : Nat} {h : xH} (H : INV X M b E1 E2 h) (p q : Int64) (x : Int32) : CALL X M b E1 E2 h 38 145 [.long p, .long q, .int x] := by
  obtain ⟨G, S, cN, mN, ty, Lf, bd, V, z, dr, C, r, B, s1, s2⟩ := id H
  obtain ⟨SX, Kc, R, Q, P, κ0, SC, T, SQ, SP, SK0, β, SB, κ, SK, mt, W, h3, hC, hP, hT, hE, hR⟩ := C
  obtain ⟨t1, t2, t3, t4⟩ := hT
  obtain ⟨z1, z2, d1⟩ := id r.2.2.2.2.2
  have e1 : xm 80 38 [.ref X, .long p, .long q, .int x] h = _ := c_feed 79 h X SX p q x z W.1.1 t1 z2
  have e2 : ∀ h, xm 80 145 [.ref M, .long p, .long q, .int x] (oh 11 h M S) = _ := fun h => m_feed 78 h M S p q x z z1 z2
  cases hx : inR x 1 16 with
  | false =>
    rw [hx, if_neg (show ¬ (false = true) by decide)] at e1
    have e3 := e2 h
    rw [hx, if_neg (show ¬ (false = true) by decide), show oh 11 h M S = h from B.1] at e3
    exact call_0 H e1 e3
  | true =>
    rw [hx, if_pos (show true = true from rfl)] at e1
    obtain ⟨n, n1, n2, rfl⟩ := inR_1 (n := 16) (by omega) hx
    rw [k_cl (by omega)] at e1
    by_cases c : 700 < z + n
    · rw [if_pos c] at e1
      have e3 := e2 h
      rw [hx, if_pos (show true = true from rfl), k_cl (by omega), if_pos c, show oh 11 h M S = h from B.1] at e3
      exact call_0 H e1 e3
    · rw [if_neg c] at e1
      have e3 := e2 (oh 8 h X (uI (cfS SX p q z n) 8 (nI (z + n))))
      rw [hx, if_pos (show true = true from rfl), k_cl (by omega), if_neg c] at e3
      have hf : fr (fun k => decide (k = 15) || decide (k = 16)) S (fdS S p q z n) := (fr.rfl.rA (j := 15) (by decide)).uI (by decide)
      have hp : kRu (fun k => decide (k = 15) || decide (k = 16)) := ⟨⟨rfl, rfl, rfl, rfl, rfl, rfl⟩, rfl, rfl, rfl⟩
      obtain ⟨a1, a2, a3, a4, a5⟩ := cl_X (SX' := uI (cfS SX p q z n) 8 (nI (z + n))) W h3 hC hP (fun k _ _ => rfl) (W.2.2.1.S hf hp.1 rfl) (W.2.2.2.S hf hp rfl)
      refine call_1 (G' := G) (S' := fdS S p q z n) (dr := dr) (z := z + n) B s1 s2 e1 e3 (fun _ _ => rfl) (fun q _ hq => a5 q (by omega)) (Nat.le_refl _) ⟨_, Kc, R, Q, P, κ0, SC, T, SQ, SP, SK0, β, SB, κ, SK, mt, a1, a2, a3, a4, ⟨rfl, ?_, ?_, t4⟩, hE.fr hf (fun k h1 h2 => by
        simp only [Bool.or_eq_false_iff, decide_eq_false_iff_not]
        omega), ?_⟩ (rf_same r hf hp rfl rfl rfl rfl rfl rfl rfl (by omega) (((hf 17 rfl).1).trans d1))
      · have u1 : sA (uI (cfS SX p q z n) 8 (nI (z + n))) 2 = fillF (sA SX 2) (cby p q) z n := by
          funext i
          show sA (rA SX 2 _) 2 i = _
          rw [sA_rA, if_pos rfl]
        have u2 : sA (fdS S p q z n) 15 = fillF (sA S 15) (rby p q) z n := by
          funext i
          show sA (rA S 15 _) 15 i = _
          rw [sA_rA, if_pos rfl]
        rw [u1, u2]
        exact t2.feed
      · rw [hz_fr hf rfl]
        exact t3
      · unfold rmW at hR ⊢
        exact ⟨by
          show h.2.2.1 + 3 * (z + n) ≤ _
          omega, by
          show h.2.2.2 + 22 * (z + n) ≤ _
          omega, hR.2.2⟩
theorem cntF_eq {g g' : Nat → Bool} : ∀ (k i : Nat), (∀ j, i ≤ j → j < i + k → g' j = g j) → cntF g' k i = cntF g k i
  | 0, i, h => rfl
  | k + 1, i, h => by rw [cntF_s, cntF_s, h i (Nat.le_refl _) (by omega), cntF_eq k (i + 1) (fun j h1 h2 => h j (by omega) (by omega))]
theorem cntF_one {g g' : Nat → Bool} {j : Nat} (h1 : g j = true) (h2 : g' j = false) (h3 : ∀ i, i ≠ j → g' i = g i) : ∀ (k i : Nat), i ≤ j → j < i + k → cntF g k i = cntF g' k i + 1
  | 0, i, a, b => by omega
  | k + 1, i, a, b => by
    rw [cntF_s, cntF_s]
    by_cases c : i = j
    · subst c
      rw [h1, h2, cntF_eq (g := g) (g' := g') k (i + 1) (fun j hj _ => h3 j (by omega)), if_pos rfl, if_neg (by decide)]
      omega
    · rw [h3 i c, cntF_one h1 h2 h3 k (i + 1) (by omega) (by omega)]
      omega
theorem cntF_le (g : Nat → Bool) : ∀ (k i : Nat), cntF g k i ≤ k
  | 0, i => Nat.le_refl _
  | k + 1, i => by
    rw [cntF_s]
    have := cntF_le g k (i + 1)
    split <;> omega
theorem call_forget {X M b E1 E2 : Nat} {h : xH} (H : INV X M b E1 E2 h) (f t : Int32) : CALL X M b E1 E2 h 72 169 [.int f, .int t] := by
  obtain ⟨G, S, cN, mN, ty, Lf, bd, V, z, dr, C, r, B, s1, s2⟩ := id H
  obtain ⟨SX, Kc, R, Q, P, κ0, SC, T, SQ, SP, SK0, β, SB, κ, SK, mt, W, h3, hC, hP, hT, hE, hR⟩ := C
  obtain ⟨t1, t2, t3, t4⟩ := hT
  obtain ⟨z1, z2, d1⟩ := id r.2.2.2.2.2
  have rH : hzOK S := r.2.2.1
  obtain ⟨ρ, ρ1, ρ2⟩ := rho W.2.2.2
  have e1 : xm 80 72 [.ref X, .int f, .int t] h = _ := c_forget 78 h X SX f t ρ _ W.1.1 ρ1 t3
  have e2 : ∀ h, xm 80 169 [.ref M, .int f, .int t] (oh 11 h M S) = _ := fun h => m_forget 78 h M S f t rH
  by_cases c : inR f 0 7 = true ∧ inR t 0 7 = true ∧ hz S (8 * f.toNatClampNeg + t.toNatClampNeg) = true
  · obtain ⟨c1, c2, c3⟩ := id c
    obtain ⟨a, ha, rfl⟩ := inR_of (hi := 7) (by omega) c1
    obtain ⟨d, hd, rfl⟩ := inR_of (hi := 7) (by omega) c2
    rw [k_cl (by omega), k_cl (by omega)] at c3 e1
    rw [if_pos ⟨c1, c2, by rw [ρ2 _ (by omega)]; exact c3⟩] at e1
    have e3 := e2 (oh 8 h X (uI (uQ SX 1 (8 * a + d) .null) 9 (nI (cntF (hz S) 64 0) - nI 1)))
    rw [if_pos c, k_cl (by omega), k_cl (by omega)] at e3
    have hf : fr (fun k => decide (k = 12)) S (uA S 12 (8 * a + d) (nI 0)) := fr.rfl.uA (by decide)
    have hp : k15 (fun k => decide (k = 12)) := ⟨rfl, rfl, rfl, rfl, rfl, rfl⟩
    have hz1 : hz (uA S 12 (8 * a + d) (nI 0)) (8 * a + d) = false := by
      unfold hz
      rw [sA_uA, if_pos ⟨rfl, rfl⟩]
      decide
    have hz2 : ∀ i, i ≠ 8 * a + d → hz (uA S 12 (8 * a + d) (nI 0)) i = hz S i := fun i hi => by
      unfold hz
      rw [sA_uA, if_neg (fun z => hi z.2)]
    have hcn := cntF_one c3 hz1 hz2 64 0 (by omega) (by omega)
    have hR1 : cRu G h (uI (uQ SX 1 (8 * a + d) .null) 9 (nI (cntF (hz S) 64 0) - nI 1)) β (uA S 12 (8 * a + d) (nI 0)) cN mN Lf := by
      intro a2 b2 ha2 hb2
      rw [(pmK_fr hf hp cN mN a2 b2 _).1, (pmK_fr hf hp cN mN a2 b2 _).2]
      have eq : sQ (uI (uQ SX 1 (8 * a + d) .null) 9 (nI (cntF (hz S) 64 0) - nI 1)) 1 (8 * a2 + b2) = if 8 * a2 + b2 = 8 * a + d then .null else sQ SX 1 (8 * a2 + b2) := by
        show sQ (uQ SX 1 (8 * a + d) .null) 1 (8 * a2 + b2) = _
        rw [sQ_uQ]
        by_cases e : 8 * a2 + b2 = 8 * a + d
        · rw [if_pos ⟨rfl, e⟩, if_pos e]
        · rw [if_neg (fun z => e z.2), if_neg e]
      rw [eq]
      by_cases e : 8 * a2 + b2 = 8 * a + d
      · rw [e, hz1, if_pos rfl]
        exact ⟨fun _ => rfl, fun z => by cases z⟩
      · rw [hz2 _ e, if_neg e]
        exact W.2.2.2 a2 b2 ha2 hb2
    obtain ⟨a1, a2, a3, a4, a5⟩ := cl_X (SX' := uI (uQ SX 1 (8 * a + d) .null) 9 (nI (cntF (hz S) 64 0) - nI 1)) W h3 hC hP (fun k _ _ => rfl) (W.2.2.1.S hf hp (by
      show sQ (uQ SX 1 (8 * a + d) .null) 0 = _
      funext j
      rw [sQ_uQ, if_neg (fun z => by cases z.1)])) hR1
    refine call_1 (G' := G) (S' := uA S 12 (8 * a + d) (nI 0)) (ty := ty) (dr := dr) (z := z) B s1 s2 e1 e3 (fun _ _ => rfl) (fun q _ hq => a5 q (by omega)) (Nat.le_refl _) ⟨_, Kc, R, Q, P, κ0, SC, T, SQ, SP, SK0, β, SB, κ, SK, mt, a1, a2, a3, a4, ⟨t1, t2, ?_, t4⟩, hE.fr hf (fun k h1 h2 => by
      simp only [decide_eq_false_iff_not]
      omega), ?_⟩ ?_
    · show nI (cntF (hz S) 64 0) - nI 1 = _
      rw [hcn, k_sub (by omega), Nat.add_sub_cancel]
    · unfold rmW at hR ⊢
      exact ⟨Nat.le_trans hR.1 (by omega), Nat.le_trans hR.2.1 (by omega), hR.2.2⟩
    · obtain ⟨rT, rU, rH, rR, ⟨b8, b6, b7, b60, bV, bB⟩, -⟩ := r
      refine ⟨rT.fr hf rfl rfl rfl rfl, rU.fr hf hp, fun i => ?_, fun a2 b2 ha2 hb2 hh => ?_, ⟨b8, b6, ?_, b60, fun j v hj => (bV j v hj).fr hf rfl rfl rfl rfl rfl, vlB_fr hf hp bB⟩, z1, z2, d1⟩
      · by_cases e : i = 8 * a + d
        · rw [e, hz1, sA_uA, if_pos ⟨rfl, rfl⟩]
          rfl
        · rw [hz2 i e, sA_uA, if_neg (fun z => e z.2)]
          exact rH i
      · have e : 8 * a2 + b2 ≠ 8 * a + d := fun e => by
          rw [e, hz1] at hh
          cases hh
        rw [hz2 _ e] at hh
        obtain ⟨⟨n, n1, n2, n3⟩, n4⟩ := rR a2 b2 ha2 hb2 hh
        have ea : eK (uA S 12 (8 * a + d) (nI 0)) mN a2 = eK S mN a2 := funext fun c => eK_fr hf hp mN a2 c
        have eb : eK (uA S 12 (8 * a + d) (nI 0)) mN b2 = eK S mN b2 := funext fun c => eK_fr hf hp mN b2 c
        refine ⟨⟨n, ?_, n2, ?_⟩, ?_⟩
        · rw [(hf 13 rfl).2.2.1]
          exact n1
        · rw [(hf 14 rfl).2.2.1]
          exact n3
        · rw [ea, eb, fC_fr hf hp, fC_fr hf hp]
          exact n4
      · rw [(hf 7 rfl).2.2.1]
        exact b7
  · have e3 := e2 h
    rw [if_neg c, show oh 11 h M S = h from B.1] at e3
    rw [if_neg (fun z => c ⟨z.1, z.2.1, by
      obtain ⟨c1, c2, c3⟩ := z
      obtain ⟨a, ha, rfl⟩ := inR_of (hi := 7) (by omega) c1
      obtain ⟨d, hd, rfl⟩ := inR_of (hi := 7) (by omega) c2
      rw [k_cl (by omega), k_cl (by omega)] at c3 ⊢
      rw [← ρ2 _ (by omega)]
      exact c3⟩)] at e1
    exact call_0 H e1 e3
theorem call_begin {X M b E1 E2 : Nat} {h : xH} (H : INV X M b E1 E2 h) (x : Int32) : CALL X M b E1 E2 h 21 134 [.int x] := by
  obtain ⟨G, S, cN, mN, ty, Lf, bd, V, z, dr, C, r, B, s1, s2⟩ := id H
  obtain ⟨SX, Kc, R, Q, P, κ0, SC, T, SQ, SP, SK0, β, SB, κ, SK, mt, W, h3, hC, hP, hT, hE, hR⟩ := C
  obtain ⟨σ0, σ1, σ2, g0, g1, g2, SS0, SS1, SS2, n1, n2, m0, m1, m2, ν0, ν1, ν2, SV0, SV1, SV2, ⟨r5, r6, r7⟩, ⟨q0, q1, q2, q01, q02, q12⟩, c0, c1, c2, h1, hV, hmt⟩ := h3
  obtain ⟨t1, t2, t3, t4⟩ := hT
  obtain ⟨rT, rU, rH, rR, ⟨b8, b6, b7, b60, bV, bB⟩, z1, z2, d1⟩ := id r
  have e1 : xm 80 21 [.ref X, .int x] h = _ := c_begin 78 h X σ0 SX SS0 x β W.1.1 (fun b hb => (W.2.2.1.1 b hb).1) r5 c0.1.1
  have e2 : ∀ h, xm 80 134 [.ref M, .int x] (oh 11 h M S) = _ := fun h => m_begin 78 h M S x
  cases hx : inR x 0 7 with
  | false =>
    rw [hx, if_neg (show ¬ (false = true) by decide)] at e1
    have e3 := e2 h
    rw [hx, if_neg (show ¬ (false = true) by decide), show oh 11 h M S = h from B.1] at e3
    exact call_0 H e1 e3
  | true =>
    rw [hx, if_pos (show true = true from rfl), c0.2.1] at e1
    have e3 := e2 (oh 7 h σ0 (uI (uI SS0 1 x) 2 (nI 0)))
    rw [hx, if_pos (show true = true from rfl), b7] at e3
    obtain ⟨a, ha, rfl⟩ := inR_of (hi := 7) (by omega) hx
    have hf : fr (fun k => decide (k = 6) || decide (k = 7)) S (uA (uI S 6 (nI a)) 7 0 (nI 0)) := (fr.rfl.uI (by decide)).uA (by decide)
    have hp : kRu (fun k => decide (k = 6) || decide (k = 7)) := ⟨⟨rfl, rfl, rfl, rfl, rfl, rfl⟩, rfl, rfl, rfl⟩
    have k1 : ∀ q, (G q).1 ≠ g0 → (oh 7 h σ0 (uI (uI SS0 1 (nI a)) 2 (nI 0))).1 q = h.1 q := fun q hq => oh_same (own_out c0.1.2.1 (fun e => hq (by rw [e])))
    have k0 : ∀ q u, G q = (0, u) → (oh 7 h σ0 (uI (uI SS0 1 (nI a)) 2 (nI 0))).1 q = h.1 q := fun q u e => k1 q (by rw [e]; show 0 ≠ g0; omega)
    refine call_1 (G' := G) (S' := uA (uI S 6 (nI a)) 7 0 (nI 0)) (ty := ty) (dr := dr) (z := z) (bd := a) (V := []) B s1 s2 e1 e3 (fun _ _ => rfl) (fun q _ hq => k1 q (by omega)) (Nat.le_refl _) ⟨SX, Kc, R, Q, P, κ0, SC, T, SQ, SP, SK0, β, SB, κ, SK, mt, ⟨W.1.frame c0.1.2.1 (fun z => by omega), W.2.1, (W.2.2.1.S hf hp.1 rfl).keep (fun _ _ => rfl) (fun q _ e => k1 q (by omega)) (Nat.le_refl _), (W.2.2.2.S hf hp rfl).keep (fun _ _ => rfl) (fun q _ e => k1 q (by omega)) (Nat.le_refl _)⟩, ⟨σ0, σ1, σ2, g0, g1, g2, _, SS1, SS2, n1, n2, m0, m1, m2, ν0, ν1, ν2, SV0, SV1, SV2, ⟨r5, r6, r7⟩, ⟨q0, q1, q2, q01, q02, q12⟩, c0.empty (nI a), c1.keep (fun _ _ => rfl) (fun q _ e => k1 q (by omega)) (Nat.le_refl _), c2.keep (fun _ _ => rfl) (fun q _ e => k1 q (by omega)) (Nat.le_refl _), rfl, fun j v hj => (by cases hj), hmt⟩, hC.keep (fun _ _ => rfl) (fun q _ hc => hc.elim (fun e => k0 q _ e) (fun e => k0 q _ e)) (Nat.le_refl _), hP.keep (fun _ _ => rfl) (fun q _ hc => hc.elim (fun e => k0 q _ e) (fun hc => hc.elim (fun e => k0 q _ e) (fun e => k0 q _ e))) (Nat.le_refl _) rfl, ⟨t1, t2, ?_, t4⟩, hE.fr hf (fun k h1 h2 => by
      simp only [Bool.or_eq_false_iff, decide_eq_false_iff_not]
      omega), ?_⟩ ⟨rT.fr hf rfl rfl rfl rfl, rU.fr hf hp.1, rH.fr hf rfl, fun a2 b2 ha2 hb2 hh => ?_, ⟨by omega, rfl, ?_, Nat.zero_le _, fun j v hj => (by cases hj), fun v hv => absurd hv List.not_mem_nil⟩, z1, z2, d1⟩
    · rw [hz_fr hf rfl]
      exact t3
    · unfold rmW at hR ⊢
      exact ⟨Nat.le_trans hR.1 (by omega), Nat.le_trans hR.2.1 (by omega), hR.2.2⟩
    · rw [hz_fr hf rfl] at hh
      exact (rR a2 b2 ha2 hb2 hh).fr hf hp
    · rw [sA_uA, if_pos ⟨rfl, rfl⟩]
      rfl
