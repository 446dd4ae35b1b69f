/-! What the class holds is what the reference holds. -/
/-- RULES that stand, of the reference -/
def ruT (S : gS) (cN mN : Nat → Nat) (Lf : Nat → List mT) (a b : Nat) : Prop := (∃ n, sA S 13 (8 * a + b) = nI n ∧ n ≤ 700 ∧ teF (pcs (fun q => sA S 14 (700 * (8 * a + b) + q)) n) = .inr (Lf (8 * a + b))) ∧ mnF (mosB (fC S cN a) (fC S cN b) (eK S mN a) (eK S mN b) [] (Lf (8 * a + b))) 701 = 701
/-- the reference -/
def rfW (S : gS) (cN mN ty : Nat → Nat) (Lf : Nat → List mT) (bd : Nat) (V : vL) (z : Nat) (dr : Bool) : Prop := refT S cN mN ty ∧ uqS S cN mN ∧ hzOK S ∧ (∀ a b, a < 8 → b < 8 → hz S (8 * a + b) = true → ruT S cN mN Lf a b) ∧ (bd < 8 ∧ sI S 6 = nI bd ∧ sA S 7 0 = nI V.length ∧ V.length ≤ 60 ∧ (∀ j v, V[j]? = some v → wkV S bd v.1 (mN (6 * bd + v.1)) j v.2) ∧ vlB S cN mN ty bd V) ∧ sI S 16 = nI z ∧ z ≤ 700 ∧ sI S 17 = bI dr
/-- what was REFUSED and LOST -/
def rfE (SC S : gS) : Prop := sI SC 7 = sI S 25 ∧ sI SC 8 = sI S 26 ∧ ∃ w : Bool, sI S 24 = bI w ∧ (w = true → (sI SC 1 = sI S 18 ∧ sI SC 2 = sI S 19 ∧ sI SC 3 = sI S 20 ∧ sI SC 4 = sI S 21) ∧ sJ SC 5 = sJ S 22 ∧ sJ SC 6 = sJ S 23) ∧ (w = false → (sI SC 1 = -nI 1 ∧ sI SC 2 = -nI 1 ∧ sI SC 3 = -nI 1 ∧ sI SC 4 = -nI 1) ∧ sJ SC 5 = 0 ∧ sJ SC 6 = 0)
/-- the parser -/
def prW1 (G : gG) (h : xH) (SX : gS) (Q P κ0 : Nat) (SQ SP SK0 : gS) : Prop := sR SX 3 = .ref Q ∧ hB G 0 4 h Q SQ ∧ hB G 0 0 h P SP ∧ hB G 0 1 h κ0 SK0 ∧ kOK SK0 0 ∧ sR SQ 0 = .ref P ∧ sR SQ 1 = .ref κ0
/-- the carrier -/
def caW (G : gG) (h : xH) (Kc R : Nat) (SC T : gS) : Prop := hB G 0 6 h Kc SC ∧ hB G 0 5 h R T ∧ sR SC 0 = .ref R
/-- THE TEXT, how many RULES, what is unknown -/
def txW (SX S : gS) (z : Nat) (dr : Bool) : Prop := sI SX 8 = nI z ∧ txE (sA SX 2) (sA S 15) z ∧ sI SX 9 = nI (cntF (hz S) 64 0) ∧ sI SX 10 = bI dr
/-- room -/
def rmW (h : xH) (z mt E1 E2 : Nat) : Prop := h.2.2.1 + 3 * z ≤ E1 + 3 * mt ∧ h.2.2.2 + 22 * z ≤ E2 + 78 * mt ∧ mt ≤ 180
/-- the class -/
def clW (G : gG) (h : xH) (X : Nat) (S : gS) (cN mN : Nat → Nat) (Lf : Nat → List mT) (bd : Nat) (V : vL) (z : Nat) (dr : Bool) (E1 E2 : Nat) : Prop := ∃ SX Kc R Q P κ0 SC T SQ SP SK0 β SB κ SK mt, wyB G h X Kc SX β SB κ SK S cN mN Lf ∧ st3 G h SX κ cN mN bd V mt ∧ caW G h Kc R SC T ∧ prW1 G h SX Q P κ0 SQ SP SK0 ∧ txW SX S z dr ∧ rfE SC S ∧ rmW h z mt E1 E2
theorem st3.keep {G G' : gG} {h h' : xH} {SX SX' : gS} {κ : Nat → Nat → Nat} {cN mN : Nat → Nat} {bd : Nat} {V : vL} {mt : Nat} (H : st3 G h SX κ cN mN bd V mt) (hG : ∀ q, q < h.2.2.1 → G' q = G q) (hk : ∀ q, q < h.2.2.1 → (1 < (G q).1 ∧ (G q).1 < 5) → h'.1 q = h.1 q) (hn : h.2.2.1 ≤ h'.2.2.1) (e5 : sR SX' 5 = sR SX 5) (e6 : sR SX' 6 = sR SX 6) (e7 : sR SX' 7 = sR SX 7) : st3 G' h' SX' κ cN mN bd V mt := by
  obtain ⟨σ0, σ1, σ2, g0, g1, g2, SS0, SS1, SS2, n1, n2, m0, m1, m2, ν0, ν1, ν2, SV0, SV1, SV2, ⟨r5, r6, r7⟩, ⟨q0, q1, q2, q01, q02, q12⟩, c0, c1, c2, h1, hV, hmt⟩ := H
  exact ⟨σ0, σ1, σ2, g0, g1, g2, SS0, SS1, SS2, n1, n2, m0, m1, m2, ν0, ν1, ν2, SV0, SV1, SV2, ⟨e5.trans r5, e6.trans r6, e7.trans r7⟩, ⟨q0, q1, q2, q01, q02, q12⟩, c0.keep hG (fun q hq e => hk q hq (by rw [e]; exact q0)) hn, c1.keep hG (fun q hq e => hk q hq (by rw [e]; exact q1)) hn, c2.keep hG (fun q hq e => hk q hq (by rw [e]; exact q2)) hn, h1, hV, hmt⟩
theorem prW1.keep {G G' : gG} {h h' : xH} {SX SX' : gS} {Q P κ0 : Nat} {SQ SP SK0 : gS} (H : prW1 G h SX Q P κ0 SQ SP SK0) (hG : ∀ q, q < h.2.2.1 → G' q = G q) (hk : ∀ q, q < h.2.2.1 → G q = (0, Q) ∨ G q = (0, P) ∨ G q = (0, κ0) → h'.1 q = h.1 q) (hn : h.2.2.1 ≤ h'.2.2.1) (e3 : sR SX' 3 = sR SX 3) : prW1 G' h' SX' Q P κ0 SQ SP SK0 := by
  obtain ⟨a1, a2, a3, a4, a5, a6, a7⟩ := H
  exact ⟨e3.trans a1, a2.keep (by decide) hG (fun q hq e => hk q hq (Or.inl e)) hn, a3.keep (by decide) hG (fun q hq e => hk q hq (Or.inr (Or.inl e))) hn, a4.keep (by decide) hG (fun q hq e => hk q hq (Or.inr (Or.inr e))) hn, a5, a6, a7⟩
theorem caW.keep {G G' : gG} {h h' : xH} {Kc R : Nat} {SC T : gS} (H : caW G h Kc R SC T) (hG : ∀ q, q < h.2.2.1 → G' q = G q) (hk : ∀ q, q < h.2.2.1 → G q = (0, Kc) ∨ G q = (0, R) → h'.1 q = h.1 q) (hn : h.2.2.1 ≤ h'.2.2.1) : caW G' h' Kc R SC T :=
  ⟨H.1.keep (by decide) hG (fun q hq e => hk q hq (Or.inl e)) hn, H.2.1.keep (by decide) hG (fun q hq e => hk q hq (Or.inr e)) hn, H.2.2⟩
/-- what lies beside the class leaves it -/
theorem clW.fr {G : gG} {h : xH} {X : Nat} {S : gS} {cN mN : Nat → Nat} {Lf : Nat → List mT} {bd : Nat} {V : vL} {z : Nat} {dr : Bool} {E1 E2 M : Nat} (H : clW G h X S cN mN Lf bd V z dr E1 E2) (ho : own G 6 11 M) (S2 : gS) : clW G (oh 11 h M S2) X S cN mN Lf bd V z dr E1 E2 := by
  obtain ⟨SX, Kc, R, Q, P, κ0, SC, T, SQ, SP, SK0, β, SB, κ, SK, mt, W, h3, hC, hP, hT, hE, hR⟩ := H
  have k : ∀ q, (G q).1 ≠ 6 → (oh 11 h M S2).1 q = h.1 q := fun q hq => oh_same (own_out ho (fun e => hq (by rw [e])))
  have k0 : ∀ q a, G q = (0, a) → (oh 11 h M S2).1 q = h.1 q := fun q a e => k q (by rw [e]; exact (by decide : (0 : Nat) ≠ 6))
  exact ⟨SX, Kc, R, Q, P, κ0, SC, T, SQ, SP, SK0, β, SB, κ, SK, mt, W.keep (fun _ _ => rfl) (fun q _ hc => by
    rcases hc with e | e | e
    · exact k q (by omega)
    · exact k q (by omega)
    · exact k0 q _ e) (Nat.le_refl _), h3.keep (fun _ _ => rfl) (fun q _ hc => k q (by omega)) (Nat.le_refl _) rfl rfl rfl, hC.keep (fun _ _ => rfl) (fun q _ hc => hc.elim (fun e => k0 q _ e) (fun e => k0 q _ e)) (Nat.le_refl _), hP.keep (fun _ _ => rfl) (fun q _ hc => hc.elim (fun e => k0 q _ e) (fun hc => hc.elim (fun e => k0 q _ e) (fun e => k0 q _ e))) (Nat.le_refl _) rfl, hT, hE, hR⟩
theorem clW.le {G : gG} {h : xH} {X : Nat} {S : gS} {cN mN : Nat → Nat} {Lf : Nat → List mT} {bd : Nat} {V : vL} {z : Nat} {dr : Bool} {E1 E2 F1 F2 : Nat} (H : clW G h X S cN mN Lf bd V z dr E1 E2) (h1 : E1 ≤ F1) (h2 : E2 ≤ F2) : clW G h X S cN mN Lf bd V z dr F1 F2 := by
  obtain ⟨SX, Kc, R, Q, P, κ0, SC, T, SQ, SP, SK0, β, SB, κ, SK, mt, W, h3, hC, hP, hT, hE, hR⟩ := H
  exact ⟨SX, Kc, R, Q, P, κ0, SC, T, SQ, SP, SK0, β, SB, κ, SK, mt, W, h3, hC, hP, hT, hE, by
    unfold rmW at hR ⊢
    omega⟩
/-- both, and the script -/
def INV (X M b E1 E2 : Nat) (h : xH) : Prop := ∃ G S cN mN ty Lf bd V z dr, clW G h X S cN mN Lf bd V z dr E1 E2 ∧ rfW S cN mN ty Lf bd V z dr ∧ hB G 6 11 h M S ∧ G b = (7, b) ∧ b < h.2.2.1
/-- a call of both: the same answer, and they hold the same again -/
def CALL (X M b E1 E2 : Nat) (h : xH) (jc jr : Nat) (as : List Value) : Prop := ∃ v h' h2, xm 80 jc (.ref X :: as) h = some (some v, h') ∧ xm 80 jr (.ref M :: as) h' = some (some v, h2) ∧ INV X M b (E1 + 200) (E2 + 800) h2 ∧ h2.1 b = h.1 b ∧ h'.1 b = h.1 b ∧ ∃ S, isB 11 h' M S
/-- a call that leaves all as it is -/
theorem call_0 {X M b E1 E2 jc jr : Nat} {h : xH} {as : List Value} {v : Value} (H : INV X M b E1 E2 h) (h1 : xm 80 jc (.ref X :: as) h = some (some v, h)) (h2 : xm 80 jr (.ref M :: as) h = some (some v, h)) : CALL X M b E1 E2 h jc jr as := by
  obtain ⟨G, S, cN, mN, ty, Lf, bd, V, z, dr, C, r, B, s1, s2⟩ := H
  exact ⟨v, h, h, h1, h2, ⟨G, S, cN, mN, ty, Lf, bd, V, z, dr, C.le (by omega) (by omega), r, B, s1, s2⟩, rfl, rfl, S, B.1⟩
/-- a call that changes the class to h', G', and the reference to S' -/
theorem call_1 {X M b E1 E2 jc jr : Nat} {h h' : xH} {as : List Value} {v : Value} {G G' : gG} {S S' : gS} {cN mN ty : Nat → Nat} {Lf : Nat → List mT} {bd : Nat} {V : vL} {z : Nat} {dr : Bool} (HB : hB G 6 11 h M S) (hs1 : G b = (7, b)) (hs2 : b < h.2.2.1) (h1 : xm 80 jc (.ref X :: as) h = some (some v, h')) (h2 : xm 80 jr (.ref M :: as) (oh 11 h' M S) = some (some v, oh 11 h' M S')) (hG : ∀ q, q < h.2.2.1 → G' q = G q) (hk : ∀ q, q < h.2.2.1 → 6 ≤ (G q).1 → h'.1 q = h.1 q) (hn : h.2.2.1 ≤ h'.2.2.1) (C : clW G' h' X S' cN mN Lf bd V z dr (E1 + 200) (E2 + 800)) (r : rfW S' cN mN ty Lf bd V z dr) : CALL X M b E1 E2 h jc jr as := by
  have HB' : hB G' 6 11 h' M S := HB.keep (by decide) hG (fun q hq e => hk q hq (by rw [e]; exact Nat.le_refl _)) hn
  have e : oh 11 h' M S = h' := HB'.1
  rw [e] at h2
  have hb : h'.1 b = h.1 b := hk b hs2 (by rw [hs1]; exact (by decide : 6 ≤ 7))
  refine ⟨v, h', _, h1, h2, ⟨G', S', cN, mN, ty, Lf, bd, V, z, dr, C.fr HB'.2.1 S', r, HB'.set, (hG b hs2).trans hs1, Nat.lt_of_lt_of_le hs2 hn⟩, ?_, hb, S, HB'.1⟩
  rw [oh_same (own_out HB'.2.1 (by rw [hG b hs2, hs1]; exact fun q => by cases (Prod.mk.inj q).1))]
  exact hb
