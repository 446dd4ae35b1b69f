/-! Calls of both: rules, all of it. -/
theorem hB.below {G : gG} {g ci : Nat} {h : xH} {a : Nat} {S : gS} (H : hB G g ci h a S) (hs : 0 < o_sz ci) : below ci a h.2.2.1 := fun q hq => by
  have := ofp_lt hs hq
  have := H.2.2
  omega
/-- the class behind read, but for RULES that are new -/
theorem rl_cl {G G' : gG} {h0 h' : xH} {X Kc R Q P κ0 n : Nat} {SX SC T SQ SP SK0 S1 SP1 : gS} {β : Nat → Nat} {SB : Nat → gS} {κ : Nat → Nat → Nat} {SK : Nat → Nat → gS} {S : gS} {cN mN : Nat → Nat} {Lf : Nat → List mT} {bd mt : Nat} {V : vL} (W : wyB G h0 X Kc SX β SB κ SK S cN mN Lf) (h3 : st3 G h0 SX κ cN mN bd V mt) (hC : caW G h0 Kc R SC T) (hP : prW1 G h0 SX Q P κ0 SQ SP SK0) (hF : rdF P n SQ S1 h0 h') (hP1 : isB 0 h' P SP1) (hG : ∀ q, q < h0.2.2.1 → G' q = G q) : wyB G' (oh 4 h' Q S1) X Kc SX β SB κ SK S cN mN Lf ∧ st3 G' (oh 4 h' Q S1) SX κ cN mN bd V mt ∧ caW G' (oh 4 h' Q S1) Kc R SC T ∧ prW1 G' (oh 4 h' Q S1) SX Q P κ0 S1 SP1 SK0 ∧ (∀ q, q < h0.2.2.1 → (G q).1 ≠ 0 → (oh 4 h' Q S1).1 q = h0.1 q) := by
  obtain ⟨p1, p2, p3, p4, p5, p6, p7⟩ := id hP
  obtain ⟨f1, f2, f3, f4, f5, f6, f7⟩ := hF
  have k : ∀ q, q < h0.2.2.1 → G q ≠ (0, Q) → G q ≠ (0, P) → (oh 4 h' Q S1).1 q = h0.1 q := fun q hq c1 c2 => by
    rw [oh_same (own_out p2.2.1 c1)]
    exact f3 q hq (own_out p3.2.1 c2)
  have k1 : ∀ q, q < h0.2.2.1 → (G q).1 ≠ 0 → (oh 4 h' Q S1).1 q = h0.1 q := fun q hq hc => k q hq (fun e => hc (by rw [e])) (fun e => hc (by rw [e]))
  have k0 : ∀ q a, q < h0.2.2.1 → G q = (0, a) → a ≠ Q → a ≠ P → (oh 4 h' Q S1).1 q = h0.1 q := fun q a hq e c1 c2 => k q hq (fun z => c1 (Prod.mk.inj (e.symm.trans z)).2) (fun z => c2 (Prod.mk.inj (e.symm.trans z)).2)
  have hn : h0.2.2.1 ≤ (oh 4 h' Q S1).2.2.1 := f5
  have QP : Q ≠ P := p2.ne p3 (by decide)
  refine ⟨W.keep hG (fun q hq hc => ?_) hn, h3.keep hG (fun q hq hc => k1 q hq (by omega)) hn rfl rfl rfl, hC.keep hG (fun q hq hc => hc.elim (fun e => k0 q _ hq e (hC.1.ne p2 (by decide)) (hC.1.ne p3 (by decide))) (fun e => k0 q _ hq e (hC.2.1.ne p2 (by decide)) (hC.2.1.ne p3 (by decide)))) hn, ⟨p1, ⟨isB_oh _ _ _ _, fun q hq => (hG q (p2.below (by decide) q hq)).trans (p2.2.1 q hq), Nat.le_trans p2.2.2 hn⟩, ⟨hP1.frame (own_dj p2.2.1 p3.2.1 (fun z => QP z.2)), fun q hq => (hG q (p3.below (by decide) q hq)).trans (p3.2.1 q hq), Nat.le_trans p3.2.2 hn⟩, p4.keep (by decide) hG (fun q hq e => k0 q _ hq e (p4.ne p2 (by decide)) (p4.ne p3 (by decide))) hn, p5, f1.trans p6, f2.trans p7⟩, k1⟩
  rcases hc with e | e | e
  · exact k1 q hq (by omega)
  · exact k1 q hq (by omega)
  · exact k0 q _ hq e (W.1.ne p2 (by decide)) (W.1.ne p3 (by decide))
theorem kRu_pRl : kRu pRl := ⟨⟨rfl, rfl, rfl, rfl, rfl, rfl⟩, rfl, rfl, rfl⟩
theorem call_rules {X M b E1 E2 : Nat} {h : xH} (H : INV X M b E1 E2 h) (f t : Int32) : CALL X M b E1 E2 h 39 146 [.int f, .int t] := by
  obtain ⟨G, S, cN, mN, ty, Lf, bd, V, z, dr, C, r, B, s1, s2⟩ := id H
  obtain ⟨SX, Kc, R, Q, P, κ0, SC, T, SQ, SP, SK0, β, SB, κ, SK, mt, W, h3, hC, hP, hT, hE, hR⟩ := C
  obtain ⟨rT, rU, rH, rR, ⟨b8, b6, b7, b60, bV, bW⟩, z1, z2, d1⟩ := id r
  obtain ⟨t1, t2, t3, t4⟩ := hT
  have hβ : ∀ b, b < 8 → sQ SX 0 b = .ref (β b) := fun b hb => (W.2.2.1.1 b hb).1
  -- THE TEXT is used up
  obtain ⟨W0, g3, gC, gP, k0⟩ := cl_X (SX' := uI SX 8 (nI 0)) (S' := S) (Lf' := Lf) W h3 hC hP (fun k _ _ => rfl) (W.2.2.1.S (P := pRl) fr.rfl kRu_pRl.1 rfl) (W.2.2.2.S (P := pRl) fr.rfl kRu_pRl rfl)
  by_cases c : inR f 0 7 = false ∨ inR t 0 7 = false ∨ f = t
  · have e1 : xm 80 39 [.ref X, .int f, .int t] h = _ := c_rules_bad 78 W.1.1 t1 hβ c
    have e3 : xm 80 146 [.ref M, .int f, .int t] (oh 11 (oh 8 h X (uI SX 8 (nI 0))) M S) = _ := m_rules_bad 78 _ M S f t c
    have hf : fr pRl S (uI S 16 (nI 0)) := fr.rfl.uI (by decide)
    refine call_1 (G' := G) (S' := uI S 16 (nI 0)) (ty := ty) (dr := dr) (z := 0) B s1 s2 e1 e3 (fun _ _ => rfl) (fun q _ hq => k0 q (by omega)) (Nat.le_refl _) ⟨uI SX 8 (nI 0), Kc, R, Q, P, κ0, SC, T, SQ, SP, SK0, β, SB, κ, SK, mt, ⟨W0.1, W0.2.1, W0.2.2.1.S hf kRu_pRl.1 rfl, W0.2.2.2.S hf kRu_pRl rfl⟩, g3, gC, gP, ⟨rfl, fun i hi => by omega, ?_, t4⟩, hE.fr hf (fun k h1 h2 => by
      unfold pRl
      simp only [Bool.or_eq_false_iff, Bool.and_eq_false_iff, decide_eq_false_iff_not]
      omega), ?_⟩ (rf_same r hf kRu_pRl rfl rfl rfl rfl rfl rfl rfl (Nat.zero_le _) (((hf 17 rfl).1).trans d1))
    · rw [hz_fr hf rfl]
      exact t3
    · unfold rmW at hR ⊢
      exact ⟨Nat.le_trans (show h.2.2.1 + 3 * 0 ≤ h.2.2.1 + 3 * z by omega) (by omega), Nat.le_trans (show h.2.2.2 + 22 * 0 ≤ h.2.2.2 + 22 * z by omega) (by omega), hR.2.2⟩
  · have c1 : inR f 0 7 = true := by
      cases hq : inR f 0 7 with
      | true => rfl
      | false => exact absurd (Or.inl hq) c
    have c2 : inR t 0 7 = true := by
      cases hq : inR t 0 7 with
      | true => rfl
      | false => exact absurd (Or.inr (Or.inl hq)) c
    obtain ⟨a, ha, rfl⟩ := inR_of (hi := 7) (by omega) c1
    obtain ⟨u, hu, rfl⟩ := inR_of (hi := 7) (by omega) c2
    have hne : a ≠ u := fun e => c (Or.inr (Or.inr (by rw [e])))
    have ha8 : a < 8 := by omega
    have hu8 : u < 8 := by omega
    have h6a := (rT.1.1 a ha8).2
    have h6u := (rT.1.1 u hu8).2
    have m8a : ∀ c, c < 6 → mN (6 * a + c) ≤ 8 := fun c hc => (rT.1.2 a c ha8 hc).2
    have m8u : ∀ c, c < 6 → mN (6 * u + c) ≤ 8 := fun c hc => (rT.1.2 u c hu8 hc).2
    generalize hh0 : oh 8 h X (uI SX 8 (nI 0)) = h0 at *
    have n0 : h0.2.2.1 = h.2.2.1 := by rw [← hh0]; rfl
    have n0s : h0.2.2.2 = h.2.2.2 := by rw [← hh0]; rfl
    obtain ⟨p1, p2, p3, p4, p5, p6, p7⟩ := id gP
    obtain ⟨B1, B2, B3, B4⟩ := id W0.2.2.1
    -- the text is read
    have dq : ∀ {ci x : Nat} {g : Nat} {Sx : gS}, hB G g ci h0 x Sx → 4 ≠ ci → dj 4 Q ci x := fun Hx hc => own_dj p2.2.1 Hx.2.1 (fun z => p2.ne Hx hc z.2)
    have dp : ∀ {ci x : Nat} {g : Nat} {Sx : gS}, hB G g ci h0 x Sx → 0 ≠ ci → dj 0 P ci x := fun Hx hc => own_dj p3.2.1 Hx.2.1 (fun z => p3.ne Hx hc z.2)
    have bB' : ∀ d, d < 8 → bB Q (β d) (SB d) (cN d) (κ d) (SK d) h0 := fun d hd => ⟨(B1 d hd).2.1.1, W0.2.2.1.bOK rT.1 hd, dq (B1 d hd).2.1 (by decide), fun i hi => dq (B2 d i hd hi).2.1 (by decide)⟩
    have rd := c_read 11 (Q := Q) (X := X) (P := P) (β1 := β a) (β2 := β u) (κ0 := κ0) (n := z) (SX := uI SX 8 (nI 0)) (SP := SP) (SB1 := SB a) (SB2 := SB u) (SK0 := SK0) (S := SQ) (n1 := cN a) (n2 := cN u) (κ1 := κ a) (κ2 := κ u) (SK1 := SK a) (SK2 := SK u) (m1 := fun e => mN (6 * a + e)) (m2 := fun e => mN (6 * u + e)) (tr := sA S 15) (h := h0) W0.1.1 z2 t2 p6 p7 ⟨p3.1, bB' a ha8, bB' u hu8, p4.1, p3.below (by decide), (B1 a ha8).2.1.below (by decide), (B1 u hu8).2.1.below (by decide), p4.below (by decide), fun i hi => (B2 a i ha8 hi).2.1.below (by decide), fun i hi => (B2 u i hu8 hi).2.1.below (by decide), p2.below (by decide), dq p4 (by decide), p5⟩ (fun e he => (B2 a e ha8 he).2.2.1) (fun e he => (B2 u e hu8 he).2.2.1) (dq W0.1 (by decide)) (W0.1.below (by decide)) (dp W0.1 (by decide)) (dq p3 (by decide)) (dp (B1 a ha8).2.1 (by decide)) (dp (B1 u hu8).2.1 (by decide)) (dp p4 (by decide)) (fun i hi => dp (B2 a i ha8 hi).2.1 (by decide)) (fun i hi => dp (B2 u i hu8 hi).2.1 (by decide)) (by
      have := p2.2.2
      have : o_sz 4 = 11 := rfl
      omega)
    rw [show (11 : Nat) + 68 = 79 from rfl] at rd
    have ep : pcs (txT S z) z = pcs (sA S 15) z := pcs_congr (fun q hq => by
      have := fillF_in (sA S 28) (sA S 15) (o := 0) hq
      rw [Nat.zero_add] at this
      exact this)
    obtain ⟨a0, ha0⟩ := nI_sur (sI S 32)
    have mr := fun hx => m_rules 72 hx M (S := S) (cN := cN) (mN := mN) (f := a) (t := u) (n := z) (a := a0) ⟨rT.1, fun i _ => rT.2.1 i⟩ ha8 hu8 hne z1 z2 ha0
    rw [ep] at mr
    have eqh : oh 4 h0 Q SQ = h0 := p2.1
    have i4 : ∀ {α : Type} (f : Option α), xis (oh 8 h X (uI SX 8 (nI 0))) Q 4 f = f := fun f => by
      rw [hh0]
      exact h_is p2.1 f
    -- WRONG
    have wr : ∀ pl, rdZ 79 Q X P (β a) (β u) z pl SQ h0 → (∀ hx, ∃ S', xm 80 146 [.ref M, .int (nI a), .int (nI u)] (oh 11 hx M S) = some (some (.int (-nI 10 - nI pl)), oh 11 hx M S') ∧ fr pRl S S' ∧ sI S' 16 = nI 0) → CALL X M b E1 E2 h 39 146 [.int (nI a), .int (nI u)] := by
      intro pl hz hx
      obtain ⟨S1, h', SP1, y1, y2, y3, y4⟩ := hz
      rw [eqh, ← hh0] at y1
      obtain ⟨S', x1, x2, x3⟩ := hx (oh 4 h' Q S1)
      obtain ⟨l1, l2, l3, l4, l5⟩ := rl_cl (G' := gN G 8 h0.2.2.1) W0 g3 gC gP y2 y3 (fun q hq => by
        unfold gN
        rw [if_neg (by omega)])
      have e1 : xm 80 39 [.ref X, .int (nI a), .int (nI u)] h = some (some (.int (-nI 10 - nI pl)), oh 4 h' Q S1) := by
        rw [show (80 : Nat) = 78 + 2 from rfl, c_rules_pre 78 W.1.1 t1 hP.1 hβ ha8 hu8 hne i4 y1 (Or.inl rfl)]
        exact c_rules_x 78 l1.1.1 p1 (fun f => h_is (isB_oh _ _ _ _) f) (y4 77)
      obtain ⟨v1, v2, v3, v4, v5, v6, v7⟩ := y2
      refine call_1 (G' := gN G 8 h0.2.2.1) (S' := S') (ty := ty) (dr := dr) (z := 0) B s1 s2 e1 x1 (fun q hq => by
        unfold gN
        rw [if_neg (by omega)]) (fun q hq h6 => ?_) (by
        show h.2.2.1 ≤ h'.2.2.1
        omega) ⟨uI SX 8 (nI 0), Kc, R, Q, P, κ0, SC, T, S1, SP1, SK0, β, SB, κ, SK, mt, ⟨l1.1, l1.2.1, l1.2.2.1.S x2 kRu_pRl.1 rfl, l1.2.2.2.S x2 kRu_pRl rfl⟩, l2, l3, l4, ⟨rfl, fun i hi => by omega, ?_, t4⟩, hE.fr x2 (fun k h1 h2 => by
        unfold pRl
        simp only [Bool.or_eq_false_iff, Bool.and_eq_false_iff, decide_eq_false_iff_not]
        omega), ?_⟩ (rf_same r x2 kRu_pRl rfl rfl rfl rfl rfl rfl x3 (Nat.zero_le _) (((x2 17 rfl).1).trans d1))
      · rw [l5 q (by omega) (by omega)]
        exact k0 q (by omega)
      · rw [hz_fr x2 rfl]
        exact t3
      · unfold rmW at hR ⊢
        exact ⟨by
          show h'.2.2.1 + 3 * 0 ≤ _
          omega, by
          show h'.2.2.2 + 22 * 0 ≤ _
          omega, hR.2.2⟩
    cases hte : teF (pcs (sA S 15) z) with
    | inl q =>
      rw [hte] at rd
      exact wr _ rd (fun hx => by
        have := mr hx
        rw [hte] at this
        obtain ⟨S', x1, x2, x3⟩ := this
        rw [ep] at x1
        exact ⟨S', x1, x2, x3⟩)
    | inr L =>
      rw [hte] at rd
      obtain ⟨g1, g2, g4⟩ := cls_txt (S := S) (SK0 := SK0) (cN := cN) (mN := mN) (ty := ty) (a := a) (b := u) (SKa := SK a) (SKb := SK u) z2 hte h6a h6u m8a m8u (fun e he => (B2 a e ha8 he).2.2.2) (fun e he => (B2 u e hu8 he).2.2.2)
      obtain ⟨rb, rg⟩ := rd
      have rb : mnF (mosB (fC S cN a) (fC S cN u) (eK S mN a) (eK S mN u) [] L) 701 ≤ 700 → rdZ 79 Q X P (β a) (β u) z (mnF (mosB (fC S cN a) (fC S cN u) (eK S mN a) (eK S mN u) [] L) 701) SQ h0 := by
        rw [← g1]
        exact rb
      have rg : ¬ mnF (mosB (fC S cN a) (fC S cN u) (eK S mN a) (eK S mN u) [] L) 701 ≤ 700 → ∃ S' h' SP' ρ, xm 79 40 [.ref Q, .ref (X + 3), .int (nI z), .ref (β a), .ref (β u)] (oh 4 h0 Q SQ) = some (some (.ref ρ), oh 4 h' Q S') ∧ rdF P z SQ S' h0 h' ∧ isB 0 h' P SP' ∧ rsB h' h0.2.2.1 h'.2.2.1 ρ (β u) (pmK S cN mN a u L) (cdK S cN mN a L) L.length := by
        rw [← g1, ← g2, ← g4]
        exact rg
      have zle := mnF_le (mosB (fC S cN a) (fC S cN u) (eK S mN a) (eK S mN u) [] L) 701
      by_cases cz : mnF (mosB (fC S cN a) (fC S cN u) (eK S mN a) (eK S mN u) [] L) 701 ≤ 700
      · refine wr _ (rb cz) (fun hx => ?_)
        have := mr hx
        rw [hte] at this
        obtain ⟨S', x1, x2, x3⟩ := this
        rw [if_neg (by omega)] at x3
        exact ⟨S', x3, x1, x2⟩
      · have cz1 : mnF (mosB (fC S cN a) (fC S cN u) (eK S mN a) (eK S mN u) [] L) 701 = 701 := by omega
        obtain ⟨S1, h', SP1, ρ, y1, y2, y3, y4⟩ := rg cz
        rw [eqh, ← hh0] at y1
        obtain ⟨ρo, o1, o2⟩ := rho W.2.2.2
        have lo : ∀ q, q < h0.2.2.1 → gN G 5 h0.2.2.1 q = G q := fun q hq => by
          unfold gN
          rw [if_neg (by omega)]
        obtain ⟨l1, l2, l3, l4, l5⟩ := rl_cl (G' := gN G 5 h0.2.2.1) W0 g3 gC gP y2 y3 lo
        obtain ⟨v1, v2, v3, v4, v5, v6, v7⟩ := id y2
        obtain ⟨SR, Wv, C1, C2, wv, fv1, fv2, ra1, ra2, ra3, ra4, ra5, ra6, ra7, ra8, ra9, ra10, ra11, ra12, rb1, rb2, rb3, rb4, rb5, rb6, rb7, rb8⟩ := id y4
        have hr64 : 8 * a + u < 64 := by omega
        have bQ := p2.below (by decide : 0 < o_sz 4)
        have bX := W0.1.below (by decide : 0 < o_sz 8)
        have R2 : isB 10 (oh 4 h' Q S1) ρ SR := ra1.frame (bQ.dj rb1)
        have eg := c_rules_g 78 (h2 := oh 4 h' Q S1) (X := X) (a := a) (c := u) (n := z) (ρ := ρ) (mc := L.length) (rc := cntF (hz S) 64 0) (SX := uI SX 8 (nI 0)) (SR := SR) (l4 := .ref (β a)) (l5 := .ref (β u)) (o := ρo (8 * a + u)) l1.1.1 R2 (bX.dj rb1) ra6 ha8 hu8 (o1 _ hr64) t3
        generalize hSX1 : (if ρo (8 * a + u) = none then uQ (uI (uI SX 8 (nI 0)) 9 (nI (cntF (hz S) 64 0 + 1))) 1 (8 * a + u) (.ref ρ) else uQ (uI SX 8 (nI 0)) 1 (8 * a + u) (.ref ρ)) = SX1 at eg
        have e1 : xm 80 39 [.ref X, .int (nI a), .int (nI u)] h = some (some (.int (nI L.length)), oh 8 (oh 4 h' Q S1) X SX1) := by
          rw [show (80 : Nat) = 78 + 2 from rfl, c_rules_pre 78 W.1.1 t1 hP.1 hβ ha8 hu8 hne i4 y1 (Or.inr ⟨ρ, rfl⟩)]
          exact eg
        have e3 := mr (oh 8 (oh 4 h' Q S1) X SX1)
        rw [hte] at e3
        obtain ⟨S', x1, x2, x3⟩ := e3
        rw [if_pos cz1] at x3
        generalize hSF : rA (uA (uA S' 12 (8 * a + u) (nI 1)) 13 (8 * a + u) (nI z)) 14 (fillF (sA S 14) (txT S z) (700 * (8 * a + u)) z) = SF at x3
        -- the root
        have xR : ∀ k, sR SX1 k = sR SX k := fun k => by
          rw [← hSX1]
          split <;> rfl
        have x0 : sQ SX1 0 = sQ SX 0 := by
          rw [← hSX1]
          split
          · funext j
            rw [sQ_uQ, if_neg (fun z => by cases z.1)]
            rfl
          · funext j
            rw [sQ_uQ, if_neg (fun z => by cases z.1)]
            rfl
        have xq : ∀ j, sQ SX1 1 j = if j = 8 * a + u then .ref ρ else sQ SX 1 j := fun j => by
          rw [← hSX1]
          split
          · rw [sQ_uQ]
            by_cases e : j = 8 * a + u
            · rw [if_pos ⟨rfl, e⟩, if_pos e]
            · rw [if_neg (fun z => e z.2), if_neg e]
              rfl
          · rw [sQ_uQ]
            by_cases e : j = 8 * a + u
            · rw [if_pos ⟨rfl, e⟩, if_pos e]
            · rw [if_neg (fun z => e z.2), if_neg e]
              rfl
        have xI : sI SX1 8 = nI 0 ∧ sI SX1 10 = sI SX 10 ∧ sI SX1 9 = nI (if hz S (8 * a + u) = true then cntF (hz S) 64 0 else cntF (hz S) 64 0 + 1) := by
          have ho := o2 _ hr64
          rw [← hSX1]
          cases hq : ρo (8 * a + u) with
          | none =>
            rw [hq] at ho
            have ho : false = hz S (8 * a + u) := ho
            rw [if_pos rfl, ← ho, if_neg (by decide)]
            exact ⟨rfl, rfl, rfl⟩
          | some w =>
            rw [hq] at ho
            have ho : true = hz S (8 * a + u) := ho
            rw [if_neg (fun z => by cases z), ← ho, if_pos rfl]
            exact ⟨rfl, rfl, t3⟩
        -- the reference
        have fF : fr (fun k => pRl k || decide (k = 12) || decide (k = 13) || decide (k = 14)) S SF := by
          rw [← hSF]
          exact (((x1.mono (fun k hk => by
            simp only [Bool.or_eq_false_iff] at hk
            exact hk.1.1.1)).uA (by decide)).uA (by decide)).rA (by decide)
        have kk : k15 (fun k => pRl k || decide (k = 12) || decide (k = 13) || decide (k = 14)) := ⟨rfl, rfl, rfl, rfl, rfl, rfl⟩
        have s12 : ∀ j, sA SF 12 j = if j = 8 * a + u then nI 1 else sA S 12 j := fun j => by
          rw [← hSF, sA_rA, if_neg (by decide), sA_uA_ne _ _ _ (by decide), sA_uA]
          by_cases e : j = 8 * a + u
          · rw [if_pos ⟨rfl, e⟩, if_pos e]
          · rw [if_neg (fun z => e z.2), if_neg e, (x1 12 rfl).2.2.1]
        have s13 : ∀ j, sA SF 13 j = if j = 8 * a + u then nI z else sA S 13 j := fun j => by
          rw [← hSF, sA_rA, if_neg (by decide), sA_uA]
          by_cases e : j = 8 * a + u
          · rw [if_pos ⟨rfl, e⟩, if_pos e]
          · rw [if_neg (fun z => e z.2), if_neg e, sA_uA_ne _ _ _ (by decide), (x1 13 rfl).2.2.1]
        have s14 : ∀ j, sA SF 14 j = fillF (sA S 14) (txT S z) (700 * (8 * a + u)) z j := fun j => by
          rw [← hSF, sA_rA, if_pos rfl]
        have s16 : sI SF 16 = nI 0 := by
          rw [← hSF]
          exact x2
        have hz1 : hz SF (8 * a + u) = true := by
          unfold hz
          rw [s12, if_pos rfl]
          decide
        have hz2 : ∀ j, j ≠ 8 * a + u → hz SF j = hz S j := fun j hj => by
          unfold hz
          rw [s12, if_neg hj]
        have hcn : cntF (hz SF) 64 0 = if hz S (8 * a + u) = true then cntF (hz S) 64 0 else cntF (hz S) 64 0 + 1 := by
          cases hq : hz S (8 * a + u) with
          | true =>
            rw [if_pos rfl]
            refine cntF_eq 64 0 (fun j _ _ => ?_)
            by_cases e : j = 8 * a + u
            · rw [e, hz1, hq]
            · exact hz2 j e
          | false =>
            rw [if_neg (by decide)]
            exact cntF_one hz1 hq (fun i hi => (hz2 i hi).symm) 64 0 (by omega) (by omega)
        have uL1 : up Lf (8 * a + u) L (8 * a + u) = L := by
          unfold up
          rw [if_pos rfl]
        have uL2 : ∀ j, j ≠ 8 * a + u → up Lf (8 * a + u) L j = Lf j := fun j hj => by
          unfold up
          rw [if_neg hj]
        have hRR : cRu (gN G 5 h0.2.2.1) (oh 4 h' Q S1) SX1 β SF cN mN (up Lf (8 * a + u) L) := by
          intro x y hx hy
          rw [(pmK_fr fF kk cN mN x y _).1, (pmK_fr fF kk cN mN x y _).2, xq]
          by_cases e : 8 * x + y = 8 * a + u
          · have ex : x = a := by omega
            have ey : y = u := by omega
            subst ex ey
            rw [if_pos rfl, hz1, uL1]
            refine ⟨fun q => (by cases q), fun _ => ⟨ρ, h0.2.2.1, h'.2.2.1, L.length, rfl, y4.kp (fun q h1 h2 => oh_same (bQ.out h1)), fun q h1 h2 => ?_, Nat.le_refl _⟩⟩
            unfold gN
            rw [if_pos h1]
          · rw [if_neg e, hz2 _ e, uL2 _ e]
            exact l1.2.2.2 x y hx hy
        obtain ⟨a1, a2, a3, a4, a5⟩ := cl_X (SX' := SX1) (S' := SF) (Lf' := up Lf (8 * a + u) L) l1 l2 l3 l4 (fun k _ _ => xR k) (l1.2.2.1.S fF kk x0) hRR
        refine call_1 (G' := gN G 5 h0.2.2.1) (S' := SF) (cN := cN) (mN := mN) (ty := ty) (Lf := up Lf (8 * a + u) L) (bd := bd) (V := V) (dr := dr) (z := 0) B s1 s2 e1 x3 (fun q hq => lo q (by omega)) (fun q hq h6 => ?_) (by
          show h.2.2.1 ≤ h'.2.2.1
          omega) ⟨SX1, Kc, R, Q, P, κ0, SC, T, S1, SP1, SK0, β, SB, κ, SK, mt, a1, a2, a3, a4, ⟨xI.1, fun i hi => by omega, ?_, xI.2.1.trans t4⟩, hE.fr fF (fun k h1 h2 => by
          unfold pRl
          simp only [Bool.or_eq_false_iff, Bool.and_eq_false_iff, decide_eq_false_iff_not]
          omega), ?_⟩ ⟨rT.fr fF rfl rfl rfl rfl, rU.fr fF kk, fun i => ?_, fun x y hx hy hh => ?_, ⟨b8, ((fF 6 rfl).1).trans b6, ?_, b60, fun j v hj => (bV j v hj).fr fF rfl rfl rfl rfl rfl, vlB_fr fF kk bW⟩, s16, Nat.zero_le _, ((fF 17 rfl).1).trans d1⟩
        · rw [a5 q (by rw [lo q (by omega)]; omega), l5 q (by omega) (by omega)]
          exact k0 q (by omega)
        · rw [hcn]
          exact xI.2.2
        · unfold rmW at hR ⊢
          exact ⟨by
            show h'.2.2.1 + 3 * 0 ≤ _
            omega, by
            show h'.2.2.2 + 22 * 0 ≤ _
            omega, hR.2.2⟩
        · by_cases e : i = 8 * a + u
          · rw [e, hz1, s12, if_pos rfl]
            rfl
          · rw [hz2 i e, s12, if_neg e]
            exact rH i
        · have ea : ∀ x, eK SF mN x = eK S mN x := fun x => funext fun c => eK_fr fF kk mN x c
          unfold ruT
          rw [ea, ea, fC_fr fF kk, fC_fr fF kk, s13]
          by_cases e : 8 * x + y = 8 * a + u
          · have ex : x = a := by omega
            have ey : y = u := by omega
            subst ex ey
            rw [if_pos rfl, uL1]
            refine ⟨⟨z, rfl, z2, ?_⟩, cz1⟩
            have ec : pcs (fun q => sA SF 14 (700 * (8 * x + y) + q)) z = pcs (sA S 15) z := pcs_congr (fun q hq => by
              rw [s14, fillF_in _ _ hq]
              have := fillF_in (sA S 28) (sA S 15) (o := 0) hq
              rw [Nat.zero_add] at this
              exact this)
            rw [ec]
            exact hte
          · rw [if_neg e, uL2 _ e]
            rw [hz2 _ e] at hh
            obtain ⟨⟨n, n1, n2, n3⟩, n4⟩ := rR x y hx hy hh
            refine ⟨⟨n, n1, n2, ?_⟩, n4⟩
            have ec : pcs (fun q => sA SF 14 (700 * (8 * x + y) + q)) n = pcs (fun q => sA S 14 (700 * (8 * x + y) + q)) n := pcs_congr (fun q hq => by
              rw [s14, fillF_out _ _ (by omega)])
            rw [ec]
            exact n3
        · rw [(fF 7 rfl).2.2.1]
          exact b7
