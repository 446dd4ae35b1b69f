/-! Calls of both: type, member. -/
theorem orF_f {g : Nat → Bool} : ∀ (k i : Nat), orF g k i = false → ∀ j, i ≤ j → j < i + k → g j = false
  | 0, i, h, j, h1, h2 => by omega
  | k + 1, i, h, j, h1, h2 => by
    rw [orF_s, Bool.or_eq_false_iff] at h
    by_cases c : j = i
    · rw [c]
      exact h.1
    · exact orF_f k (i + 1) h.2 j (by omega) (by omega)
/-- a BUILD that is not fixed -/
theorem fix_f {S : gS} {a bd n : Nat} (h : fixd S a bd n = false) : (bd = a → n = 0) ∧ ∀ k, k < 8 → hz S (8 * a + k) = false ∧ hz S (8 * k + a) = false := by
  unfold fixd at h
  rw [Bool.or_eq_false_iff] at h
  refine ⟨fun e => ?_, fun k hk => ?_⟩
  · have h1 := h.1
    rw [decide_eq_true e, Bool.true_and, decide_eq_false_iff_not] at h1
    omega
  · have h2 := orF_f 8 0 h.2 k (Nat.zero_le _) (by omega)
    unfold fixB at h2
    rw [Bool.or_eq_false_iff] at h2
    exact h2
def p05 (k : Nat) : Bool := decide (k ≤ 5)
theorem bld_call {X M b E1 E2 jc jr : Nat} {h h' : xH} {as : List Value} {v : Value} {G G' : gG} {S S' : gS} {cN mN ty cN' mN' ty' : Nat → Nat} {Lf : Nat → List mT} {bd : Nat} {V : vL} {z : Nat} {dr : Bool} {SX : gS} {Kc R Q P κ0 : Nat} {SC T SQ SP SK0 : gS} {β : Nat → Nat} {SB SB' : Nat → gS} {κ κ' : Nat → Nat → Nat} {SK SK' : Nat → Nat → gS} {mt a : Nat} (r : rfW S cN mN ty Lf bd V z dr) (B : hB G 6 11 h M S) (s1 : G b = (7, b)) (s2 : b < h.2.2.1) (W : wyB G h X Kc SX β SB κ SK S cN mN Lf) (h3 : st3 G h SX κ cN mN bd V mt) (hC : caW G h Kc R SC T) (hP : prW1 G h SX Q P κ0 SQ SP SK0) (hT : txW SX S z dr) (hE : rfE SC S) (hR : rmW h z mt E1 E2) (hfx : fixd S a bd V.length = false) (hG : ∀ q, q < h.2.2.1 → G' q = G q) (hk : ∀ q, q < h.2.2.1 → (G q).1 ≠ 1 → h'.1 q = h.1 q) (hk0 : ∀ q, q < h.2.2.1 → G q = (0, κ0) → h'.1 q = h.1 q) (hn : h.2.2.1 ≤ h'.2.2.1) (hn1 : h'.2.2.1 ≤ h.2.2.1 + 4) (hn2 : h'.2.2.2 ≤ h.2.2.2 + 29) (hB' : cBld G' h' SX β SB' κ' SK' S' cN' mN') (hf : fr p05 S S') (hsm : ∀ x, x < 8 → x ≠ a → smB S S' cN mN cN' mN' x ∧ ∀ c, c < 6 → κ' x c = κ x c ∧ ∀ m, m < 8 → ty' (8 * (6 * x + c) + m) = ty (8 * (6 * x + c) + m)) (rT' : refT S' cN' mN' ty') (rU' : uqS S' cN' mN') (e1 : xm 80 jc (.ref X :: as) h = some (some v, h')) (e3 : xm 80 jr (.ref M :: as) (oh 11 h' M S) = some (some v, oh 11 h' M S')) : CALL X M b E1 E2 h jc jr as := by
  obtain ⟨rT, rU, rH, rR, ⟨b8, b6, b7, b60, bV, bB⟩, z1, z2, d1⟩ := id r
  obtain ⟨t1, t2, t3, t4⟩ := hT
  obtain ⟨σ0, σ1, σ2, g0, g1, g2, SS0, SS1, SS2, n1, n2, m0, m1, m2, ν0, ν1, ν2, SV0, SV1, SV2, rr, ⟨q0, q1, q2, q01, q02, q12⟩, c0, c1, c2, h1, hV, hmt⟩ := h3
  obtain ⟨fx1, fx2⟩ := fix_f hfx
  have k0' : ∀ q u, q < h.2.2.1 → G q = (0, u) → h'.1 q = h.1 q := fun q u hq e => hk q hq (by rw [e]; exact (by decide : (0 : Nat) ≠ 1))
  have hz' : hz S' = hz S := hz_fr hf rfl
  -- RULES are of other BUILDS
  have ne : ∀ x y, x < 8 → y < 8 → hz S (8 * x + y) = true → x ≠ a ∧ y ≠ a := fun x y hx hy hh => by
    refine ⟨fun e => ?_, fun e => ?_⟩
    · rw [e, (fx2 y hy).1] at hh
      cases hh
    · rw [e, (fx2 x hx).2] at hh
      cases hh
  have sm : ∀ x y, x < 8 → y < 8 → hz S (8 * x + y) = true → ∀ L, pmK S' cN' mN' x y L = pmK S cN mN x y L ∧ cdK S' cN' mN' x L = cdK S cN mN x L ∧ mnF (mosB (fC S' cN' x) (fC S' cN' y) (eK S' mN' x) (eK S' mN' y) [] L) 701 = mnF (mosB (fC S cN x) (fC S cN y) (eK S mN x) (eK S mN y) [] L) 701 := fun x y hx hy hh L => by
    obtain ⟨n1, n2⟩ := ne x y hx hy hh
    exact pmK_sm (hsm x hx n1).1 (hsm y hy n2).1 (rT.1.1 x hx).2 (rT.1.1 y hy).2 (fun c hc => (rT.1.2 x c hx hc).2) (fun c hc => (rT.1.2 y c hy hc).2) L
  have nb : V ≠ [] → bd ≠ a := fun hv e => hv (List.length_eq_zero_iff.mp (fx1 e))
  refine call_1 (Lf := Lf) (cN := cN') (mN := mN') (G' := G') (S' := S') (ty := ty') (dr := dr) (z := z) (bd := bd) (V := V) B s1 s2 e1 e3 hG (fun q hq h6 => hk q hq (by omega)) hn ⟨SX, Kc, R, Q, P, κ0, SC, T, SQ, SP, SK0, β, SB', κ', SK', mt, ⟨W.1.keep (by decide) hG (fun q hq e => k0' q _ hq e) hn, W.2.1, hB', fun x y hx hy => ?_⟩, ⟨σ0, σ1, σ2, g0, g1, g2, SS0, SS1, SS2, n1, n2, m0, m1, m2, ν0, ν1, ν2, SV0, SV1, SV2, rr, ⟨q0, q1, q2, q01, q02, q12⟩, c0.keep hG (fun q hq e => hk q hq (by omega)) hn, c1.keep hG (fun q hq e => hk q hq (by omega)) hn, c2.keep hG (fun q hq e => hk q hq (by omega)) hn, h1, fun j u hj => ?_, hmt⟩, hC.keep hG (fun q hq hc => hc.elim (fun e => k0' q _ hq e) (fun e => k0' q _ hq e)) hn, hP.keep hG (fun q hq hc => hc.elim (fun e => k0' q _ hq e) (fun hc => hc.elim (fun e => k0' q _ hq e) (fun e => k0' q _ hq e))) hn rfl, ⟨t1, ?_, ?_, t4⟩, hE.fr hf (fun k h1 h2 => by
    unfold p05
    simp only [decide_eq_false_iff_not]
    omega), ?_⟩ ⟨rT', rU', rH.fr hf rfl, fun x y hx hy hh => ?_, ⟨b8, ((hf 6 rfl).1).trans b6, ?_, b60, fun j u hj => ?_, fun u hu => ?_⟩, ((hf 16 rfl).1).trans z1, z2, ((hf 17 rfl).1).trans d1⟩
  · rw [hz']
    refine ⟨(W.2.2.2 x y hx hy).1, fun hh => ?_⟩
    rw [(sm x y hx hy hh _).1, (sm x y hx hy hh _).2.1]
    exact ((W.2.2.2.keep hG (fun q hq e => hk q hq (by omega)) hn) x y hx hy).2 hh
  · obtain ⟨u1, u2, u3, u4⟩ := hV j u hj
    have e := nb (fun z => by rw [z] at hj; cases hj)
    obtain ⟨y1, y2⟩ := hsm bd b8 e
    have u6 : u.1 < 6 := Nat.lt_of_lt_of_le u1 (rT.1.1 bd b8).2
    refine ⟨by rw [y1.1]; exact u1, u2, ?_, ?_⟩
    · rw [(y2 u.1 u6).1]
      exact u3
    · rw [(y1.2 u.1 u6).2.1]
      exact u4
  · rw [(hf 15 rfl).2.2.1]
    exact t2
  · rw [hz']
    exact t3
  · unfold rmW at hR ⊢
    exact ⟨by omega, by omega, hR.2.2⟩
  · rw [hz'] at hh
    obtain ⟨⟨n, n1, n2, n3⟩, n4⟩ := rR x y hx hy hh
    refine ⟨⟨n, ?_, n2, ?_⟩, (sm x y hx hy hh _).2.2.trans n4⟩
    · rw [(hf 13 rfl).2.2.1]
      exact n1
    · rw [(hf 14 rfl).2.2.1]
      exact n3
  · rw [(hf 7 rfl).2.2.1]
    exact b7
  · obtain ⟨w1, w2, w3, w4, w5, w6, w7, w8, w9⟩ := bV j u hj
    have e := nb (fun z => by rw [z] at hj; cases hj)
    obtain ⟨y1, y2⟩ := hsm bd b8 e
    have em := (y1.2 u.1 w2).2.1
    refine ⟨w1, w2, ?_, by rw [em]; exact w4, w5, ?_, ?_, ?_, ?_⟩
    · exact (rT'.1.2 bd u.1 w1 w2).1
    · rw [(hf 9 rfl).2.2.1]
      exact w6
    · rw [(hf 8 rfl).2.2.2.1]
      exact w7
    · rw [(hf 10 rfl).2.2.1]
      exact w8
    · rw [(hf 11 rfl).2.2.2.1]
      exact w9
  · obtain ⟨u1, u2⟩ := bB u hu
    have e := nb (fun z => by rw [z] at hu; exact absurd hu List.not_mem_nil)
    obtain ⟨y1, y2⟩ := hsm bd b8 e
    have u6 : u.1 < 6 := Nat.lt_of_lt_of_le u1 (rT.1.1 bd b8).2
    have em := (y1.2 u.1 u6).2.1
    have m8 := (rT.1.2 bd u.1 b8 u6).2
    refine ⟨by rw [y1.1]; exact u1, fun o ho => ?_⟩
    rw [em] at ho
    obtain ⟨o1, o2⟩ := u2 o ho
    refine ⟨fun k hk => ?_, fun hr => o2 ?_⟩
    · rw [(y2 u.1 u6).2 o (by omega)]
      exact o1 k hk
    · unfold rw_ at hr ⊢
      rw [((y1.2 u.1 u6).2.2 o (by omega)).2.2] at hr
      exact hr
theorem fnd_sn (f : Nat → Int64) (w : Int64) (n : Nat) : fnd f w (n + 1) = match fnd f w n with
    | some i => some i
    | none => if f n = w then some n else none := by
  have key : ∀ (k i : Nat), fndF f w (k + 1) i = match fndF f w k i with
      | some j => some j
      | none => if f (i + k) = w then some (i + k) else none := by
    intro k
    induction k with
    | zero =>
      intro i
      rw [fndF_s]
      rfl
    | succ k ih =>
      intro i
      rw [fndF_s, ih (i + 1), fndF_s]
      by_cases c : f i = w
      · rw [if_pos c, if_pos c]
      · rw [if_neg c, if_neg c, show i + 1 + k = i + (k + 1) by omega]
  have := key n 0
  rw [Nat.zero_add] at this
  exact this
/-- one NAME more -/
theorem uq_sn {f g : Nat → Int64} {w : Int64} {n : Nat} (h : ∀ i, i < n → fnd f (f i) n = some i) (hw : fnd f w n = none) (hg : ∀ i, i < n → g i = f i) (hn : g n = w) : ∀ i, i < n + 1 → fnd g (g i) (n + 1) = some i := by
  intro i hi
  rw [fnd_sn, fnd_cg hg]
  by_cases c : i < n
  · rw [hg i c, h i c]
  · have e : i = n := by omega
    subst e
    rw [hn, hw]
    exact if_pos rfl
theorem call_type {X M b E1 E2 : Nat} {h : xH} (H : INV X M b E1 E2 h) (x : Int32) (w : Int64) : CALL X M b E1 E2 h 9 126 [.int x, .long w] := by
  obtain ⟨G, S, cN, mN, ty, Lf, bd, V, z, dr, C, r, B, s1, s2⟩ := id H
  obtain ⟨SX, Kc, R, Q, P, κ0, SC, T, SQ, SP, SK0, β, SB, κ, SK, mt, W, h3, hC, hP, hT, hE, hR⟩ := C
  obtain ⟨σ0, σ1, σ2, g0, g1, g2, SS0, SS1, SS2, n1, n2, m0, m1, m2, ν0, ν1, ν2, SV0, SV1, SV2, rr, gg, c0, c1, c2, h1, hV, hmt⟩ := id h3
  obtain ⟨rT, rU, rH, rR, ⟨b8, b6, b7, b60, bV, bB⟩, z1, z2, d1⟩ := id r
  obtain ⟨ρ, ρ1, ρ2⟩ := rho W.2.2.2
  have e1 : xm 80 9 [.ref X, .int x, .long w] h = _ := c_type 76 h X σ0 bd V.length SX SS0 S x w ρ G β SB κ SK cN mN W.1.1 ρ1 ρ2 rr.1 c0.1.1 h1 b8 c0.2.1 b60 W.2.2.1 rT.1
  have e2 : ∀ h, xm 80 126 [.ref M, .int x, .long w] (oh 11 h M S) = _ := fun h => m_type 77 h M S x w cN mN bd V.length rT.1 rH b6 b8 b7 b60
  by_cases c : inR x 0 7 = true ∧ isN w = true ∧ fnd (fun c => sL S 1 (6 * x.toNatClampNeg + c)) w (cN x.toNatClampNeg) = none
  · rw [if_pos c] at e1
    have e2 := fun h => (e2 h).trans (if_pos c)
    obtain ⟨a, ha, rfl⟩ := inR_of (hi := 7) (by omega) c.1
    rw [k_cl (by omega)] at e1
    have hcf := c.2.2
    rw [k_cl (by omega)] at hcf
    by_cases c6 : cN a = 6
    · rw [if_pos c6] at e1
      have e3 := e2 h
      rw [k_cl (by omega), if_pos c6, show oh 11 h M S = h from B.1] at e3
      exact call_0 H e1 e3
    · rw [if_neg c6] at e1
      cases hfx : fixd S a bd V.length with
      | true =>
        rw [hfx, if_pos (show true = true from rfl)] at e1
        have e3 := e2 h
        rw [k_cl (by omega), if_neg c6, hfx, if_pos (show true = true from rfl), show oh 11 h M S = h from B.1] at e3
        exact call_0 H e1 e3
      | false =>
        rw [hfx, if_neg (show ¬ (false = true) by decide)] at e1
        have e3 := e2 (oh 2 (oh 1 (grow h 4 29) h.2.2.1 (K0 w)) (β a) (uI (uQ (SB a) 0 (cN a) (.ref h.2.2.1)) 1 (nI (cN a + 1))))
        rw [k_cl (by omega), if_neg c6, hfx, if_neg (show ¬ (false = true) by decide)] at e3
        have ca6 := (rT.1.1 a (by omega)).2
        obtain ⟨B1, B2, B3, B4⟩ := W.2.2.1
        obtain ⟨f1, f2, f3, f4⟩ := B1 a (by omega)
        have lt : ∀ {ci q u g : Nat} {S : gS}, 0 < o_sz ci → hB G g ci h u S → ofp ci u q = true → q < h.2.2.1 := fun hs H hq => by
          have := ofp_lt hs hq
          have := H.2.2
          omega
        have lo : ∀ q, q < h.2.2.1 → gN G 1 h.2.2.1 q = G q := fun q hq => by
          unfold gN
          rw [if_neg (by omega)]
        have nx : (oh 2 (oh 1 (grow h 4 29) h.2.2.1 (K0 w)) (β a) (uI (uQ (SB a) 0 (cN a) (.ref h.2.2.1)) 1 (nI (cN a + 1)))).2.2.1 = h.2.2.1 + 4 := rfl
        have kold : ∀ q, q < h.2.2.1 → G q ≠ (1, β a) → (oh 2 (oh 1 (grow h 4 29) h.2.2.1 (K0 w)) (β a) (uI (uQ (SB a) 0 (cN a) (.ref h.2.2.1)) 1 (nI (cN a + 1)))).1 q = h.1 q := fun q hq hne => by
          rw [oh_same (own_out f2.2.1 hne), oh_same (ofp_lo hq)]
          rfl
        have hK : ∀ {g ci u : Nat} {Sx : gS}, 0 < o_sz ci → hB G g ci h u Sx → ¬ (g = 1 ∧ u = β a) → hB (gN G 1 h.2.2.1) g ci (oh 2 (oh 1 (grow h 4 29) h.2.2.1 (K0 w)) (β a) (uI (uQ (SB a) 0 (cN a) (.ref h.2.2.1)) 1 (nI (cN a + 1)))) u Sx := fun hs Hx hne => Hx.keep hs lo (fun q hq e => kold q hq (by rw [e]; exact fun z => hne ⟨(Prod.mk.inj z).1, (Prod.mk.inj z).2⟩)) (by rw [nx]; omega)
        have hf : fr p05 S (uA (uA (uL S 1 (6 * a + cN a) w) 2 (6 * a + cN a) (nI 0)) 0 a (nI (cN a + 1))) := ((fr.rfl.uL (by decide)).uA (by decide)).uA (by decide)
        have u1 : ∀ q, sL (uA (uA (uL S 1 (6 * a + cN a) w) 2 (6 * a + cN a) (nI 0)) 0 a (nI (cN a + 1))) 1 q = if q = 6 * a + cN a then w else sL S 1 q := fun q => by
          show sL (uL S 1 (6 * a + cN a) w) 1 q = _
          rw [sL_uL]
          by_cases e : q = 6 * a + cN a
          · rw [if_pos ⟨rfl, e⟩, if_pos e]
          · rw [if_neg (fun z => e z.2), if_neg e]
        have u3 : sL (uA (uA (uL S 1 (6 * a + cN a) w) 2 (6 * a + cN a) (nI 0)) 0 a (nI (cN a + 1))) 3 = sL S 3 := by
          show sL (uL S 1 (6 * a + cN a) w) 3 = _
          rw [sL_uL_ne _ _ _ (by decide)]
        have u4 : sA (uA (uA (uL S 1 (6 * a + cN a) w) 2 (6 * a + cN a) (nI 0)) 0 a (nI (cN a + 1))) 4 = sA S 4 := by
          rw [sA_uA_ne _ _ _ (by decide), sA_uA_ne _ _ _ (by decide)]
          rfl
        have u5 : sA (uA (uA (uL S 1 (6 * a + cN a) w) 2 (6 * a + cN a) (nI 0)) 0 a (nI (cN a + 1))) 5 = sA S 5 := by
          rw [sA_uA_ne _ _ _ (by decide), sA_uA_ne _ _ _ (by decide)]
          rfl
        have u2 : ∀ q, sA (uA (uA (uL S 1 (6 * a + cN a) w) 2 (6 * a + cN a) (nI 0)) 0 a (nI (cN a + 1))) 2 q = if q = 6 * a + cN a then nI 0 else sA S 2 q := fun q => by
          rw [sA_uA_ne _ _ _ (by decide), sA_uA]
          by_cases e : q = 6 * a + cN a
          · rw [if_pos ⟨rfl, e⟩, if_pos e]
          · rw [if_neg (fun z => e z.2), if_neg e]
            rfl
        have u0 : ∀ q, sA (uA (uA (uL S 1 (6 * a + cN a) w) 2 (6 * a + cN a) (nI 0)) 0 a (nI (cN a + 1))) 0 q = if q = a then nI (cN a + 1) else sA S 0 q := fun q => by
          rw [sA_uA]
          by_cases e : q = a
          · rw [if_pos ⟨rfl, e⟩, if_pos e]
          · rw [if_neg (fun z => e z.2), if_neg e, sA_uA_ne _ _ _ (by decide)]
            rfl
        have urw : ∀ q, rw_ (uA (uA (uL S 1 (6 * a + cN a) w) 2 (6 * a + cN a) (nI 0)) 0 a (nI (cN a + 1))) q = rw_ S q := fun q => by
          unfold rw_
          rw [u5]
        have eKe : ∀ x y, 6 * x + y ≠ 6 * a + cN a → eK (uA (uA (uL S 1 (6 * a + cN a) w) 2 (6 * a + cN a) (nI 0)) 0 a (nI (cN a + 1))) (up mN (6 * a + cN a) 0) x y = eK S mN x y := fun x y e => by
          unfold eK
          have e1 : up mN (6 * a + cN a) 0 (6 * x + y) = mN (6 * x + y) := by
            unfold up
            rw [if_neg e]
          rw [e1, u3, u4]
          congr 2
        refine bld_call (a := a) (G' := gN G 1 h.2.2.1) (cN' := up cN a (cN a + 1)) (mN' := up mN (6 * a + cN a) 0) (ty' := ty) (SB' := up SB a (uI (uQ (SB a) 0 (cN a) (.ref h.2.2.1)) 1 (nI (cN a + 1)))) (κ' := fun x y => if x = a ∧ y = cN a then h.2.2.1 else κ x y) (SK' := fun x y => if x = a ∧ y = cN a then K0 w else SK x y) r B s1 s2 W h3 hC hP hT hE hR hfx lo (fun q hq hne => kold q hq (fun e => hne (by rw [e]))) (fun q hq e => kold q hq (by rw [e]; exact fun z => by cases (Prod.mk.inj z).1)) (by rw [nx]; omega) (by rw [nx]; omega) (Nat.le_refl _) ⟨fun x hx => ?_, fun x y hx hy => ?_, B3, fun x y x2 y2 hx hy hx2 hy2 he => ?_⟩ hf (fun x hx hne => ⟨⟨?_, fun y hy => ⟨?_, ?_, fun m hm => ⟨?_, ?_, ?_⟩⟩⟩, fun y hy => ⟨?_, fun m hm => rfl⟩⟩) ⟨⟨fun x hx => ?_, fun x y hx hy => ?_⟩, fun i => ?_, fun i hi => ?_⟩ (fun x hx => ⟨fun y hy => ?_, fun y hy m hm => ?_⟩) e1 e3
        · unfold up
          by_cases e : x = a
          · subst e
            rw [if_pos rfl, if_pos rfl]
            refine ⟨f1, ⟨isB_oh _ _ _ _, fun q hq => (lo q (lt (by decide) f2 hq)).trans (f2.2.1 q hq), ?_⟩, rfl, fun y h1 h2 => ?_⟩
            · have := f2.2.2
              rw [nx]
              omega
            · show sQ (uQ (SB x) 0 (cN x) (.ref h.2.2.1)) 0 y = .null
              rw [sQ_uQ, if_neg (fun z => by omega)]
              exact f4 y (by omega) h2
          · rw [if_neg e, if_neg e]
            obtain ⟨j1, j2, j3, j4⟩ := B1 x hx
            exact ⟨j1, hK (by decide) j2 (fun z => e (B3 x a hx (by omega) z.2)), j3, j4⟩
        · have hy6 : y < 6 := by
            unfold up at hy
            have := (rT.1.1 x hx).2
            split at hy <;> omega
          dsimp only
          by_cases e : x = a ∧ y = cN a
          · obtain ⟨e, ee⟩ := e
            subst e ee
            rw [if_pos ⟨rfl, rfl⟩, if_pos ⟨rfl, rfl⟩]
            have eb : up SB x (uI (uQ (SB x) 0 (cN x) (.ref h.2.2.1)) 1 (nI (cN x + 1))) x = uI (uQ (SB x) 0 (cN x) (.ref h.2.2.1)) 1 (nI (cN x + 1)) := by
              unfold up
              rw [if_pos rfl]
            have em : up mN (6 * x + cN x) 0 (6 * x + cN x) = 0 := by
              unfold up
              rw [if_pos rfl]
            rw [eb, em]
            refine ⟨?_, ⟨(isB_oh 1 (grow h 4 29) h.2.2.1 (K0 w)).frame (dj_of (by decide) (by decide) (Or.inl f2.2.2)), own_new (by decide), ?_⟩, ⟨rfl, by decide, fun i => by unfold kRow; rfl⟩, ?_, fun m hm => by omega⟩
            · show sQ (uQ (SB x) 0 (cN x) (.ref h.2.2.1)) 0 (cN x) = _
              rw [sQ_uQ, if_pos ⟨rfl, rfl⟩]
            · rw [nx]
              exact Nat.le_refl _
            · rw [u1, if_pos rfl]
              rfl
          · have hne : 6 * x + y ≠ 6 * a + cN a := fun z => e (by omega)
            have hy2 : y < cN x := by
              unfold up at hy
              split at hy
              · rename_i ex
                rw [ex]
                omega
              · exact hy
            obtain ⟨j1, j2, j3, j4, j5⟩ := B2 x y hx hy2
            have em : up mN (6 * a + cN a) 0 (6 * x + y) = mN (6 * x + y) := by
              unfold up
              rw [if_neg hne]
            rw [if_neg e, if_neg e, em, u1, if_neg hne, u3, u4]
            refine ⟨?_, hK (by decide) j2 (fun z => j2.ne f2 (by decide) z.2), j3, j4, fun m hm => ?_⟩
            · unfold up
              by_cases ex : x = a
              · subst ex
                rw [if_pos rfl]
                show sQ (uQ (SB x) 0 (cN x) (.ref h.2.2.1)) 0 y = _
                rw [sQ_uQ, if_neg (fun z => e ⟨rfl, z.2⟩)]
                exact j1
              · rw [if_neg ex]
                exact j1
            · rw [urw]
              exact j5 m hm
        · -- Kinds stand apart
          have old : ∀ x y, x < 8 → y < up cN a (cN a + 1) x → ¬ (x = a ∧ y = cN a) → y < cN x := fun x y hx hy e => by
            unfold up at hy
            split at hy
            · rename_i ex
              rw [ex]
              omega
            · exact hy
          dsimp only at he
          by_cases e : x = a ∧ y = cN a
          · by_cases ee : x2 = a ∧ y2 = cN a
            · omega
            · rw [if_pos e, if_neg ee] at he
              have := (B2 x2 y2 hx2 (old x2 y2 hx2 hy2 ee)).2.1.lt (by decide)
              omega
          · by_cases ee : x2 = a ∧ y2 = cN a
            · rw [if_neg e, if_pos ee] at he
              have := (B2 x y hx (old x y hx hy e)).2.1.lt (by decide)
              omega
            · rw [if_neg e, if_neg ee] at he
              exact B4 x y x2 y2 hx (old x y hx hy e) hx2 (old x2 y2 hx2 hy2 ee) he
        · unfold up
          rw [if_neg hne]
        · rw [u1, if_neg (by omega)]
        · unfold up
          rw [if_neg (by omega)]
        · rw [u3]
        · rw [u4]
        · rw [u5]
        · rw [if_neg (fun z => hne z.1)]
        · rw [u0]
          unfold up
          by_cases e : x = a
          · rw [if_pos e, if_pos e]
            exact ⟨rfl, by omega⟩
          · rw [if_neg e, if_neg e]
            exact rT.1.1 x hx
        · rw [u2]
          unfold up
          by_cases e : 6 * x + y = 6 * a + cN a
          · rw [if_pos e, if_pos e]
            exact ⟨rfl, by omega⟩
          · rw [if_neg e, if_neg e]
            exact rT.1.2 x y hx hy
        · rw [u5, urw]
          exact rT.2.1 i
        · rw [u4]
          exact rT.2.2 i hi
        · show fnd (fun c => sL _ 1 (6 * x + c)) _ (up cN a (cN a + 1) x) = some y
          by_cases e : x = a
          · subst e
            have ec : up cN x (cN x + 1) x = cN x + 1 := by
              unfold up
              rw [if_pos rfl]
            rw [ec] at hy ⊢
            exact uq_sn (f := fun c => sL S 1 (6 * x + c)) (fun i hi => (rU x hx).1 i hi) hcf (fun i hi => by
              rw [u1, if_neg (by omega)]) (by
              rw [u1, if_pos rfl]) y hy
          · have ec : up cN a (cN a + 1) x = cN x := by
              unfold up
              rw [if_neg e]
            rw [ec] at hy ⊢
            have x6 := (rT.1.1 x hx).2
            rw [u1, if_neg (by omega)]
            refine Eq.trans (fnd_cg (fun j hj => ?_)) ((rU x hx).1 y hy)
            rw [u1, if_neg (by omega)]
        · by_cases e : 6 * x + y = 6 * a + cN a
          · unfold up at hm
            rw [if_pos e] at hm
            omega
          · unfold up at hm
            rw [if_neg e] at hm
            rw [eKe x y e, u3]
            exact (rU x hx).2 y hy m hm
  · rw [if_neg c] at e1
    have e3 := e2 h
    rw [if_neg c, show oh 11 h M S = h from B.1] at e3
    exact call_0 H e1 e3
