/-! Calls of both: member. -/
theorem call_member {X M b E1 E2 : Nat} {h : xH} (H : INV X M b E1 E2 h) (x y : Int32) (w : Int64) (t : Int32) (rb : Bool) : CALL X M b E1 E2 h 17 132 [.int x, .int y, .long w, .int t, .int (bI rb)] := by
  obtain ⟨G, S, cN, mN, ty, Lf, bd, V, z, dr, C, r, B, s1, s2⟩ := id H
  obtain ⟨SX, Kc, R, Q, P, κ0, SC, T, SQ, SP, SK0, β, SB, κ, SK, mt, W, h3, hC, hP, hT, hE, hR⟩ := C
  obtain ⟨σ0, σ1, σ2, g0, g1, g2, SS0, SS1, SS2, n1, n2, m0, m1, m2, ν0, ν1, ν2, SV0, SV1, SV2, rr, gg, c0, c1, c2, h1, hV, hmt⟩ := id h3
  obtain ⟨rT, rU, rH, rR, ⟨b8, b6, b7, b60, bV, bB⟩, z1, z2, d1⟩ := id r
  obtain ⟨ρ, ρ1, ρ2⟩ := rho W.2.2.2
  have e1 : xm 80 17 [.ref X, .int x, .int y, .long w, .int t, .int (bI rb)] h = _ := c_member 76 h X σ0 bd V.length SX SS0 S x y w t rb ρ G β SB κ SK cN mN W.1.1 ρ1 ρ2 rr.1 c0.1.1 h1 b8 c0.2.1 b60 W.2.2.1 rT.1
  have e2 : ∀ h, xm 80 132 [.ref M, .int x, .int y, .long w, .int t, .int (bI rb)] (oh 11 h M S) = _ := fun h => m_member 77 h M S x y w t rb cN mN bd V.length rT.1 rH b6 b8 b7 b60
  by_cases c : inR x 0 7 = true ∧ inR y 0 (nI (cN x.toNatClampNeg) - nI 1).toInt64 = true ∧ isN w = true ∧ fnd (fun i => sL S 3 (8 * (6 * x.toNatClampNeg + y.toNatClampNeg) + i)) w (mN (6 * x.toNatClampNeg + y.toNatClampNeg)) = none ∧ inR t 0 7 = true
  · rw [if_pos c] at e1
    have e2 := fun h => (e2 h).trans (if_pos c)
    obtain ⟨a, ha, rfl⟩ := inR_of (hi := 7) (by omega) c.1
    have hcy := c.2.1
    rw [k_cl (by omega)] at e1 hcy
    have ca6 := (rT.1.1 a (by omega)).2
    obtain ⟨d, hd, rfl⟩ := (inR_pred (by omega)).mp hcy
    rw [k_cl (show d < 2147483648 by omega)] at e1
    have hcf := c.2.2.2.1
    rw [k_cl (by omega), k_cl (by omega)] at hcf
    obtain ⟨tn, ht7, rfl⟩ := inR_of (hi := 7) (by omega) c.2.2.2.2
    by_cases c8 : mN (6 * a + d) = 8
    · rw [if_pos c8] at e1
      have e3 := e2 h
      rw [k_cl (by omega), k_cl (by omega), if_pos c8, show oh 11 h M S = h from B.1] at e3
      exact call_0 H e1 e3
    · rw [if_neg c8] at e1
      cases hfx : fixd S a bd V.length with
      | true =>
        rw [hfx, if_pos (show true = true from rfl)] at e1
        have e3 := e2 h
        rw [k_cl (by omega), k_cl (by omega), if_neg c8, hfx, if_pos (show true = true from rfl), show oh 11 h M S = h from B.1] at e3
        exact call_0 H e1 e3
      | false =>
        rw [hfx, if_neg (show ¬ (false = true) by decide)] at e1
        have m8 := (rT.1.2 a d (by omega) (by omega)).2
        generalize hk : mN (6 * a + d) = k at *
        have e3 := e2 (oh 1 h (κ a d) (uI (uA (uA (uL (SK a d) 1 k w) 2 k (nI tn)) 3 k (bI rb)) 4 (nI (k + 1))))
        rw [k_cl (by omega), k_cl (by omega), hk, if_neg c8, hfx, if_neg (show ¬ (false = true) by decide)] at e3
        obtain ⟨B1, B2, B3, B4⟩ := W.2.2.1
        obtain ⟨f1, f2, f3, f4, f5⟩ := B2 a d (by omega) hd
        rw [hk] at f3 f5
        have kold : ∀ q, G q ≠ (1, κ a d) → (oh 1 h (κ a d) (uI (uA (uA (uL (SK a d) 1 k w) 2 k (nI tn)) 3 k (bI rb)) 4 (nI (k + 1)))).1 q = h.1 q := fun q hne => oh_same (own_out f2.2.1 hne)
        generalize hSS : (uA (uA (uA (uL S 3 (8 * (6 * a + d) + k) w) 4 (8 * (6 * a + d) + k) (nI tn)) 5 (8 * (6 * a + d) + k) (bI rb)) 2 (6 * a + d) (nI (k + 1))) = S' at e3
        have hf : fr p05 S S' := by
          rw [← hSS]
          exact (((fr.rfl.uL (by decide)).uA (by decide)).uA (by decide)).uA (by decide)
        have u1 : sL S' 1 = sL S 1 := by
          rw [← hSS]
          show sL (uL S 3 (8 * (6 * a + d) + k) w) 1 = _
          rw [sL_uL_ne _ _ _ (by decide)]
        have u3 : ∀ q, sL S' 3 q = if q = 8 * (6 * a + d) + k then w else sL S 3 q := fun q => by
          rw [← hSS]
          show sL (uL S 3 (8 * (6 * a + d) + k) w) 3 q = _
          rw [sL_uL]
          by_cases e : q = 8 * (6 * a + d) + k
          · rw [if_pos ⟨rfl, e⟩, if_pos e]
          · rw [if_neg (fun z => e z.2), if_neg e]
        have u4 : ∀ q, sA S' 4 q = if q = 8 * (6 * a + d) + k then nI tn else sA S 4 q := fun q => by
          rw [← hSS, sA_uA_ne _ _ _ (by decide), sA_uA_ne _ _ _ (by decide), sA_uA]
          by_cases e : q = 8 * (6 * a + d) + k
          · rw [if_pos ⟨rfl, e⟩, if_pos e]
          · rw [if_neg (fun z => e z.2), if_neg e]
            rfl
        have u5 : ∀ q, sA S' 5 q = if q = 8 * (6 * a + d) + k then bI rb else sA S 5 q := fun q => by
          rw [← hSS, sA_uA_ne _ _ _ (by decide), sA_uA]
          by_cases e : q = 8 * (6 * a + d) + k
          · rw [if_pos ⟨rfl, e⟩, if_pos e]
          · rw [if_neg (fun z => e z.2), if_neg e, sA_uA_ne _ _ _ (by decide)]
            rfl
        have u2 : ∀ q, sA S' 2 q = if q = 6 * a + d then nI (k + 1) else sA S 2 q := fun q => by
          rw [← hSS, sA_uA]
          by_cases e : q = 6 * a + d
          · rw [if_pos ⟨rfl, e⟩, if_pos e]
          · rw [if_neg (fun z => e z.2), if_neg e, sA_uA_ne _ _ _ (by decide), sA_uA_ne _ _ _ (by decide)]
            rfl
        have u0 : sA S' 0 = sA S 0 := by
          rw [← hSS, sA_uA_ne _ _ _ (by decide), sA_uA_ne _ _ _ (by decide), sA_uA_ne _ _ _ (by decide)]
          rfl
        have urw : ∀ q, rw_ S' q = if q = 8 * (6 * a + d) + k then rb else rw_ S q := fun q => by
          unfold rw_
          rw [u5]
          by_cases e : q = 8 * (6 * a + d) + k
          · rw [if_pos e, if_pos e]
            cases rb <;> decide
          · rw [if_neg e, if_neg e]
        have um : ∀ q, q ≠ 6 * a + d → up mN (6 * a + d) (k + 1) q = mN q := fun q e => by
          unfold up
          rw [if_neg e]
        have um1 : up mN (6 * a + d) (k + 1) (6 * a + d) = k + 1 := by
          unfold up
          rw [if_pos rfl]
        -- the Kind
        have v1 : ∀ q, sL (uI (uA (uA (uL (SK a d) 1 k w) 2 k (nI tn)) 3 k (bI rb)) 4 (nI (k + 1))) 1 q = if q = k then w else sL (SK a d) 1 q := fun q => by
          show sL (uL (SK a d) 1 k w) 1 q = _
          rw [sL_uL]
          by_cases e : q = k
          · rw [if_pos ⟨rfl, e⟩, if_pos e]
          · rw [if_neg (fun z => e z.2), if_neg e]
        have v2 : ∀ q, sA (uI (uA (uA (uL (SK a d) 1 k w) 2 k (nI tn)) 3 k (bI rb)) 4 (nI (k + 1))) 2 q = if q = k then nI tn else sA (SK a d) 2 q := fun q => by
          show sA (uA (uA (uL (SK a d) 1 k w) 2 k (nI tn)) 3 k (bI rb)) 2 q = _
          rw [sA_uA_ne _ _ _ (by decide), sA_uA]
          by_cases e : q = k
          · rw [if_pos ⟨rfl, e⟩, if_pos e]
          · rw [if_neg (fun z => e z.2), if_neg e]
            rfl
        have v3 : ∀ q, sA (uI (uA (uA (uL (SK a d) 1 k w) 2 k (nI tn)) 3 k (bI rb)) 4 (nI (k + 1))) 3 q = if q = k then bI rb else sA (SK a d) 3 q := fun q => by
          show sA (uA (uA (uL (SK a d) 1 k w) 2 k (nI tn)) 3 k (bI rb)) 3 q = _
          rw [sA_uA]
          by_cases e : q = k
          · rw [if_pos ⟨rfl, e⟩, if_pos e]
          · rw [if_neg (fun z => e z.2), if_neg e, sA_uA_ne _ _ _ (by decide)]
            rfl
        have vrw : ∀ q, kRow (uI (uA (uA (uL (SK a d) 1 k w) 2 k (nI tn)) 3 k (bI rb)) 4 (nI (k + 1))) q = if q = k then rb else kRow (SK a d) q := fun q => by
          unfold kRow
          rw [v3]
          by_cases e : q = k
          · rw [if_pos e, if_pos e]
            cases rb <;> decide
          · rw [if_neg e, if_neg e]
        refine bld_call (a := a) (G' := G) (cN' := cN) (mN' := up mN (6 * a + d) (k + 1)) (ty' := up ty (8 * (6 * a + d) + k) tn) (SB' := SB) (κ' := κ) (SK' := fun x y => if x = a ∧ y = d then uI (uA (uA (uL (SK a d) 1 k w) 2 k (nI tn)) 3 k (bI rb)) 4 (nI (k + 1)) else SK x y) r B s1 s2 W h3 hC hP hT hE hR hfx (fun _ _ => rfl) (fun q hq hne => kold q (fun e => hne (by rw [e]))) (fun q hq e => kold q (by rw [e]; exact fun z => by cases (Prod.mk.inj z).1)) (Nat.le_refl _) (Nat.le_add_right _ _) (Nat.le_add_right _ _) ⟨fun x hx => ?_, fun x y hx hy => ?_, B3, B4⟩ hf (fun x hx hne => ⟨⟨rfl, fun y hy => ⟨?_, ?_, fun m hm => ⟨?_, ?_, ?_⟩⟩⟩, fun y hy => ⟨rfl, fun m hm => ?_⟩⟩) ⟨⟨fun x hx => ?_, fun x y hx hy => ?_⟩, fun i => ?_, fun i hi => ?_⟩ (fun x hx => ⟨fun y hy => ?_, fun y hy m hm => ?_⟩) e1 e3
        · obtain ⟨j1, j2, j3, j4⟩ := B1 x hx
          exact ⟨j1, j2.frame f2.2.1 (fun z => j2.ne f2 (by decide) z.2), j3, j4⟩
        · obtain ⟨j1, j2, j3, j4, j5⟩ := B2 x y hx hy
          have hy6 : y < 6 := Nat.lt_of_lt_of_le hy (rT.1.1 x hx).2
          dsimp only
          by_cases e : x = a ∧ y = d
          · obtain ⟨e, ee⟩ := e
            subst e ee
            rw [if_pos ⟨rfl, rfl⟩, um1, u1]
            refine ⟨j1, hB.set j2, ⟨rfl, by omega, fun i => ?_⟩, j4, fun m hm => ?_⟩
            · rw [v3, vrw]
              by_cases e : i = k
              · rw [if_pos e, if_pos e]
              · rw [if_neg e, if_neg e]
                exact f3.2.2 i
            · rw [v1, v2, vrw, u3, u4, urw]
              by_cases e : m = k
              · rw [if_pos e, if_pos e, if_pos e, if_pos (by omega), if_pos (by omega), if_pos (by omega)]
                exact ⟨rfl, rfl, rfl⟩
              · rw [if_neg e, if_neg e, if_neg e, if_neg (by omega), if_neg (by omega), if_neg (by omega)]
                exact f5 m (by omega)
          · have hne : 6 * x + y ≠ 6 * a + d := fun z => e (by omega)
            rw [if_neg e, um _ hne, u1]
            refine ⟨j1, j2.frame f2.2.1 (fun z => e (B4 x y a d hx hy (by omega) hd z.2)), j3, j4, fun m hm => ?_⟩
            have mm := (rT.1.2 x y hx hy6).2
            rw [u3, u4, urw, if_neg (by omega), if_neg (by omega), if_neg (by omega)]
            exact j5 m hm
        · rw [u1]
        · rw [um _ (by omega)]
        · rw [u3, if_neg (by omega)]
        · rw [u4, if_neg (by omega)]
        · rw [u5, if_neg (by omega)]
        · unfold up
          rw [if_neg (by omega)]
        · rw [u0]
          exact rT.1.1 x hx
        · rw [u2]
          by_cases e : 6 * x + y = 6 * a + d
          · rw [if_pos e, e, um1]
            exact ⟨rfl, by omega⟩
          · rw [if_neg e, um _ e]
            exact rT.1.2 x y hx hy
        · rw [u5, urw]
          by_cases e : i = 8 * (6 * a + d) + k
          · rw [if_pos e, if_pos e]
          · rw [if_neg e, if_neg e]
            exact rT.2.1 i
        · rw [u4]
          unfold up
          by_cases e : i = 8 * (6 * a + d) + k
          · rw [if_pos e, if_pos e]
            exact ⟨rfl, ht7⟩
          · rw [if_neg e, if_neg e]
            exact rT.2.2 i hi
        · show fnd (fun c => sL S' 1 (6 * x + c)) (sL S' 1 (6 * x + y)) (cN x) = some y
          rw [u1]
          exact (rU x hx).1 y hy
        · show fnd (fun i => sL S' 3 (8 * (6 * x + y) + i)) (sL S' 3 (8 * (6 * x + y) + m)) (up mN (6 * a + d) (k + 1) (6 * x + y)) = some m
          by_cases e : 6 * x + y = 6 * a + d
          · rw [e, um1] at hm ⊢
            have rUa := (rU a (by omega)).2 d (by omega)
            refine uq_sn (f := fun i => sL S 3 (8 * (6 * a + d) + i)) (g := fun i => sL S' 3 (8 * (6 * a + d) + i)) (w := w) (fun i hi => ?_) hcf (fun i hi => ?_) ?_ m hm
            · have := rUa i (by rw [hk]; exact hi)
              have this : fnd (fun i => sL S 3 (8 * (6 * a + d) + i)) (sL S 3 (8 * (6 * a + d) + i)) (mN (6 * a + d)) = some i := this
              rw [hk] at this
              exact this
            · rw [u3, if_neg (by omega)]
            · rw [u3, if_pos rfl]
          · rw [um _ e] at hm ⊢
            have mm := (rT.1.2 x y hx hy).2
            rw [u3, if_neg (by omega)]
            refine Eq.trans (fnd_cg (fun j hj => ?_)) ((rU x hx).2 y hy m hm)
            rw [u3, if_neg (by omega)]
  · rw [if_neg c] at e1
    have e3 := e2 h
    rw [if_neg c, show oh 11 h M S = h from B.1] at e3
    exact call_0 H e1 e3
