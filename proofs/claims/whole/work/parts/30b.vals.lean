/-! Calls of both: set, add. -/
def vwU (vw : vW) (m k0 n' : Nat) (zz : Int64) : vW := (vw.1, up vw.2.1 m n', fun a b => if a = m ∧ b = k0 then zz else vw.2.2 a b)
theorem set_get {V : vL} {i j : Nat} {v u : Nat × vW} (h : (V.set i u)[j]? = some v) : j = i ∧ v = u ∨ j ≠ i ∧ V[j]? = some v := by
  rw [List.getElem?_set] at h
  by_cases c : i = j
  · rw [if_pos c] at h
    split at h
    · cases h
      exact Or.inl ⟨c.symm, rfl⟩
    · cases h
  · rw [if_neg c] at h
    exact Or.inr ⟨fun e => c e.symm, h⟩
theorem mem_set {V : vL} {i : Nat} {v u : Nat × vW} (h : v ∈ V.set i u) : v = u ∨ v ∈ V := by
  obtain ⟨j, hj⟩ := List.getElem?_of_mem h
  rcases set_get hj with ⟨_, e⟩ | ⟨_, e⟩
  · exact Or.inl e
  · exact Or.inr (List.mem_of_getElem? e)
theorem val_up {X M b E1 E2 jc jr : Nat} {h : xH} {as : List Value} {v : Value} {G : gG} {S S' : gS} {cN mN ty : Nat → Nat} {Lf : Nat → List mT} {bd : Nat} {V : vL} {z : Nat} {dr : Bool} {SX : gS} {Kc R Q P κ0 : Nat} {SC T SQ SP SK0 : gS} {β : Nat → Nat} {SB : Nat → gS} {κ : Nat → Nat → Nat} {SK : Nat → Nat → gS} {mt : Nat} {σ0 σ1 σ2 g0 g1 g2 : Nat} {SS0 SS1 SS2 : gS} {n1 n2 m0 m1 m2 : Nat} {ν0 ν1 ν2 : Nat → Nat} {SV0 SV1 SV2 : Nat → gS} (r : rfW S cN mN ty Lf bd V z dr) (B : hB G 6 11 h M S) (s1 : G b = (7, b)) (s2 : b < h.2.2.1) (W : wyB G h X Kc SX β SB κ SK S cN mN Lf) (rr : sR SX 5 = .ref σ0 ∧ sR SX 6 = .ref σ1 ∧ sR SX 7 = .ref σ2) (gg : (1 < g0 ∧ g0 < 5) ∧ (1 < g1 ∧ g1 < 5) ∧ (1 < g2 ∧ g2 < 5) ∧ g0 ≠ g1 ∧ g0 ≠ g2 ∧ g1 ≠ g2) (c0 : cSt g0 G h σ0 SS0 V.length m0 ν0 SV0) (c1 : cSt g1 G h σ1 SS1 n1 m1 ν1 SV1) (c2 : cSt g2 G h σ2 SS2 n2 m2 ν2 SV2) (h1 : sI SS0 1 = nI bd) (hV : ∀ j v, V[j]? = some v → svC κ cN mN bd (SV0 j) v) (hmt : mt = m0 + m1 + m2) (hC : caW G h Kc R SC T) (hP : prW1 G h SX Q P κ0 SQ SP SK0) (hT : txW SX S z dr) (hE : rfE SC S) (hR : rmW h z mt E1 E2) {i m k0 n' : Nat} {zz : Int64} {SV' : gS} (hi : i < V.length) (hm : m < mN (6 * bd + (vAt V i).1)) (hk0 : k0 < n') (hn8 : n' ≤ 8) (hko : ∀ k, k < n' → k ≠ k0 → k < (vAt V i).2.2.1 m) (hwf : wfT (ty (8 * (6 * bd + (vAt V i).1) + m)) zz) (fS : fr (fun k => decide (k = 10) || decide (k = 11)) S S') (f10 : ∀ q, sA S' 10 q = if q = 8 * i + m then nI n' else sA S 10 q) (f11 : ∀ q, sL S' 11 q = if q = 64 * i + 8 * m + k0 then zz else sL S 11 q) (fV : fr (fun k => decide (k = 0) || decide (k = 1)) (SV0 i) SV') (f0 : ∀ q, sA SV' 0 q = if q = m then nI n' else sA (SV0 i) 0 q) (f1 : ∀ q, sL SV' 1 q = if q = 8 * m + k0 then zz else sL (SV0 i) 1 q) (e1 : xm 80 jc (.ref X :: as) h = some (some v, oh 9 h (ν0 i) SV')) (e3 : xm 80 jr (.ref M :: as) (oh 11 (oh 9 h (ν0 i) SV') M S) = some (some v, oh 11 (oh 9 h (ν0 i) SV') M S')) : CALL X M b E1 E2 h jc jr as := by
  obtain ⟨rT, rU, rH, rR, ⟨b8, b6, b7, b60, bV, bB⟩, z1, z2, d1⟩ := id r
  obtain ⟨t1, t2, t3, t4⟩ := hT
  obtain ⟨r5, r6, r7⟩ := rr
  obtain ⟨q0, q1, q2, q01, q02, q12⟩ := gg
  have hp : kRu (fun k => decide (k = 10) || decide (k = 11)) := ⟨⟨rfl, rfl, rfl, rfl, rfl, rfl⟩, rfl, rfl, rfl⟩
  have im0 : i < m0 := Nat.lt_of_lt_of_le hi c0.2.2.1
  have oV := (c0.2.2.2.2.1 i im0).2
  have k1 : ∀ q, (G q).1 ≠ g0 → (oh 9 h (ν0 i) SV').1 q = h.1 q := fun q hq => oh_same (own_out oV.2.1 (fun e => hq (by rw [e])))
  have k0' : ∀ q u, G q = (0, u) → (oh 9 h (ν0 i) SV').1 q = h.1 q := fun q u e => k1 q (by rw [e]; show 0 ≠ g0; omega)
  have hvi := hV i _ (vAt_s hi)
  have hri := bV i _ (vAt_s hi)
  have m8 := hri.2.2.2.1
  have el : (V.set i ((vAt V i).1, vwU (vAt V i).2 m k0 n' zz)).length = V.length := List.length_set
  have c0' := c0.set im0 SV'
  rw [← el] at c0'
  refine call_1 (G' := G) (S' := S') (ty := ty) (dr := dr) (z := z) (bd := bd) (V := V.set i ((vAt V i).1, vwU (vAt V i).2 m k0 n' zz)) B s1 s2 e1 e3 (fun _ _ => rfl) (fun q _ hq => k1 q (by omega)) (Nat.le_refl _) ⟨SX, Kc, R, Q, P, κ0, SC, T, SQ, SP, SK0, β, SB, κ, SK, mt, ⟨W.1.frame oV.2.1 (fun z => by omega), W.2.1, (W.2.2.1.S fS hp.1 rfl).keep (fun _ _ => rfl) (fun q _ e => k1 q (by omega)) (Nat.le_refl _), (W.2.2.2.S fS hp rfl).keep (fun _ _ => rfl) (fun q _ e => k1 q (by omega)) (Nat.le_refl _)⟩, ⟨σ0, σ1, σ2, g0, g1, g2, SS0, SS1, SS2, n1, n2, m0, m1, m2, ν0, ν1, ν2, _, SV1, SV2, ⟨r5, r6, r7⟩, ⟨q0, q1, q2, q01, q02, q12⟩, c0', c1.keep (fun _ _ => rfl) (fun q _ e => k1 q (by omega)) (Nat.le_refl _), c2.keep (fun _ _ => rfl) (fun q _ e => k1 q (by omega)) (Nat.le_refl _), h1, fun j u hj => ?_, hmt⟩, hC.keep (fun _ _ => rfl) (fun q _ hc => hc.elim (fun e => k0' q _ e) (fun e => k0' q _ e)) (Nat.le_refl _), hP.keep (fun _ _ => rfl) (fun q _ hc => hc.elim (fun e => k0' q _ e) (fun hc => hc.elim (fun e => k0' q _ e) (fun e => k0' q _ e))) (Nat.le_refl _) rfl, ⟨t1, ?_, ?_, t4⟩, hE.fr fS (fun k h1 h2 => by
    simp only [Bool.or_eq_false_iff, decide_eq_false_iff_not]
    omega), ?_⟩ ⟨rT.fr fS rfl rfl rfl rfl, rU.fr fS hp.1, rH.fr fS rfl, fun a2 b2 ha2 hb2 hh => ?_, ⟨b8, ((fS 6 rfl).1).trans b6, ?_, by rw [el]; exact b60, fun j u hj => ?_, fun u hu => ?_⟩, ((fS 16 rfl).1).trans z1, z2, ((fS 17 rfl).1).trans d1⟩
  · unfold up
    rcases set_get hj with ⟨e, eu⟩ | ⟨e, eu⟩
    · subst eu
      rw [if_pos e]
      refine ⟨hvi.1, ((fV 4 rfl).1).trans hvi.2.1, ((fV 5 rfl).2.2.2.2.1).trans hvi.2.2.1, ((fV 2 rfl).2.1).trans hvi.2.2.2.1, fun a ha => ?_, fun a k ha hk => ?_⟩
      · show sA SV' 0 a = nI (if a = m then n' else (vAt V i).2.2.1 a) ∧ (if a = m then n' else (vAt V i).2.2.1 a) ≤ 8
        rw [f0]
        by_cases c : a = m
        · rw [if_pos c, if_pos c]
          exact ⟨rfl, hn8⟩
        · rw [if_neg c, if_neg c]
          exact hvi.2.2.2.2.1 a ha
      · have hk2 : k < (if a = m then n' else (vAt V i).2.2.1 a) := hk
        have ha : a < mN (6 * bd + (vAt V i).1) := ha
        show sL SV' 1 (8 * a + k) = if a = m ∧ k = k0 then zz else (vAt V i).2.2.2 a k
        rw [f1]
        by_cases c : a = m
        · rw [if_pos c] at hk2
          subst c
          by_cases c2 : k = k0
          · rw [if_pos (by omega), if_pos ⟨rfl, c2⟩]
          · rw [if_neg (by omega), if_neg (fun z => c2 z.2)]
            exact hvi.2.2.2.2.2 a k ha (hko k hk2 c2)
        · rw [if_neg c] at hk2
          have k8 := (hvi.2.2.2.2.1 a ha).2
          rw [if_neg (by omega), if_neg (fun z => c z.1)]
          exact hvi.2.2.2.2.2 a k ha hk2
    · rw [if_neg e]
      exact hV j u eu
  · rw [(fS 15 rfl).2.2.1]
    exact t2
  · rw [hz_fr fS rfl]
    exact t3
  · unfold rmW at hR ⊢
    exact ⟨Nat.le_trans hR.1 (by omega), Nat.le_trans hR.2.1 (by omega), hR.2.2⟩
  · rw [hz_fr fS rfl] at hh
    exact (rR a2 b2 ha2 hb2 hh).fr fS hp
  · rw [(fS 7 rfl).2.2.1, el]
    exact b7
  · rcases set_get hj with ⟨e, eu⟩ | ⟨e, eu⟩
    · subst eu e
      obtain ⟨w1, w2, w3, w4, w5, w6, w7, w8, w9⟩ := hri
      refine ⟨w1, w2, ?_, w4, w5, ?_, ?_, fun a ha => ?_, fun a k ha hk => ?_⟩
      · rw [(fS 2 rfl).2.2.1]
        exact w3
      · rw [(fS 9 rfl).2.2.1]
        exact w6
      · rw [(fS 8 rfl).2.2.2.1]
        exact w7
      · show sA S' 10 (8 * j + a) = nI (if a = m then n' else (vAt V j).2.2.1 a) ∧ (if a = m then n' else (vAt V j).2.2.1 a) ≤ 8
        rw [f10]
        by_cases c : a = m
        · rw [if_pos (by omega), if_pos c]
          exact ⟨rfl, hn8⟩
        · rw [if_neg (by omega), if_neg c]
          exact w8 a ha
      · show sL S' 11 (64 * j + 8 * a + k) = if a = m ∧ k = k0 then zz else (vAt V j).2.2.2 a k
        rw [f11]
        by_cases c : a = m ∧ k = k0
        · rw [if_pos (by omega), if_pos c]
        · rw [if_neg (by omega), if_neg c]
          exact w9 a k ha hk
    · obtain ⟨w1, w2, w3, w4, w5, w6, w7, w8, w9⟩ := bV j u eu
      refine ⟨w1, w2, ?_, w4, w5, ?_, ?_, fun a ha => ?_, fun a k ha hk => ?_⟩
      · rw [(fS 2 rfl).2.2.1]
        exact w3
      · rw [(fS 9 rfl).2.2.1]
        exact w6
      · rw [(fS 8 rfl).2.2.2.1]
        exact w7
      · rw [f10, if_neg (by omega)]
        exact w8 a ha
      · rw [f11, if_neg (by omega)]
        exact w9 a k ha hk
  · rcases mem_set hu with e | e
    · subst e
      obtain ⟨u1, u2⟩ := bB _ (List.mem_of_getElem? (vAt_s hi))
      refine ⟨u1, fun o ho => ?_⟩
      rw [rw_id fS hp.1]
      show (∀ k, k < (if o = m then n' else (vAt V i).2.2.1 o) → wfT (ty (8 * (6 * bd + (vAt V i).1) + o)) (if o = m ∧ k = k0 then zz else (vAt V i).2.2.2 o k)) ∧ (rw_ S (8 * (6 * bd + (vAt V i).1) + o) = false → 0 < (if o = m then n' else (vAt V i).2.2.1 o))
      have ho : o < mN (6 * bd + (vAt V i).1) := ho
      by_cases c : o = m
      · subst c
        rw [if_pos rfl]
        refine ⟨fun k hk => ?_, fun _ => by omega⟩
        by_cases c2 : k = k0
        · rw [if_pos ⟨rfl, c2⟩]
          exact hwf
        · rw [if_neg (fun z => c2 z.2)]
          exact (u2 o ho).1 k (hko k hk c2)
      · rw [if_neg c]
        refine ⟨fun k hk => ?_, (u2 o ho).2⟩
        rw [if_neg (fun z => c z.1)]
        exact (u2 o ho).1 k hk
    · obtain ⟨u1, u2⟩ := bB u e
      refine ⟨u1, fun o ho => ?_⟩
      rw [rw_id fS hp.1]
      exact u2 o ho
theorem call_set {X M b E1 E2 : Nat} {h : xH} (H : INV X M b E1 E2 h) (w : Int64) (x : Int32) (zz : Int64) : CALL X M b E1 E2 h 30 139 [.long w, .int x, .long zz] := by
  obtain ⟨G, S, cN, mN, ty, Lf, bd, V, z, dr, C, r, B, s1, s2⟩ := id H
  obtain ⟨SX, Kc, R, Q, P, κ0, SC, T, SQ, SP, SK0, β, SB, κ, SK, mt, W, h3, hC, hP, hT, hE, hR⟩ := C
  obtain ⟨σ0, σ1, σ2, g0, g1, g2, SS0, SS1, SS2, n1, n2, m0, m1, m2, ν0, ν1, ν2, SV0, SV1, SV2, rr, gg, c0, c1, c2, h1, hV, hmt⟩ := h3
  obtain ⟨rT, rU, rH, rR, ⟨b8, b6, b7, b60, bV, bB⟩, z1, z2, d1⟩ := id r
  have h6 := (rT.1.1 bd b8).2
  have htN : ∀ v m, v < V.length → m < mN (6 * bd + (vAt V v).1) → sA (SK bd (vAt V v).1) 2 m = nI (ty (8 * (6 * bd + (vAt V v).1) + m)) ∧ ty (8 * (6 * bd + (vAt V v).1) + m) ≤ 7 := fun v m hv hm => by
    obtain ⟨a1, _⟩ := hV v _ (vAt_s hv)
    have m8 := (bV v _ (vAt_s hv)).2.2.2.1
    obtain ⟨_, _, _, _, k5⟩ := W.2.2.1.2.1 bd (vAt V v).1 b8 a1
    obtain ⟨y1, y2⟩ := rT.2.2 (8 * (6 * bd + (vAt V v).1) + m) (by omega)
    exact ⟨(k5 m hm).2.1.trans y1, y2⟩
  have e1 : xm 80 30 [.ref X, .long w, .int x, .long zz] h = _ := c_set 78 h X σ0 V.length SX SS0 ν0 _ _ SV0 _ w x zz (fun v m => ty (8 * (6 * bd + (vAt V v).1) + m)) W.1.1 rr.1 c0.1.1 c0.stOK (vk_ok W.2.2.1 b8 hV) htN
  have e2 : ∀ h, xm 80 139 [.ref M, .long w, .int x, .long zz] (oh 11 h M S) = _ := fun h => m_set 77 h M S w x zz cN mN _ bd V.length rT.1 (vl_ok (cN := cN) (ty := ty) b8 b6 b7 b60 bV) rT.2.1
  rw [fnd_cg (ky_eq hV bV)] at e1
  cases hf : fnd (sL S 8) w V.length with
  | none =>
    have e3 := e2 h
    rw [hf] at e1 e3
    rw [show oh 11 h M S = h from B.1] at e3
    exact call_0 H e1 e3
  | some i =>
    have hi := (fnd_lt hf).1
    obtain ⟨a1, a2, a3, a4⟩ := hV i _ (vAt_s hi)
    have k2 := bV i _ (vAt_s hi)
    have m8 := k2.2.2.2.1
    obtain ⟨_, _, _, _, k5⟩ := W.2.2.1.2.1 bd (vAt V i).1 b8 a1
    rw [hf] at e1
    have e1 : xm 80 30 [.ref X, .long w, .int x, .long zz] h = if inR x 0 (nI (mN (6 * bd + (vAt V i).1)) - nI 1).toInt64 = true ∧ kRow (SK bd (vAt V i).1) x.toNatClampNeg = false then (if fitT (sA (SK bd (vAt V i).1) 2 x.toNatClampNeg) zz = true then some (some (.int (nI 1)), oh 9 h (ν0 i) (uL (SV0 i) 1 (8 * x.toNatClampNeg) zz)) else some (some (.int (-nI 1)), h)) else some (some (.int (-nI 2)), h) := e1
    have e2 : ∀ h, xm 80 139 [.ref M, .long w, .int x, .long zz] (oh 11 h M S) = if inR x 0 (nI (mN (6 * bd + (vAt V i).1)) - nI 1).toInt64 = true ∧ rw_ S (8 * (6 * bd + (vAt V i).1) + x.toNatClampNeg) = false then (if fitT (sA S 4 (8 * (6 * bd + (vAt V i).1) + x.toNatClampNeg)) zz = true then some (some (.int (nI 1)), oh 11 h M (uL S 11 (64 * i + 8 * x.toNatClampNeg) zz)) else some (some (.int (-nI 1)), oh 11 h M S)) else some (some (.int (-nI 2)), oh 11 h M S) := fun h => by
      have := e2 h
      rw [hf] at this
      exact this
    by_cases hx : inR x 0 (nI (mN (6 * bd + (vAt V i).1)) - nI 1).toInt64 = true
    · obtain ⟨m, hm, rfl⟩ := (inR_pred (by omega)).mp hx
      rw [k_cl (by omega)] at e1
      obtain ⟨j1, j2, j3⟩ := k5 m hm
      rw [j2, j3] at e1
      by_cases hc : inR (nI m) 0 (nI (mN (6 * bd + (vAt V i).1)) - nI 1).toInt64 = true ∧ rw_ S (8 * (6 * bd + (vAt V i).1) + m) = false
      · rw [if_pos hc] at e1
        by_cases hft : fitT (sA S 4 (8 * (6 * bd + (vAt V i).1) + m)) zz = true
        · rw [if_pos hft] at e1
          have e3 := e2 (oh 9 h (ν0 i) (uL (SV0 i) 1 (8 * m) zz))
          rw [k_cl (by omega), if_pos hc, if_pos hft] at e3
          have hpos := (bB _ (List.mem_of_getElem? (vAt_s hi))).2 m hm
          have k8 := (a4.2.1 m hm).2
          have hty := rT.2.2 (8 * (6 * bd + (vAt V i).1) + m) (by
            have := a1
            omega)
          refine val_up (i := i) (m := m) (k0 := 0) (n' := (vAt V i).2.2.1 m) (zz := zz) r B s1 s2 W rr gg c0 c1 c2 h1 hV hmt hC hP hT hE hR hi hm (hpos.2 hc.2) k8 (fun k hk _ => hk) ?_ (fr.rfl.uL (by decide)) (fun q => ?_) (fun q => ?_) (fr.rfl.uL (by decide)) (fun q => ?_) (fun q => ?_) e1 e3
          · rw [hty.1] at hft
            exact wf_fit hty.2 hft
          · show sA S 10 q = _
            by_cases c : q = 8 * i + m
            · rw [if_pos c, c]
              exact (k2.2.2.2.2.2.2.2.1 m (by omega)).1
            · rw [if_neg c]
          · rw [sL_uL, Nat.add_zero]
            by_cases c : q = 64 * i + 8 * m
            · rw [if_pos ⟨rfl, c⟩, if_pos c]
            · rw [if_neg (fun z => c z.2), if_neg c]
          · show sA (SV0 i) 0 q = _
            by_cases c : q = m
            · rw [if_pos c, c]
              exact (a4.2.1 m hm).1
            · rw [if_neg c]
          · rw [sL_uL, Nat.add_zero]
            by_cases c : q = 8 * m
            · rw [if_pos ⟨rfl, c⟩, if_pos c]
            · rw [if_neg (fun z => c z.2), if_neg c]
        · rw [if_neg hft] at e1
          have e3 := e2 h
          rw [k_cl (by omega), if_pos hc, if_neg hft, show oh 11 h M S = h from B.1] at e3
          exact call_0 H e1 e3
      · rw [if_neg hc] at e1
        have e3 := e2 h
        rw [k_cl (by omega), if_neg hc, show oh 11 h M S = h from B.1] at e3
        exact call_0 H e1 e3
    · rw [if_neg (fun z => hx z.1)] at e1
      have e3 := e2 h
      rw [if_neg (fun z => hx z.1), show oh 11 h M S = h from B.1] at e3
      exact call_0 H e1 e3
theorem call_add {X M b E1 E2 : Nat} {h : xH} (H : INV X M b E1 E2 h) (w : Int64) (x : Int32) (zz : Int64) : CALL X M b E1 E2 h 35 144 [.long w, .int x, .long zz] := by
  obtain ⟨G, S, cN, mN, ty, Lf, bd, V, z, dr, C, r, B, s1, s2⟩ := id H
  obtain ⟨SX, Kc, R, Q, P, κ0, SC, T, SQ, SP, SK0, β, SB, κ, SK, mt, W, h3, hC, hP, hT, hE, hR⟩ := C
  obtain ⟨σ0, σ1, σ2, g0, g1, g2, SS0, SS1, SS2, n1, n2, m0, m1, m2, ν0, ν1, ν2, SV0, SV1, SV2, rr, gg, c0, c1, c2, h1, hV, hmt⟩ := h3
  obtain ⟨rT, rU, rH, rR, ⟨b8, b6, b7, b60, bV, bB⟩, z1, z2, d1⟩ := id r
  have h6 := (rT.1.1 bd b8).2
  have htN : ∀ v m, v < V.length → m < mN (6 * bd + (vAt V v).1) → sA (SK bd (vAt V v).1) 2 m = nI (ty (8 * (6 * bd + (vAt V v).1) + m)) ∧ ty (8 * (6 * bd + (vAt V v).1) + m) ≤ 7 := fun v m hv hm => by
    obtain ⟨a1, _⟩ := hV v _ (vAt_s hv)
    have m8 := (bV v _ (vAt_s hv)).2.2.2.1
    obtain ⟨_, _, _, _, k5⟩ := W.2.2.1.2.1 bd (vAt V v).1 b8 a1
    obtain ⟨y1, y2⟩ := rT.2.2 (8 * (6 * bd + (vAt V v).1) + m) (by omega)
    exact ⟨(k5 m hm).2.1.trans y1, y2⟩
  have e1 : xm 80 35 [.ref X, .long w, .int x, .long zz] h = _ := c_addM 78 h X σ0 V.length SX SS0 ν0 _ _ (fun v m => (vAt V v).2.2.1 m) (fun v m => ty (8 * (6 * bd + (vAt V v).1) + m)) SV0 _ w x zz W.1.1 rr.1 c0.1.1 c0.stOK (vk_ok W.2.2.1 b8 hV) htN (fun v m hv hm => (hV v _ (vAt_s hv)).2.2.2.2.1 m hm)
  have e2 : ∀ h, xm 80 144 [.ref M, .long w, .int x, .long zz] (oh 11 h M S) = _ := fun h => m_add 77 h M S w x zz cN mN _ (kNf V) bd V.length rT.1 (vl_ok (cN := cN) (ty := ty) b8 b6 b7 b60 bV) rT.2.1 (fun v m hv hm => by
    rw [kNf_at V v hm]
    exact (bV v _ (vAt_s hv)).2.2.2.2.2.2.2.1 m hm)
  rw [fnd_cg (ky_eq hV bV)] at e1
  cases hf : fnd (sL S 8) w V.length with
  | none =>
    have e3 := e2 h
    rw [hf] at e1 e3
    rw [show oh 11 h M S = h from B.1] at e3
    exact call_0 H e1 e3
  | some i =>
    have hi := (fnd_lt hf).1
    obtain ⟨a1, a2, a3, a4⟩ := hV i _ (vAt_s hi)
    have k2 := bV i _ (vAt_s hi)
    have m8 := k2.2.2.2.1
    obtain ⟨_, _, _, _, k5⟩ := W.2.2.1.2.1 bd (vAt V i).1 b8 a1
    rw [hf] at e1
    have e1 : xm 80 35 [.ref X, .long w, .int x, .long zz] h = if inR x 0 (nI (mN (6 * bd + (vAt V i).1)) - nI 1).toInt64 = true ∧ kRow (SK bd (vAt V i).1) x.toNatClampNeg = true then (if fitT (sA (SK bd (vAt V i).1) 2 x.toNatClampNeg) zz = true then (if (vAt V i).2.2.1 x.toNatClampNeg = 8 then some (some (.int (-nI 3)), h) else some (some (.int (nI ((vAt V i).2.2.1 x.toNatClampNeg + 1))), oh 9 h (ν0 i) (uL (uA (SV0 i) 0 x.toNatClampNeg (nI ((vAt V i).2.2.1 x.toNatClampNeg + 1))) 1 (8 * x.toNatClampNeg + (vAt V i).2.2.1 x.toNatClampNeg) zz))) else some (some (.int (-nI 1)), h)) else some (some (.int (-nI 2)), h) := e1
    have e2 : ∀ h, xm 80 144 [.ref M, .long w, .int x, .long zz] (oh 11 h M S) = if inR x 0 (nI (mN (6 * bd + (vAt V i).1)) - nI 1).toInt64 = true ∧ rw_ S (8 * (6 * bd + (vAt V i).1) + x.toNatClampNeg) = true then (if fitT (sA S 4 (8 * (6 * bd + (vAt V i).1) + x.toNatClampNeg)) zz = true then (if kNf V (8 * i + x.toNatClampNeg) = 8 then some (some (.int (-nI 3)), oh 11 h M S) else some (some (.int (nI (kNf V (8 * i + x.toNatClampNeg) + 1))), oh 11 h M (uA (uL S 11 (64 * i + 8 * x.toNatClampNeg + kNf V (8 * i + x.toNatClampNeg)) zz) 10 (8 * i + x.toNatClampNeg) (nI (kNf V (8 * i + x.toNatClampNeg) + 1))))) else some (some (.int (-nI 1)), oh 11 h M S)) else some (some (.int (-nI 2)), oh 11 h M S) := fun h => by
      have := e2 h
      rw [hf] at this
      exact this
    by_cases hx : inR x 0 (nI (mN (6 * bd + (vAt V i).1)) - nI 1).toInt64 = true
    · obtain ⟨m, hm, rfl⟩ := (inR_pred (by omega)).mp hx
      rw [k_cl (by omega)] at e1
      obtain ⟨j1, j2, j3⟩ := k5 m hm
      rw [j2, j3] at e1
      by_cases hc : inR (nI m) 0 (nI (mN (6 * bd + (vAt V i).1)) - nI 1).toInt64 = true ∧ rw_ S (8 * (6 * bd + (vAt V i).1) + m) = true
      · rw [if_pos hc] at e1
        by_cases hft : fitT (sA S 4 (8 * (6 * bd + (vAt V i).1) + m)) zz = true
        · rw [if_pos hft] at e1
          have k8 := (a4.2.1 m hm).2
          by_cases h8 : (vAt V i).2.2.1 m = 8
          · rw [if_pos h8] at e1
            have e3 := e2 h
            rw [k_cl (by omega), if_pos hc, if_pos hft, kNf_at V i (by omega), if_pos h8, show oh 11 h M S = h from B.1] at e3
            exact call_0 H e1 e3
          · rw [if_neg h8] at e1
            have e3 := e2 (oh 9 h (ν0 i) (uL (uA (SV0 i) 0 m (nI ((vAt V i).2.2.1 m + 1))) 1 (8 * m + (vAt V i).2.2.1 m) zz))
            rw [k_cl (by omega), if_pos hc, if_pos hft, kNf_at V i (by omega), if_neg h8] at e3
            have hty := rT.2.2 (8 * (6 * bd + (vAt V i).1) + m) (by
              have := a1
              omega)
            refine val_up (i := i) (m := m) (k0 := (vAt V i).2.2.1 m) (n' := (vAt V i).2.2.1 m + 1) (zz := zz) r B s1 s2 W rr gg c0 c1 c2 h1 hV hmt hC hP hT hE hR hi hm (Nat.lt_succ_self _) (by omega) (fun k hk hne => by omega) ?_ ((fr.rfl.uL (by decide)).uA (by decide)) (fun q => ?_) (fun q => ?_) ((fr.rfl.uA (by decide)).uL (by decide)) (fun q => ?_) (fun q => ?_) e1 e3
            · rw [hty.1] at hft
              exact wf_fit hty.2 hft
            · rw [sA_uA]
              by_cases c : q = 8 * i + m
              · rw [if_pos ⟨rfl, c⟩, if_pos c]
              · rw [if_neg (fun z => c z.2), if_neg c]
                rfl
            · show sL (uL S 11 (64 * i + 8 * m + (vAt V i).2.2.1 m) zz) 11 q = _
              rw [sL_uL]
              by_cases c : q = 64 * i + 8 * m + (vAt V i).2.2.1 m
              · rw [if_pos ⟨rfl, c⟩, if_pos c]
              · rw [if_neg (fun z => c z.2), if_neg c]
            · show sA (uA (SV0 i) 0 m (nI ((vAt V i).2.2.1 m + 1))) 0 q = _
              rw [sA_uA]
              by_cases c : q = m
              · rw [if_pos ⟨rfl, c⟩, if_pos c]
              · rw [if_neg (fun z => c z.2), if_neg c]
            · rw [sL_uL]
              by_cases c : q = 8 * m + (vAt V i).2.2.1 m
              · rw [if_pos ⟨rfl, c⟩, if_pos c]
              · rw [if_neg (fun z => c z.2), if_neg c]
                rfl
        · rw [if_neg hft] at e1
          have e3 := e2 h
          rw [k_cl (by omega), if_pos hc, if_neg hft, show oh 11 h M S = h from B.1] at e3
          exact call_0 H e1 e3
      · rw [if_neg hc] at e1
        have e3 := e2 h
        rw [k_cl (by omega), if_neg hc, show oh 11 h M S = h from B.1] at e3
        exact call_0 H e1 e3
    · rw [if_neg (fun z => hx z.1)] at e1
      have e3 := e2 h
      rw [if_neg (fun z => hx z.1), show oh 11 h M S = h from B.1] at e3
      exact call_0 H e1 e3
