/-! Calls of both: value. -/
theorem shF_rv (w : Int64) : ∀ (v : Nat) (S : gS), (shF w v S).2 = insF (sL S 8) w v ∧ fr vlP S (shF w v S).1 ∧ ∀ q, rvS (shF w v S).1 q = if insF (sL S 8) w v < q ∧ q ≤ v then rvS S (q - 1) else rvS S q
  | 0, S => ⟨rfl, fr.rfl, fun q => by
    rw [if_neg (by omega)]
    rfl⟩
  | v + 1, S => by
    rw [shF_s, insF_s]
    by_cases c : w < sL S 8 v
    · rw [if_pos c, if_pos c]
      obtain ⟨i1, i2, i3⟩ := shF_rv w v (cpV S v (v + 1) 64)
      have e8 : ∀ i, i < v → sL (cpV S v (v + 1) 64) 8 i = sL S 8 i := fun i hi => by
        have := cpV_rv S (v := v) (t := v + 1) (by omega) i
        rw [if_neg (by omega)] at this
        exact (Prod.mk.inj this).1
      have ei : insF (sL (cpV S v (v + 1) 64) 8) w v = insF (sL S 8) w v := insF_ex v e8
      rw [ei] at i1 i3
      have hp := insF_le (sL S 8) w v
      refine ⟨i1, (cpV_fr S v (v + 1)).trans i2, fun q => ?_⟩
      rw [i3 q, cpV_rv S (by omega), cpV_rv S (by omega)]
      by_cases c1 : insF (sL S 8) w v < q ∧ q ≤ v
      · rw [if_pos c1, if_neg (by omega), if_pos (by omega)]
      · rw [if_neg c1]
        by_cases c2 : q = v + 1
        · rw [if_pos c2, if_pos (by omega), c2, Nat.add_sub_cancel]
        · rw [if_neg c2, if_neg (by omega)]
    · rw [if_neg c, if_neg c]
      exact ⟨rfl, fr.rfl, fun q => by rw [if_neg (by omega)]⟩
theorem clS_fr (S : gS) (v b c n : Nat) : fr vlP S (clS S v b c n 8 64) := by
  unfold clS
  intro k hk
  unfold vlP at hk
  simp only [Bool.or_eq_false_iff, decide_eq_false_iff_not] at hk
  refine ⟨rfl, rfl, ?_, ?_, rfl, rfl⟩
  · funext q
    show sA (rA (uA S 9 v (nI c)) 10 _) k q = _
    rw [sA_rA, if_neg (by omega), sA_uA, if_neg (by omega)]
  · funext q
    show sL (rL _ 11 _) k q = _
    rw [sL_rL, if_neg (by omega)]
    rfl
theorem clS_rv (S : gS) {v b c n q : Nat} (hq : q ≠ v) : rvS (clS S v b c n 8 64) q = rvS S q := by
  unfold rvS clS
  have e8 : sL (rL (rA (uA S 9 v (nI c)) 10 (fillF (sA S 10) (c0F S b c n) (8 * v) 8)) 11 (fillF (sL S 11) (fun _ => 0) (64 * v) 64)) 8 q = sL S 8 q := by
    rw [sL_rL, if_neg (by decide)]
    rfl
  have e9 : sA (rL (rA (uA S 9 v (nI c)) 10 (fillF (sA S 10) (c0F S b c n) (8 * v) 8)) 11 (fillF (sL S 11) (fun _ => 0) (64 * v) 64)) 9 q = sA S 9 q := by
    rw [sA_rL, sA_rA, if_neg (by decide), sA_uA, if_neg (fun z => hq z.2)]
  rw [e8, e9]
  congr 1
  congr 1
  congr 1
  · funext i
    by_cases c8 : i < 8
    · rw [if_pos c8, if_pos c8]
      rw [sA_rL, sA_rA, if_pos rfl, fillF_out _ _ (by omega)]
    · rw [if_neg c8, if_neg c8]
  · funext i
    by_cases c8 : i < 64
    · rw [if_pos c8, if_pos c8, sL_rL, if_pos rfl, fillF_out _ _ (by omega)]
    · rw [if_neg c8, if_neg c8]
theorem uL8_rv (S : gS) {v q : Nat} {w : Int64} (hq : q ≠ v) : rvS (uL S 8 v w) q = rvS S q := by
  unfold rvS
  have e8 : sL (uL S 8 v w) 8 q = sL S 8 q := by rw [sL_uL, if_neg (fun z => hq z.2)]
  have e11 : sL (uL S 8 v w) 11 = sL S 11 := sL_uL_ne _ _ _ (by decide)
  rw [e8, e11]
  rfl
/-- the reference behind value -/
theorem putV_ok (S : gS) (w : Int64) {bd c n m : Nat} : fr (fun k => vlP k || decide (k = 7)) S (putV S w bd c n m) ∧ sA (putV S w bd c n m) 7 0 = nI (n + 1) ∧ (∀ q, q ≠ insF (sL S 8) w n → rvS (putV S w bd c n m) q = if insF (sL S 8) w n < q ∧ q ≤ n then rvS S (q - 1) else rvS S q) ∧ sA (putV S w bd c n m) 9 (insF (sL S 8) w n) = nI c ∧ sL (putV S w bd c n m) 8 (insF (sL S 8) w n) = w ∧ (∀ i, i < 8 → sA (putV S w bd c n m) 10 (8 * insF (sL S 8) w n + i) = if i < m ∧ rw_ S (8 * (6 * bd + c) + i) = false then nI 1 else nI 0) ∧ ∀ i, i < 64 → sL (putV S w bd c n m) 11 (64 * insF (sL S 8) w n + i) = 0 := by
  obtain ⟨h1, h2, h3⟩ := shF_rv w n S
  unfold putV
  rw [h1]
  generalize hp : insF (sL S 8) w n = p at *
  generalize (shF w n S).1 = S1 at *
  have r1 : fr vlP S1 (uL S1 8 p w) := fr.rfl.uL (by decide)
  have fR : fr vlP S (clS (uL S1 8 p w) p bd c m 8 64) := (h2.trans r1).trans (clS_fr _ _ _ _ _)
  have rwe : ∀ q, rw_ (uL S1 8 p w) q = rw_ S q := fun q => by
    show rw_ S1 q = _
    unfold rw_
    rw [(h2 5 rfl).2.2.1]
  refine ⟨(fR.mono (fun k hk => ?_)).uA (by decide), ?_, fun q hq => ?_, ?_, ?_, fun i hi => ?_, fun i hi => ?_⟩
  · rw [Bool.or_eq_false_iff] at hk
    exact hk.1
  · rw [sA_uA, if_pos ⟨rfl, rfl⟩]
  · rw [rvS_fr (P := fun k => decide (k = 7)) (fr.rfl.uA (by decide)) rfl rfl rfl rfl, clS_rv _ hq, uL8_rv _ hq]
    exact h3 q
  · rw [sA_uA_ne _ _ _ (by decide)]
    unfold clS
    rw [sA_rL, sA_rA, if_neg (by decide), sA_uA, if_pos ⟨rfl, rfl⟩]
  · show sL (clS (uL S1 8 p w) p bd c m 8 64) 8 p = w
    unfold clS
    rw [sL_rL, if_neg (by decide)]
    show sL (uL S1 8 p w) 8 p = w
    rw [sL_uL, if_pos ⟨rfl, rfl⟩]
  · rw [sA_uA_ne _ _ _ (by decide)]
    unfold clS
    rw [sA_rL, sA_rA, if_pos rfl, fillF_in _ _ hi]
    unfold c0F
    rw [rwe]
  · show sL (clS (uL S1 8 p w) p bd c m 8 64) 11 _ = 0
    unfold clS
    rw [sL_rL, if_pos rfl, fillF_in _ _ hi]
def insV (V : vL) (p : Nat) (v : Nat × vW) : vL := V.take p ++ v :: V.drop p
theorem insV_at (V : vL) {p : Nat} (hp : p ≤ V.length) (v : Nat × vW) (i : Nat) : (insV V p v)[i]? = if i < p then V[i]? else if i = p then some v else V[i - 1]? := by
  unfold insV
  have hl : (V.take p).length = p := by rw [List.length_take]; omega
  by_cases c1 : i < p
  · rw [if_pos c1, List.getElem?_append_left (by omega), List.getElem?_take_of_lt c1]
  · rw [if_neg c1, List.getElem?_append_right (by omega), hl]
    by_cases c2 : i = p
    · rw [if_pos c2, c2, Nat.sub_self]
      rfl
    · rw [if_neg c2, show i - p = (i - p - 1) + 1 by omega, List.getElem?_cons_succ, List.getElem?_drop]
      congr 1
      omega
theorem insV_len (V : vL) {p : Nat} (hp : p ≤ V.length) (v : Nat × vW) : (insV V p v).length = V.length + 1 := by
  unfold insV
  rw [List.length_append, List.length_cons, List.length_take, List.length_drop]
  omega
theorem insV_mem {V : vL} {p : Nat} {v u : Nat × vW} (h : u ∈ insV V p v) : u = v ∨ u ∈ V := by
  unfold insV at h
  rcases List.mem_append.mp h with q | q
  · exact Or.inr (List.mem_of_mem_take q)
  · rcases List.mem_cons.mp q with q | q
    · exact Or.inl q
    · exact Or.inr (List.mem_of_mem_drop q)
theorem call_value {X M b E1 E2 : Nat} {h : xH} (H : INV X M b E1 E2 h) (w : Int64) (x : Int32) : CALL X M b E1 E2 h 23 135 [.long w, .int x] := by
  obtain ⟨G, S, cN, mN, ty, Lf, bd, V, z, dr, C, r, B, s1, s2⟩ := id H
  obtain ⟨SX, Kc, R, Q, P, κ0, SC, T, SQ, SP, SK0, β, SB, κ, SK, mt, W, h3, hC, hP, hT, hE, hR⟩ := C
  obtain ⟨σ0, σ1, σ2, g0, g1, g2, SS0, SS1, SS2, n1, n2, m0, m1, m2, ν0, ν1, ν2, SV0, SV1, SV2, ⟨r5, r6, r7⟩, ⟨q0, q1, q2, q01, q02, q12⟩, c0, c1, c2, h1, hV, hmt⟩ := id h3
  obtain ⟨rT, rU, rH, rR, ⟨b8, b6, b7, b60, bV, bB⟩, z1, z2, d1⟩ := id r
  obtain ⟨t1, t2, t3, t4⟩ := hT
  have h6 := (rT.1.1 bd b8).2
  obtain ⟨f1, f2, f3, f4⟩ := W.2.2.1.1 bd b8
  have hbo := W.2.2.1.bOK rT.1 b8
  have e2 : ∀ h, xm 80 135 [.ref M, .long w, .int x] (oh 11 h M S) = _ := fun h => m_value 77 h M S w x cN mN bd V.length rT.1 rT.2.1 b6 b8 b7 b60
  have kq : fnd (fun i => sJ (SV0 i) 2) w V.length = fnd (sL S 8) w V.length := fnd_cg (ky_eq hV bV)
  cases hx : inR x 0 (nI (cN bd) - nI 1).toInt64 with
  | false =>
    have e1 : xm 80 23 [.ref X, .long w, .int x] h = _ := c_value_no 78 h X σ0 V.length bd (cN bd) SX SS0 (SB bd) ν0 β (κ bd) SV0 (SK bd) w x W.1.1 r5 c0.1.1 h1 b8 f1 f2.1 hbo c0.stOK (Or.inl hx)
    have e3 := e2 h
    rw [hx, if_neg (show ¬ (false = true) by decide), show oh 11 h M S = h from B.1] at e3
    rw [hx, if_pos (show false = false from rfl)] at e1
    exact call_0 H e1 e3
  | true =>
    cases hf : fnd (sL S 8) w V.length with
    | some i =>
      have e1 : xm 80 23 [.ref X, .long w, .int x] h = _ := c_value_no 78 h X σ0 V.length bd (cN bd) SX SS0 (SB bd) ν0 β (κ bd) SV0 (SK bd) w x W.1.1 r5 c0.1.1 h1 b8 f1 f2.1 hbo c0.stOK (Or.inr ⟨hx, i, kq.trans hf⟩)
      have e3 := e2 h
      rw [hx, if_pos (show true = true from rfl), hf, if_neg (fun z => by cases z), show oh 11 h M S = h from B.1] at e3
      rw [hx, if_neg (fun z => by cases z)] at e1
      exact call_0 H e1 e3
    | none =>
      obtain ⟨q, hq, rfl⟩ := (inR_pred (by omega)).mp hx
      by_cases c60 : V.length = 60
      · have e1 : xm 80 23 [.ref X, .long w, .int (nI q)] h = _ := c_value_full 78 h X σ0 bd (cN bd) q SX SS0 (SB bd) ν0 β (κ bd) SV0 (SK bd) w W.1.1 r5 c0.1.1 h1 b8 f1 f2.1 hbo (by rw [← c60]; exact c0.stOK) hq (by rw [← c60]; exact kq.trans hf)
        have e3 := e2 h
        rw [hx, if_pos (show true = true from rfl), hf, if_pos rfl, if_pos c60, show oh 11 h M S = h from B.1] at e3
        exact call_0 H e1 e3
      · obtain ⟨j1, j2, j3, j4, j5⟩ := W.2.2.1.2.1 bd q b8 hq
        obtain ⟨G', h', SS', m', f, SF, i1, i2, i3, i4, i5, i6, i7, i8⟩ := c_insertG 76 w (nI q) c0 (by omega) j2 j3 (by omega)
        have hn : h.2.2.1 ≤ h'.2.2.1 := by rcases i8 with ⟨_, _, z, _⟩ | ⟨_, _, z, _⟩ <;> omega
        have k1 : ∀ q, q < h.2.2.1 → (G q).1 ≠ g0 → h'.1 q = h.1 q := fun q hq hne => i6 q hq (fun e => hne (by rw [e])) (fun i _ e => hne (by rw [e]))
        have k0' : ∀ q u, q < h.2.2.1 → G q = (0, u) → h'.1 q = h.1 q := fun q u hq e => k1 q hq (by rw [e]; show 0 ≠ g0; omega)
        have H8' : hB G' 0 8 h' X SX := W.1.keep (by decide) i5 (fun q hq e => k0' q _ hq e) hn
        have e1 : xm 80 23 [.ref X, .long w, .int (nI q)] h = some (some (.int (nI (V.length + 1))), h') := c_value_in 76 h h' X σ0 V.length bd (cN bd) q f SX SS0 SS' (SB bd) ν0 β (κ bd) SV0 (SK bd) w W.1.1 r5 c0.1.1 h1 b8 f1 f2.1 hbo c0.stOK hq (kq.trans hf) i1 H8'.1 i2.1.1 i2.2.1
        have e3 := e2 h'
        rw [hx, if_pos (show true = true from rfl), hf, if_pos rfl, if_neg c60, k_cl (by omega)] at e3
        have q6 : q < 6 := by omega
        have m8 := (rT.1.2 bd q b8 q6).2
        obtain ⟨v1, v2, v3, v4, v5, v6, v7⟩ := putV_ok S w (bd := bd) (c := q) (n := V.length) (m := mN (6 * bd + q))
        generalize hSS : putV S w bd q V.length (mN (6 * bd + q)) = S' at *
        have ep : insF (fun i => sJ (SV0 i) 2) w V.length = insF (sL S 8) w V.length := insF_ex _ (ky_eq hV bV)
        rw [ep] at i2
        have hp := insF_le (sL S 8) w V.length
        generalize hpp : insF (sL S 8) w V.length = p at *
        have kP : kRu (fun k => vlP k || decide (k = 7)) := ⟨⟨rfl, rfl, rfl, rfl, rfl, rfl⟩, rfl, rfl, rfl⟩
        have el := insV_len V hp (q, nv0 w (mN (6 * bd + q)) (fun i => rw_ S (8 * (6 * bd + q) + i)))
        rw [← el] at i2
        have e2S : sA S' 2 = sA S 2 := (v1 2 rfl).2.2.1
        refine call_1 (G' := G') (S' := S') (cN := cN) (mN := mN) (Lf := Lf) (ty := ty) (dr := dr) (z := z) (bd := bd) (V := insV V p (q, nv0 w (mN (6 * bd + q)) (fun i => rw_ S (8 * (6 * bd + q) + i)))) B s1 s2 e1 e3 i5 (fun q hq h6 => k1 q hq (by omega)) hn ⟨SX, Kc, R, Q, P, κ0, SC, T, SQ, SP, SK0, β, SB, κ, SK, m' + m1 + m2, ⟨H8', W.2.1, (W.2.2.1.S v1 kP.1 rfl).keep i5 (fun q hq e => k1 q hq (by omega)) hn, (W.2.2.2.S v1 kP rfl).keep i5 (fun q hq e => k1 q hq (by omega)) hn⟩, ⟨σ0, σ1, σ2, g0, g1, g2, SS', SS1, SS2, n1, n2, m', m1, m2, _, ν1, ν2, _, SV1, SV2, ⟨r5, r6, r7⟩, ⟨q0, q1, q2, q01, q02, q12⟩, i2, c1.keep i5 (fun q hq e => k1 q hq (by omega)) hn, c2.keep i5 (fun q hq e => k1 q hq (by omega)) hn, i4.trans h1, fun j u hj => ?_, rfl⟩, hC.keep i5 (fun q hq hc => hc.elim (fun e => k0' q _ hq e) (fun e => k0' q _ hq e)) hn, hP.keep i5 (fun q hq hc => hc.elim (fun e => k0' q _ hq e) (fun hc => hc.elim (fun e => k0' q _ hq e) (fun e => k0' q _ hq e))) hn rfl, ⟨t1, ?_, ?_, t4⟩, hE.fr v1 (fun k h1 h2 => by
          unfold vlP
          simp only [Bool.or_eq_false_iff, decide_eq_false_iff_not]
          omega), ?_⟩ ⟨rT.fr v1 rfl rfl rfl rfl, rU.fr v1 kP.1, rH.fr v1 rfl, fun x y hx hy hh => ?_, ⟨b8, ((v1 6 rfl).1).trans b6, ?_, by rw [el]; omega, fun j u hj => ?_, fun u hu => ?_⟩, ((v1 16 rfl).1).trans z1, z2, ((v1 17 rfl).1).trans d1⟩
        · rw [insV_at V hp] at hj
          unfold insG
          by_cases a1 : j < p
          · rw [if_pos a1] at hj ⊢
            exact hV j u hj
          · rw [if_neg a1] at hj ⊢
            by_cases a2 : j = p
            · rw [if_pos a2] at hj ⊢
              cases hj
              refine ⟨hq, i3.2.2.1, i3.2.2.2.1, ?_⟩
              have fw := nv0_f (rn := fun i => rw_ S (8 * (6 * bd + q) + i)) i3 m8 (fun i hi => (j5 i hi).2.2.symm) 0
              exact fwV.ck ⟨fun m hm => fw.1 m hm, fun m k hm hk => fw.2 m k hm hk⟩ i3.1 m8
            · rw [if_neg a2] at hj ⊢
              have hl := get_lt hj
              rw [if_pos (by omega)]
              exact hV (j - 1) u hj
        · rw [(v1 15 rfl).2.2.1]
          exact t2
        · rw [hz_fr v1 rfl]
          exact t3
        · have b0 := i2.2.2.2.1
          have b1 := c1.2.2.2.1
          have b2 := c2.2.2.2.1
          unfold rmW at hR ⊢
          rcases i8 with ⟨y1, y2, y3, y4⟩ | ⟨y1, y2, y3, y4⟩ <;> omega
        · rw [hz_fr v1 rfl] at hh
          exact (rR x y hx hy hh).fr v1 kP
        · rw [el]
          exact v2
        · rw [insV_at V hp] at hj
          by_cases a1 : j < p
          · rw [if_pos a1] at hj
            have hl := get_lt hj
            refine (bV j u hj).mv ?_ e2S (by omega)
            rw [v3 j (by omega), if_neg (by omega)]
          · rw [if_neg a1] at hj
            by_cases a2 : j = p
            · rw [if_pos a2] at hj
              cases hj
              subst a2
              refine ⟨b8, q6, ?_, m8, by omega, v4, v5, fun m hm => ?_, fun m k hm hk => ?_⟩
              · rw [e2S]
                exact (rT.1.2 bd q b8 q6).1
              · rw [v6 m hm]
                show (if m < mN (6 * bd + q) ∧ rw_ S (8 * (6 * bd + q) + m) = false then nI 1 else nI 0) = nI (if m < mN (6 * bd + q) ∧ rw_ S (8 * (6 * bd + q) + m) = false then 1 else 0) ∧ (if m < mN (6 * bd + q) ∧ rw_ S (8 * (6 * bd + q) + m) = false then 1 else 0) ≤ 8
                split
                · exact ⟨rfl, by omega⟩
                · exact ⟨rfl, by omega⟩
              · have := v7 (8 * m + k) (by omega)
                rw [← Nat.add_assoc] at this
                exact this
            · rw [if_neg a2] at hj
              have hl := get_lt hj
              refine (bV (j - 1) u hj).mv ?_ e2S (by omega)
              rw [v3 j (by omega), if_pos (by omega)]
        · rcases insV_mem hu with e | e
          · subst e
            refine ⟨hq, fun o ho => ⟨fun k _ => wf_0, fun hr => ?_⟩⟩
            rw [rw_id v1 kP.1] at hr
            show 0 < (if o < mN (6 * bd + q) ∧ rw_ S (8 * (6 * bd + q) + o) = false then 1 else 0)
            rw [if_pos ⟨ho, hr⟩]
            exact Nat.one_pos
          · obtain ⟨u1, u2⟩ := bB u e
            refine ⟨u1, fun o ho => ?_⟩
            rw [rw_id v1 kP.1]
            exact u2 o ho
