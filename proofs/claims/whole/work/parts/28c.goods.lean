/-! Pure: RULES that stand are good for both sides. -/
theorem plF.C {fm : mS} {s : Nat} {Cp Cq C2 : List cT} {eo : kE} {vw : vW} {pl : Option (List aT) × Option Nat} (h : plF fm s Cp.length C2 eo pl) (hw : ∀ B, pl.1 = some B → 0 < B.length ∧ (∀ a, a ∈ B → actW eo a ∧ actV eo vw a) ∧ hOK 48 B 0 = some 1) : plC (Cp ++ (C2 ++ Cq)) fm eo vw s pl := by
  obtain ⟨o, p2⟩ := pl
  cases o with
  | none =>
    obtain ⟨h1, h2, h3⟩ := h
    exact ⟨h1, h2, fun _ => h3⟩
  | some B =>
    obtain ⟨pre, post, h1, h2, h3⟩ := h
    refine ⟨⟨Cp ++ pre, post ++ Cq, ?_, ?_, ?_⟩, hw B rfl⟩
    · rw [h1, List.append_assoc, List.append_assoc, List.append_assoc]
    · rw [h2, List.length_append]
    · rw [h3, List.length_append]
theorem hOK_pos {mx : Nat} {B : List aT} (h : hOK mx B 0 = some 1) : 0 < B.length := by
  cases B with
  | nil => cases h
  | cons a B => exact Nat.succ_pos _
theorem rAll.h {r : rT} (h : rAll r) (h2 : ¬ r.1 = 2) : hOK 48 r.2.2.2.2.2 0 = some 1 := h.2.2 h2 48 (by decide)
theorem rAll.v {S : gS} {mN ty : Nat → Nat} {a c : Nat} {vw : vW} {r : rT} (h : rAll r) (hv : vB1 S mN ty a (c, vw)) (hlt : ∀ w m, (eK S mN a c).1 w = some m → m < mN (6 * a + c)) (hw : ∀ x, x ∈ r.2.2.2.2.2 → actW (eK S mN a c) x ∧ (x.1 = nI 3 → ∀ m, (eK S mN a c).1 x.2.1 = some m → (eK S mN a c).2.1 m = false)) : ∀ x, x ∈ r.2.2.2.2.2 → actW (eK S mN a c) x ∧ actV (eK S mN a c) vw x := fun x hx =>
  ⟨(hw x hx).1, (h.1.2.2.2.1 x hx).2.1, fun h3 m hm => (hv m (hlt _ m hm)).2 ((hw x hx).2 h3 m hm)⟩
theorem gd_all {S : gS} {cN mN ty : Nat → Nat} {a b : Nat} {L : List mT} (hK : refT S cN mN ty) (hU : uqS S cN mN) (ha : a < 8) (hb : b < 8) (hG : txG S cN mN a b L) : gdZ (zK S cN mN ty a b L) (cN a) ∧ srO (zK S cN mN ty a b L) (cN a) := by
  have h6a := (hK.1.1 a ha).2
  have h6b := (hK.1.1 b hb).2
  refine ⟨fun c hc e R hD => ?_, fun c hc e R hD i hi => ?_⟩
  all_goals
    have hD : dOf (fC S cN b) L (sL S 1 (6 * a + c)) = some (some (e, R)) := hD
    have hm := mv_good (ty := ty) hU ha hG hc
    rw [hD] at hm
    obtain ⟨he, hA, Cp, Cq, m1, m2, m3⟩ := hm
    have he : e < cN b := he
    have ho := hU.nm hK ha (show c < 6 by omega)
    have hn := hU.nm hK hb (show e < 6 by omega)
  · refine ⟨by omega, fun r hr => ⟨fun hj => ?_, fun h2 hj => ⟨fun x hx => (gr_w ho m3 hr (hA r hr) h2 hj x hx).1, (hA r hr).2.2 h2⟩⟩, fun r hr h0 hj => ?_, fun m hm r hf hj => ?_⟩
    · obtain ⟨_, x, hx, _⟩ := (hA r hr).1.2.2.2.2 hj
      exact ⟨x, hx⟩
    · have := ((hA r hr).1.2.2.2.2 hj).1
      omega
    · exact (gr_row hn m3 hA hm hf).1 hj
  · have hi : i < mN (6 * b + e) := hi
    have m8 := hn.1
    have o8 := ho.1
    refine ⟨(hK.2.2 (8 * (6 * b + e) + i) (by omega)).2, fun o hp => ?_⟩
    obtain ⟨g1, g2⟩ := gr_src ho hn m3 hA hi hp
    exact ⟨g1, (hK.2.2 (8 * (6 * a + c) + o) (by omega)).2, g2⟩
theorem ds_all {S : gS} {cN mN ty : Nat → Nat} {a b : Nat} {L : List mT} (hK : refT S cN mN ty) (hU : uqS S cN mN) (ha : a < 8) (hb : b < 8) (hG : txG S cN mN a b L) (v : Nat × vW) (hc : v.1 < cN a) (hv : vB1 S mN ty a v) : dsC (cdK S cN mN a L) (pmK S cN mN a b L) (cN b) (zK S cN mN ty a b L) v.1 v.2 (zD (zK S cN mN ty a b L) v.1) := by
  have h6a := (hK.1.1 a ha).2
  have h6b := (hK.1.1 b hb).2
  have hm := mv_good (ty := ty) hU ha hG hc
  show dsC _ _ _ _ _ _ (dOf (fC S cN b) L (sL S 1 (6 * a + v.1)))
  cases hD : dOf (fC S cN b) L (sL S 1 (6 * a + v.1)) with
  | none =>
    rw [hD] at hm
    exact hm
  | some o =>
    cases o with
    | none =>
      rw [hD] at hm
      exact hm
    | some x =>
      rw [hD] at hm
      obtain ⟨he, hA, Cp, Cq, m1, m2, m3⟩ := hm
      have ho := hU.nm hK ha (show v.1 < 6 by omega)
      have hn := hU.nm hK hb (show x.1 < 6 by omega)
      have hlt : ∀ w m, (eK S mN a v.1).1 w = some m → m < mN (6 * a + v.1) := fun w m hw => (ho.2.2 w m hw).1
      have hv : vB1 S mN ty a (v.1, v.2) := hv
      have hR2 : ∀ r, r ∈ x.2 → r.1 ≤ 2 := fun r hr => (hA r hr).1.1
      refine ⟨he, _, m2, ?_, fun i hi => ?_, fun i o hi hp => (gr_src ho hn m3 hA hi hp).1, fun i hi hp => (gr_pl1 hn m3 hA hi hp).1, ?_⟩
      · rw [m1]
        have hpk := plan_k (eo := eK S mN a v.1) hn m3 (fun r hr => ⟨hR2 r hr, fun h0 => ⟨(hA r hr).2.1 h0, fun hj => by
          have := ((hA r hr).1.2.2.2.2 hj).1
          omega⟩⟩)
        cases hq : plK x.2 with
        | none => exact ⟨(hpk.2 hq).1, (hpk.2 hq).2, fun h8 => absurd h8 (by decide)⟩
        | some B =>
          obtain ⟨pre, post, y1, y2, y3⟩ := hpk.1 B hq
          have hf : ∃ r, r ∈ x.2 ∧ r.1 = 0 ∧ r.2.2.2.2.2 = B := by
            unfold plK at hq
            cases hr : x.2.find? (isR 0 0) with
            | none => rw [hr] at hq; cases hq
            | some r =>
              rw [hr] at hq
              cases hq
              have := List.find?_some hr
              unfold isR at this
              rw [Bool.and_eq_true, decide_eq_true_eq] at this
              exact ⟨r, List.mem_of_find?_eq_some hr, this.1, rfl⟩
          obtain ⟨r, hr, h0, hB⟩ := hf
          subst hB
          have h2 : ¬ r.1 = 2 := by omega
          have hj : ¬ r.2.2.2.2.1 = true := fun hj => by
            have := ((hA r hr).1.2.2.2.2 hj).1
            omega
          refine ⟨⟨Cp ++ pre, post ++ Cq, ?_, ?_, ?_⟩, hOK_pos ((hA r hr).h h2), (hA r hr).v hv hlt (gr_w ho m3 hr (hA r hr) h2 hj), (hA r hr).h h2⟩
          · rw [y1, List.append_assoc, List.append_assoc, List.append_assoc]
            rfl
          · rw [y2, List.length_append]
          · rw [y3, List.length_append]
      · rw [m1]
        have hi : i < mN (6 * b + x.1) := hi
        refine (plan_i (no := fun i => sL S 3 (8 * (6 * a + v.1) + i)) (nO := mN (6 * a + v.1)) ho hn m3 hR2 hi).C (fun B hB => ?_)
        obtain ⟨_, r, hr, h2, hj, e⟩ := gr_pl1 hn m3 hA hi (by rw [hB]; exact fun z => by cases z)
        have e2 : r.2.2.2.2.2 = B := Option.some.inj (e.symm.trans hB)
        subst e2
        exact ⟨hOK_pos ((hA r hr).h h2), (hA r hr).v hv hlt (gr_w ho m3 hr (hA r hr) h2 hj), (hA r hr).h h2⟩
      · refine cl_ls _ _ (fun o _ h2 => ?_)
        have h2 : o < 0 + mN (6 * a + v.1) := h2
        have hk := kept_s (en := eK S mN b x.1) (nm := fun i => sL S 3 (8 * (6 * b + x.1) + i)) ho hn m3 (fun r hr => ⟨hR2 r hr, fun y hy => ((hA r hr).1.2.2.2.1 y hy).1, (hA r hr).1.2.2.2.2⟩) (show o < mN (6 * a + v.1) by omega)
        unfold lsB
        rw [hk, Bool.not_not, Bool.and_comm]
        rfl
