/-! Pure: VALUES as they should be stay so in a step. -/
/-- a new VALUE as it should be -/
def vO2 (z : sE) (e : Nat) (w : vW) : Prop := ∀ o, o < zm2 z e → (∀ k, k < w.2.1 o → wfT (zt2 z e o) (w.2.2 o k)) ∧ ((zE2 z e).2.1 o = false → 0 < w.2.1 o)
/-- where MEMBERS come from: there is such a one, of its kind -/
def srO (z : sE) (n1 : Nat) : Prop := ∀ c, c < n1 → ∀ e R, zD z c = some (some (e, R)) → ∀ i, i < zm2 z e → zt2 z e i ≤ 7 ∧ ∀ o, (plR (zE1 z c) ((zE2 z e).2.1 i) R (zn2 z e i)).2 = some o → o < zm1 z c ∧ zt1 z c o ≤ 7 ∧ (zE1 z c).2.1 o = (zE2 z e).2.1 i
theorem cpQ_k {vw : vW} {ty : Nat → Nat} {t o : Nat} : ∀ (k i : Nat), cpQ vw ty t o k i = true → ∀ j, i ≤ j → j < i + k → ftC (vw.2.2 o j) (ty o) t = true
  | 0, i, h, j, h1, h2 => by omega
  | k + 1, i, h, j, h1, h2 => by
    have h : (ftC (vw.2.2 o i) (ty o) t && cpQ vw ty t o k (i + 1)) = true := h
    rw [Bool.and_eq_true] at h
    by_cases c : j = i
    · subst c
      exact h.1
    · exact cpQ_k k (i + 1) h.2 j (by omega) (by omega)
theorem wf5 (x : Int64) : wfT 5 x := by
  unfold wfT
  rw [if_pos (by decide)]
  rfl
theorem fiM_w {e : kE} {vw : vW} {ty : Nat → Nat} {t : Nat} {pl : Option (List aT) × Option Nat} {x : Nat × (Nat → Int64)} (h : fiM e vw ty t pl = .inr (some x)) (ht : t ≤ 7) (hs : ∀ o, pl.2 = some o → ty o ≤ 7 ∧ ∀ k, k < vw.2.1 o → wfT (ty o) (vw.2.2 o k)) : (∀ k, k < x.1 → wfT t (x.2 k)) ∧ ((∀ o, pl.2 = some o → 0 < vw.2.1 o) → 0 < x.1) := by
  unfold fiM at h
  split at h
  · unfold fiW at h
    split at h
    · cases h
    · split at h
      · rename_i hf
        cases h
        exact ⟨fun k _ => tnC_wf (by decide) ht (wf5 _) hf, fun _ => by show 0 < 1; omega⟩
      · cases h
  · cases hp : pl.2 with
    | none =>
      rw [hp] at h
      cases h
    | some o =>
      rw [hp] at h
      have h : (if cpQ vw ty t o (vw.2.1 o) 0 = true then Sum.inr (some (vw.2.1 o, fun k => tnC (vw.2.2 o k) (ty o) t)) else Sum.inl 1) = Sum.inr (some x) := h
      split at h
      · rename_i hc
        cases h
        obtain ⟨h7, hw⟩ := hs o hp
        exact ⟨fun k hk => tnC_wf h7 ht (hw k hk) (cpQ_k _ 0 hc k (Nat.zero_le _) (by omega)), fun hz => hz o rfl⟩
      · cases h
theorem nvS_w {g : Nat → Nat ⊕ Option (Nat × (Nat → Int64))} {tn : Nat → Nat} {rn : Nat → Bool} {nN : Nat} (hg : ∀ i x, i < nN → g i = .inr (some x) → (∀ k, k < x.1 → wfT (tn i) (x.2 k)) ∧ (rn i = false → 0 < x.1)) : ∀ (k i : Nat) (w w' : vW), i + k = nN → nvS g k i w = .inr w' → (∀ o, o < nN → (∀ k, k < w.2.1 o → wfT (tn o) (w.2.2 o k)) ∧ (rn o = false → 0 < w.2.1 o)) → w'.1 = w.1 ∧ ∀ o, o < nN → (∀ k, k < w'.2.1 o → wfT (tn o) (w'.2.2 o k)) ∧ (rn o = false → 0 < w'.2.1 o)
  | 0, i, w, w', hi, h, hw => by
    have h : Sum.inr w = Sum.inr w' := h
    cases h
    exact ⟨rfl, hw⟩
  | k + 1, i, w, w', hi, h, hw => by
    have h : (match g i with
      | .inl q => .inl (q, i)
      | .inr none => nvS g k (i + 1) w
      | .inr (some x) => nvS g k (i + 1) (nvU w i x)) = Sum.inr w' := h
    split at h
    · cases h
    · exact nvS_w hg k (i + 1) w w' (by omega) h hw
    · rename_i x hx
      obtain ⟨g1, g2⟩ := hg i x (by omega) hx
      obtain ⟨a1, a2⟩ := nvS_w hg k (i + 1) (nvU w i x) w' (by omega) h (fun o ho => by
        have e1 : (nvU w i x).2.1 o = if o = i then x.1 else w.2.1 o := rfl
        have e2 : ∀ k, (nvU w i x).2.2 o k = if o = i ∧ k < x.1 then x.2 k else w.2.2 o k := fun k => rfl
        rw [e1]
        by_cases c : o = i
        · rw [if_pos c]
          refine ⟨fun k hk => ?_, fun hr => g2 (by rw [← c]; exact hr)⟩
          rw [e2, if_pos ⟨c, hk⟩, c]
          exact g1 k hk
        · rw [if_neg c]
          refine ⟨fun k hk => ?_, (hw o ho).2⟩
          rw [e2, if_neg (fun q => c q.1)]
          exact (hw o ho).1 k hk)
      exact ⟨a1, a2⟩
theorem cvS_w {z : sE} {n1 c e : Nat} {vw w : vW} {R : List rT} (hs : srO z n1) (hc : c < n1) (hD : zD z c = some (some (e, R))) (hv : vOK z (c, vw)) (h : cvS z c vw e R = .inr w) : vO2 z e w := by
  have hso := hs c hc e R hD
  unfold cvS cvR at h
  split at h
  · cases h
  · rename_i x hx
    split at h
    · cases h
    · rename_i w2 hw
      cases h
      refine (nvS_w (tn := zt2 z e) (rn := (zE2 z e).2.1) (fun i y hi hy => ?_) _ 0 _ w (by omega) hw (fun o ho => ?_)).2
      · obtain ⟨t7, so⟩ := hso i hi
        have hy : fiM (zE1 z c) vw (zt1 z c) (zt2 z e i) (plR (zE1 z c) ((zE2 z e).2.1 i) R (zn2 z e i)) = .inr (some y) := hy
        obtain ⟨b1, b2⟩ := fiM_w hy t7 (fun o ho => ⟨(so o ho).2.1, (hv o (so o ho).1).1⟩)
        refine ⟨b1, fun hr => b2 (fun o ho => (hv o (so o ho).1).2 ?_)⟩
        rw [(so o ho).2.2]
        exact hr
      · have e1 : (nv0 x (zm2 z e) (zE2 z e).2.1).2.1 o = if o < zm2 z e ∧ (zE2 z e).2.1 o = false then 1 else 0 := rfl
        rw [e1]
        refine ⟨fun k _ => wf_0, fun hr => ?_⟩
        rw [if_pos ⟨ho, hr⟩]
        exact Nat.one_pos
theorem stF_w {z : sE} {dr : Bool} {n1 n2 : Nat} (hs : srO z n1) (h2 : ∀ c, c < n1 → ∀ e R, zD z c = some (some (e, R)) → e < n2) : ∀ (V : List (Nat × vW)) (r : List aX × Nat × Nat), (∀ v, v ∈ V → v.1 < n1 ∧ vOK z v) → stF z dr V = .inr r → ∀ x, x ∈ r.1 → x.2.2.1 < n2 ∧ vO2 z x.2.2.1 x.2.2.2
  | [], r, hV, h, x, hx => by
    have h : Sum.inr ([], 0, 0) = Sum.inr r := h
    cases h
    exact absurd hx List.not_mem_nil
  | v :: V, r, hV, h, x, hx => by
    have hv := hV v List.mem_cons_self
    have hV' : ∀ u, u ∈ V → u.1 < n1 ∧ vOK z u := fun u hu => hV u (List.mem_cons_of_mem _ hu)
    have h : (match oneV z dr v.1 v.2 with
      | .inl q => .inl (q.1, some v.1, q.2, v.2.1, 0)
      | .inr none => stD (stF z dr V)
      | .inr (some u) => stC (u.1.2.1, v.2.1, u.1.1, u.1.2) u.2 (stF z dr V)) = Sum.inr r := h
    split at h
    · cases h
    · cases hq : stF z dr V with
      | inl q => rw [hq] at h; cases h
      | inr r2 =>
        rw [hq] at h
        cases h
        exact stF_w hs h2 V r2 hV' hq x hx
    · rename_i u hu
      cases hq : stF z dr V with
      | inl q => rw [hq] at h; cases h
      | inr r2 =>
        rw [hq] at h
        cases h
        rcases List.mem_cons.mp hx with e | e
        · subst e
          unfold oneV at hu
          split at hu
          · split at hu <;> cases hu
          · cases hu
          · rename_i eL hD
            split at hu
            · cases hu
            · rename_i w hw
              cases hu
              exact ⟨h2 v.1 hv.1 eL.1 eL.2 hD, cvS_w hs hv.1 hD hv.2 hw⟩
        · exact stF_w hs h2 V r2 hV' hq x e
theorem stF_l {z : sE} {dr : Bool} {n1 : Nat} (h8 : ∀ c, c < n1 → zm1 z c ≤ 8) : ∀ (V : List (Nat × vW)) (r : List aX × Nat × Nat), (∀ v, v ∈ V → v.1 < n1) → stF z dr V = .inr r → r.2.1 ≤ 8 * V.length
  | [], r, hV, h => by
    have h : Sum.inr ([], 0, 0) = Sum.inr r := h
    cases h
    exact Nat.le_refl _
  | v :: V, r, hV, h => by
    have hV' : ∀ u, u ∈ V → u.1 < n1 := fun u hu => hV u (List.mem_cons_of_mem _ hu)
    have h : (match oneV z dr v.1 v.2 with
      | .inl q => .inl (q.1, some v.1, q.2, v.2.1, 0)
      | .inr none => stD (stF z dr V)
      | .inr (some u) => stC (u.1.2.1, v.2.1, u.1.1, u.1.2) u.2 (stF z dr V)) = Sum.inr r := h
    rw [List.length_cons]
    split at h
    · cases h
    · cases hq : stF z dr V with
      | inl q => rw [hq] at h; cases h
      | inr r2 =>
        rw [hq] at h
        cases h
        have := stF_l h8 V r2 hV' hq
        show r2.2.1 ≤ _
        omega
    · rename_i u hu
      cases hq : stF z dr V with
      | inl q => rw [hq] at h; cases h
      | inr r2 =>
        rw [hq] at h
        cases h
        have := stF_l h8 V r2 hV' hq
        have hl : u.2 ≤ 8 := by
          unfold oneV at hu
          split at hu
          · split at hu <;> cases hu
          · cases hu
          · split at hu
            · cases hu
            · cases hu
              exact Nat.le_trans (lsN_le _ _ _ _ _ _ _ _) (h8 v.1 (hV v List.mem_cons_self))
        show u.2 + r2.2.1 ≤ _
        omega
theorem stZ_w {z : sE} {dr : Bool} {n1 n2 : Nat} (hs : srO z n1) (h2 : ∀ c, c < n1 → ∀ e R, zD z c = some (some (e, R)) → e < n2) (h8 : ∀ c, c < n1 → zm1 z c ≤ 8) {V : List (Nat × vW)} {r : List aX × Nat × Nat} (hV : ∀ v, v ∈ V → v.1 < n1 ∧ vOK z v) (h : stZ z dr V = .inr r) : (∀ x, x ∈ r.1 → x.2.2.1 < n2 ∧ vO2 z x.2.2.1 x.2.2.2) ∧ r.1.length ≤ V.length ∧ r.2.1 ≤ 8 * V.length := by
  unfold stZ at h
  split at h
  · cases h
  · rename_i r2 hq
    have a := stF_w hs h2 V r2 hV hq
    have b := (stF_len V r2 hq).1
    have c := stF_l h8 V r2 (fun v hv => (hV v hv).1) hq
    unfold stA at h
    split at h
    · cases h
    · cases h
      refine ⟨fun x hx => a x ?_, ?_, c⟩
      · have hx : x ∈ srt r2.1 [] := hx
        exact ((srt_mem r2.1 []).mp hx).elim id (fun q => absurd q List.not_mem_nil)
      · show (srt r2.1 []).length ≤ _
        rw [srt_len]
        exact b
/-! A whole way: BUILD after BUILD. -/
abbrev vL : Type := List (Nat × vW)
def toV (A : List aX) : vL := A.map (fun x => (x.2.2.1, x.2.2.2))
def wlk (Z : Nat → Nat → sE) (dr : Bool) : List Nat → Nat → Nat → vL → Nat → Nat → (rfT × Nat) ⊕ (vL × Nat × Nat)
  | [], _, _, V, x, y => .inr (V, x, y)
  | b :: P, a, k, V, x, y => match stZ (Z a b) dr V with
    | .inl q => .inl (q, k)
    | .inr r => wlk Z dr P b (k + 1) (toV r.1) (x + r.2.1) (y + r.2.2)
def pU : Nat → Nat → List Nat
  | 0, _ => []
  | k + 1, a => (a + 1) :: pU k (a + 1)
def pD : Nat → Nat → List Nat
  | 0, _ => []
  | k + 1, a => (a - 1) :: pD k (a - 1)
/-- the BUILDS that a way goes by -/
def pth (H : Nat → Bool) (f t : Nat) : List Nat := if H (8 * f + t) = true then [t] else if f < t then pU (t - f) f else pD (f - t) f
def alH (H : Nat → Bool) : Nat → List Nat → Bool
  | _, [] => true
  | a, b :: P => H (8 * a + b) && alH H b P
/-- VALUES of BUILD a -/
def vlB (S : gS) (cN mN ty : Nat → Nat) (a : Nat) (V : vL) : Prop := ∀ v, v ∈ V → v.1 < cN a ∧ ∀ o, o < mN (6 * a + v.1) → (∀ k, k < v.2.2.1 o → wfT (ty (8 * (6 * a + v.1) + o)) (v.2.2.2 o k)) ∧ (rw_ S (8 * (6 * a + v.1) + o) = false → 0 < v.2.2.1 o)
/-- RULES that stand -/
def ruG (S : gS) (cN mN ty : Nat → Nat) (Lf : Nat → List mT) (a b : Nat) : Prop := (∃ n, sA S 13 (8 * a + b) = nI n ∧ n ≤ 700 ∧ teF (pcs (fun q => sA S 14 (700 * (8 * a + b) + q)) n) = .inr (Lf (8 * a + b))) ∧ gdZ (zK S cN mN ty a b (Lf (8 * a + b))) (cN a) ∧ srO (zK S cN mN ty a b (Lf (8 * a + b))) (cN a)
theorem dOf_lt {S : gS} {cN : Nat → Nat} {t : Nat} {L : List mT} {w : Int64} {e : Nat} {R : List rT} (h : dOf (fC S cN t) L w = some (some (e, R))) : e < cN t := by
  unfold dOf at h
  split at h
  · split at h
    · cases h
    · rename_i m hm hd
      cases hf : fC S cN t m.2.2.2.1 with
      | none => rw [hf] at h; cases h
      | some e2 =>
        rw [hf] at h
        cases h
        exact (fnd_lt (f := fun c => sL S 1 (6 * t + c)) hf).1
  · cases hf : fC S cN t w with
    | none => rw [hf] at h; cases h
    | some e2 =>
      rw [hf] at h
      cases h
      exact (fnd_lt (f := fun c => sL S 1 (6 * t + c)) hf).1
/-- VALUES behind a step -/
theorem st_next {S : gS} {cN mN ty : Nat → Nat} {Lf : Nat → List mT} {a b : Nat} {dr : Bool} {V : vL} {r : List aX × Nat × Nat} (hK : refT S cN mN ty) (ha : a < 8) (hR : ruG S cN mN ty Lf a b) (hV : vlB S cN mN ty a V) (h : stZ (zK S cN mN ty a b (Lf (8 * a + b))) dr V = .inr r) : vlB S cN mN ty b (toV r.1) ∧ r.1.length ≤ V.length ∧ r.2.1 ≤ 8 * V.length := by
  obtain ⟨a1, a2, a3⟩ := stZ_w (n2 := cN b) hR.2.2 (fun c hc e R hD => dOf_lt hD) (fun c hc => (hK.1.2 a c ha (Nat.lt_of_lt_of_le hc (hK.1.1 a ha).2)).2) hV h
  refine ⟨fun v hv => ?_, a2, a3⟩
  obtain ⟨x, hx, e⟩ := List.mem_map.mp hv
  subst e
  exact a1 x hx
