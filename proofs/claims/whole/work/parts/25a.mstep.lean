/-! The reference: the VALUES of one step. -/
theorem fiM_3 {e : kE} {vw : vW} {ty : Nat → Nat} {t : Nat} {pl : Option (List aT) × Option Nat} {q : Nat} (h : fiM e vw ty t pl = .inl q) : q ≠ 3 := by
  unfold fiM at h
  split at h
  · unfold fiW at h
    split at h
    · rename_i q2 hq
      cases h
      have := evF_ne hq
      omega
    · split at h
      · cases h
      · cases h
        omega
  · unfold fiC at h
    split at h
    · cases h
    · split at h
      · cases h
      · cases h
        omega
theorem nvS_3 {g : Nat → Nat ⊕ Option (Nat × (Nat → Int64))} (hg : ∀ i q, g i = .inl q → q ≠ 3) : ∀ (k i : Nat) (w : vW) (z : Nat × Nat), nvS g k i w = .inl z → z.1 ≠ 3
  | 0, i, w, z, h => by cases h
  | k + 1, i, w, z, h => by
    have h : (match g i with
      | .inl q => .inl (q, i)
      | .inr none => nvS g k (i + 1) w
      | .inr (some x) => nvS g k (i + 1) (nvU w i x)) = Sum.inl z := h
    split at h
    · rename_i q hq
      cases h
      exact hg i q hq
    · exact nvS_3 hg k _ _ z h
    · exact nvS_3 hg k _ _ z h
theorem cvS_3 {z : sE} {c : Nat} {vw : vW} {e : Nat} {L : List rT} {q : Nat × Option Nat} (h : cvS z c vw e L = .inl q) : q.1 ≠ 3 := by
  unfold cvS cvR at h
  split at h
  · rename_i q2 hq
    cases h
    unfold cvK at hq
    split at hq
    · cases hq
    · split at hq
      · rename_i k hk
        cases hq
        have := evF_ne hk
        show q2 ≠ 3
        omega
      · cases hq
  · split at h
    · rename_i y hy
      cases h
      exact nvS_3 (fun i q hq => fiM_3 hq) _ _ _ _ hy
    · cases h
/-- what is told of the CLASS with the NAME w -/
def dOf (ft : Int64 → Option Nat) (L : List mT) (w : Int64) : dsT := match L.find? (fun m => decide (m.2.1 = w)) with
  | some m => if m.1 = true then some none else (ft m.2.2.2.1).map (fun e => some (e, m.2.2.2.2.2))
  | none => (ft w).map (fun e => some (e, []))
def zK (S : gS) (cN mN ty : Nat → Nat) (f t : Nat) (L : List mT) : sE := (fun c => eK S mN f c, fun e => eK S mN t e, fun c o => ty (8 * (6 * f + c) + o), fun e i => ty (8 * (6 * t + e) + i), fun c i => sL S 3 (8 * (6 * f + c) + i), fun e i => sL S 3 (8 * (6 * t + e) + i), fun c => mN (6 * f + c), fun e => mN (6 * t + e), fun c => dOf (fC S cN t) L (sL S 1 (6 * f + c)))
def k15 (P : Nat → Bool) : Prop := P 0 = false ∧ P 1 = false ∧ P 2 = false ∧ P 3 = false ∧ P 4 = false ∧ P 5 = false
theorem eK_fr {P : Nat → Bool} {S T : gS} (h : fr P S T) (hp : k15 P) (mN : Nat → Nat) (b c : Nat) : eK T mN b c = eK S mN b c := by
  unfold eK rw_
  rw [(h 3 hp.2.2.2.1).2.2.2.1, (h 4 hp.2.2.2.2.1).2.2.1, (h 5 hp.2.2.2.2.2).2.2.1]
theorem fC_fr {P : Nat → Bool} {S T : gS} (h : fr P S T) (hp : k15 P) (cN : Nat → Nat) (b : Nat) : fC T cN b = fC S cN b := by
  unfold fC
  rw [(h 1 hp.2.1).2.2.2.1]
theorem zK_fr {P : Nat → Bool} {S T : gS} (h : fr P S T) (hp : k15 P) (cN mN ty : Nat → Nat) (f t : Nat) (L : List mT) : zK T cN mN ty f t L = zK S cN mN ty f t L := by
  unfold zK
  rw [fC_fr h hp, (h 1 hp.2.1).2.2.2.1, (h 3 hp.2.2.2.1).2.2.2.1]
  congr 1
  · funext c
    exact eK_fr h hp mN f c
  · congr 1
    funext c
    exact eK_fr h hp mN t c
/-- RULES that can be gone by -/
def gdR (z : sE) (c e : Nat) (R : List rT) : Prop := e < 6 ∧ rlOK (zE1 z c) R ∧ (∀ r, r ∈ R → r.1 = 0 → ¬ r.2.2.2.2.1 = true) ∧ ∀ m, m < zm2 z e → ∀ r, R.find? (isR 1 (zn2 z e m)) = some r → ¬ r.2.2.2.2.1 = true → (zE2 z e).2.1 m = false
def gdZ (z : sE) (n1 : Nat) : Prop := ∀ c, c < n1 → ∀ e R, zD z c = some (some (e, R)) → gdR z c e R
/-- a VALUE as it should be -/
def vOK (z : sE) (v : Nat × vW) : Prop := ∀ o, o < zm1 z v.1 → (∀ k, k < v.2.2.1 o → wfT (zt1 z v.1 o) (v.2.2.2 o k)) ∧ ((zE1 z v.1).2.1 o = false → 0 < v.2.2.1 o)
def stQ (k : Nat) : Bool := decide (k = 7) || decide (k = 8) || decide (k = 9) || decide (k = 10) || decide (k = 11) || decide (k = 27) || decide (k = 59) || decide (k = 60) || decide (k = 61) || decide (k = 62) || decide (k = 63) || decide (k = 64)
theorem k15_stQ : k15 stQ := ⟨rfl, rfl, rfl, rfl, rfl, rfl⟩
/-- what the VALUES of a step leave alone -/
def stG (S S' : gS) : Prop := fr stQ S S' ∧ (∀ q, q < 960 → sA S' 10 q = sA S 10 q) ∧ (∀ q, q < 7680 → sL S' 11 q = sL S 11 q) ∧ (∀ q, q < 120 → sL S' 8 q = sL S 8 q ∧ sA S' 9 q = sA S 9 q) ∧ sA S' 7 0 = sA S 7 0 ∧ sA S' 7 1 = sA S 7 1
theorem stG.rfl {S : gS} : stG S S := ⟨fr.rfl, fun _ _ => Eq.refl _, fun _ _ => Eq.refl _, fun _ _ => ⟨Eq.refl _, Eq.refl _⟩, Eq.refl _, Eq.refl _⟩
theorem stG.trans {S S' S'' : gS} (a : stG S S') (b : stG S' S'') : stG S S'' := ⟨a.1.trans b.1, fun q hq => (b.2.1 q hq).trans (a.2.1 q hq), fun q hq => (b.2.2.1 q hq).trans (a.2.2.1 q hq), fun q hq => ⟨(b.2.2.2.1 q hq).1.trans (a.2.2.2.1 q hq).1, (b.2.2.2.1 q hq).2.trans (a.2.2.2.1 q hq).2⟩, b.2.2.2.2.1.trans a.2.2.2.2.1, b.2.2.2.2.2.trans a.2.2.2.2.2⟩
theorem coG.st {S S' : gS} {to : Nat} (h : coG S S' to) (ht : 120 ≤ to) : stG S S' := ⟨h.1.mono (fun q hq => by
  unfold stQ at hq
  unfold coP
  simp only [Bool.or_eq_false_iff, decide_eq_false_iff_not] at hq ⊢
  omega), fun q hq => h.2.1 q (by omega), fun q hq => h.2.2.1 q (by omega), fun q hq => ⟨h.2.2.2.1 q (by omega), h.2.2.2.2.1 q (by omega)⟩, by rw [(h.1 7 (by decide)).2.2.1], by rw [(h.1 7 (by decide)).2.2.1]⟩
theorem stG.V {S S' : gS} {b c n v : Nat} {w : vW} (h : stG S S') (hv : wkV S b c n v w) (hlt : v < 120) : wkV S' b c n v w := by
  obtain ⟨h1, h2, h3, h4, h5, h6, h7, h8, h9⟩ := hv
  refine ⟨h1, h2, ?_, h4, h5, ?_, ?_, fun m hm => ?_, fun m k hm hk => ?_⟩
  · rw [(h.1 2 (by decide)).2.2.1]
    exact h3
  · rw [(h.2.2.2.1 v hlt).2]
    exact h6
  · rw [(h.2.2.2.1 v hlt).1]
    exact h7
  · rw [h.2.1 _ (by omega)]
    exact h8 m hm
  · rw [h.2.2.1 _ (by omega)]
    exact h9 m k hm hk
/-- the new VALUES -/
def nvl (S : gS) (mN : Nat → Nat) (t : Nat) (A : List aX) : Prop := ∀ j x, A[j]? = some x → wkV S t x.2.2.1 (mN (6 * t + x.2.2.1)) (120 + j) x.2.2.2 ∧ x.2.2.2.1 = x.1 ∧ ∃ v, sA S 64 (120 + j) = nI v ∧ 60 ≤ v ∧ v < 120 ∧ sL S 8 v = x.2.1
theorem nvl.co {S S' : gS} {mN : Nat → Nat} {t : Nat} {A : List aX} (h : nvl S mN t A) {to : Nat} (hc : coG S S' to) (ht : to = 120 + A.length) : nvl S' mN t A := by
  intro j x hj
  have hl := get_lt hj
  obtain ⟨a1, a2, v, a3, a4, a5, a6⟩ := h j x hj
  refine ⟨hc.V a1 (by omega), a2, v, ?_, a4, a5, ?_⟩
  · rw [hc.2.2.2.2.2 _ (by omega)]
    exact a3
  · rw [hc.2.2.2.1 _ (by omega)]
    exact a6
theorem nvl.fr {P : Nat → Bool} {S S' : gS} {mN : Nat → Nat} {t : Nat} {A : List aX} (h : nvl S mN t A) (hf : fr P S S') (hp : P 2 = false ∧ P 8 = false ∧ P 9 = false ∧ P 10 = false ∧ P 11 = false ∧ P 64 = false) : nvl S' mN t A := by
  intro j x hj
  obtain ⟨⟨h1, h2, h3, h4, h5, h6, h7, h8, h9⟩, a2, v, a3, a4, a5, a6⟩ := h j x hj
  have e2 := (hf 2 hp.1).2.2.1
  have e8 := (hf 8 hp.2.1).2.2.2.1
  have e9 := (hf 9 hp.2.2.1).2.2.1
  have e10 := (hf 10 hp.2.2.2.1).2.2.1
  have e11 := (hf 11 hp.2.2.2.2.1).2.2.2.1
  have e64 := (hf 64 hp.2.2.2.2.2).2.2.1
  refine ⟨⟨h1, h2, ?_, h4, h5, ?_, ?_, ?_, ?_⟩, a2, v, ?_, a4, a5, ?_⟩
  · rw [e2]; exact h3
  · rw [e9]; exact h6
  · rw [e8]; exact h7
  · rw [e10]; exact h8
  · rw [e11]; exact h9
  · rw [e64]; exact a3
  · rw [e8]; exact a6
theorem nvl.snoc {S : gS} {mN : Nat → Nat} {t : Nat} {A : List aX} (h : nvl S mN t A) {x : aX} (hx : wkV S t x.2.2.1 (mN (6 * t + x.2.2.1)) (120 + A.length) x.2.2.2 ∧ x.2.2.2.1 = x.1 ∧ ∃ v, sA S 64 (120 + A.length) = nI v ∧ 60 ≤ v ∧ v < 120 ∧ sL S 8 v = x.2.1) : nvl S mN t (A ++ [x]) := by
  intro j y hj
  by_cases c : j < A.length
  · rw [List.getElem?_append_left c] at hj
    exact h j y hj
  · have hl := get_lt hj
    rw [List.length_append, List.length_singleton] at hl
    have e : j = A.length := by omega
    subst e
    rw [List.getElem?_append_right (Nat.le_refl _), Nat.sub_self] at hj
    cases hj
    exact hx
theorem fnd_L {f : Nat → Int64} {w : Int64} : ∀ (L : List mT) (i : Nat), (∀ q m, L[q]? = some m → f (i + q) = m.2.1) → (fndF f w L.length i = none ∧ L.find? (fun m => decide (m.2.1 = w)) = none) ∨ ∃ k m, fndF f w L.length i = some (i + k) ∧ L[k]? = some m ∧ L.find? (fun m => decide (m.2.1 = w)) = some m
  | [], i, h => Or.inl ⟨rfl, rfl⟩
  | m :: L, i, h => by
    have e0 : f i = m.2.1 := h 0 m rfl
    rw [List.length_cons, fndF_s, List.find?_cons]
    by_cases c : f i = w
    · rw [if_pos c, decide_eq_true (by rw [← e0]; exact c)]
      exact Or.inr ⟨0, m, rfl, rfl, rfl⟩
    · rw [if_neg c, decide_eq_false (by rw [← e0]; exact c)]
      rcases fnd_L L (i + 1) (fun q m hq => by
        have := h (q + 1) m hq
        rw [show i + (q + 1) = i + 1 + q by omega] at this
        exact this) with z | ⟨k, m2, z1, z2, z3⟩
      · exact Or.inl z
      · exact Or.inr ⟨k + 1, m2, by rw [z1, show i + 1 + k = i + (k + 1) by omega], z2, z3⟩
theorem isT.mv {S : gS} {L : List mT} (hT : isT S L) (hP : ∀ m, m ∈ L → moP aOK 700 m) {k : Nat} {m : mT} (hm : L[k]? = some m) : ∃ b0 af, rkO S (some k) b0 af m.2.2.2.2.2 ∧ b0 + m.2.2.2.2.2.length ≤ 699 := by
  have hk := get_lt hm
  obtain ⟨h1, h2, h3, h4, h5, h6, h7, h8, h9, h10, h11⟩ := id hT
  have hs := ruM_s hm
  have hle := ruM_le (L := L) (k + 1)
  refine ⟨(ruM (L.take k)).length, fun q => (acR ((ruM L).take ((ruM (L.take k)).length + q))).length, ⟨by omega, hT.first (by omega), ?_, by omega, fun q hq => ⟨hT.act1 (by omega), ?_⟩, fun q r hr => ?_⟩, by omega⟩
  · rw [hT.first (show k + 1 ≤ L.length by omega), hs]
  · have := acR_le (R := ruM L) ((ruM (L.take k)).length + q)
    exact Nat.le_trans this h11
  · obtain ⟨z1, z2, z3, z4, z5, z6, z7⟩ := hT.rule hP hm hr
    refine ⟨z1, z7.1, ?_, fun x a hx => ⟨(z6 x a hx).1, (z6 x a hx).2.1⟩⟩
    exact acR_s (ruM_get hm hr)
theorem lsN_le (eo en : kE) (vw : vW) (nm : Nat → Int64) (R : List rT) (no : Nat → Int64) : ∀ (k i : Nat), lsN eo en vw nm R no k i ≤ k
  | 0, i => Nat.le_refl _
  | k + 1, i => by
    show (if lsB eo en vw nm R (no i) i = true then 1 else 0) + lsN eo en vw nm R no k (i + 1) ≤ k + 1
    have := lsN_le eo en vw nm R no k (i + 1)
    split <;> omega
theorem uJ_uJ (S : gS) (k : Nat) (x y : Int64) : uJ (uJ S k x) k y = uJ S k y := by
  unfold uJ
  dsimp only
  rw [va_up_up]
def rfX (S : gS) (q : rfT) (number : Int32) : gS := uJ (rfS S q.1 (oI q.2.1) (oI q.2.2.1) number q.2.2.2.1) 23 q.2.2.2.2
theorem rfX_0 (S : gS) (w : Nat) (c m : Option Nat) (key : Int64) (number : Int32) : rfX S (w, c, m, key, 0) number = rfS S w (oI c) (oI m) number key := by
  unfold rfX rfS
  exact uJ_uJ _ _ _ _
