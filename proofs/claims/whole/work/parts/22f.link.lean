/-! The class's Move and the reference's RULES: one plan. -/
section
variable {eo en : kE} {nN nO : Nat} {nm no : Nat → Int64} {R : List rT}
/-- NAMES of MEMBERS are not told twice -/
def nmH (e : kE) (n : Nat) (nm : Nat → Int64) : Prop := n ≤ 8 ∧ (∀ i, i < n → e.1 (nm i) = some i) ∧ ∀ w i, e.1 w = some i → i < n ∧ w = nm i
theorem nmH.iff {e : kE} {n : Nat} {nm : Nat → Int64} (h : nmH e n nm) {w : Int64} {i : Nat} (hi : i < n) : e.1 w = some i ↔ w = nm i := ⟨fun q => (h.2.2 w i q).2, fun q => by rw [q]; exact h.2.1 i hi⟩
theorem sl_i (hn : nmH en nN nm) {i : Nat} (hi : i < nN) {r : rT} (hr : r.1 ≤ 2) : (¬ r.1 = 2 ∧ ruSl en r = some i) ↔ isR 1 (nm i) r = true := by
  have h8 := hn.1
  unfold isR ruSl
  rw [Bool.and_eq_true, decide_eq_true_eq, decide_eq_true_eq]
  by_cases h0 : r.1 = 0
  · rw [if_pos h0]
    constructor
    · rintro ⟨_, q⟩
      have := Option.some.inj q
      omega
    · rintro ⟨q, _⟩
      omega
  · rw [if_neg h0, hn.iff hi]
    constructor
    · rintro ⟨q1, q2⟩
      exact ⟨by omega, q2⟩
    · rintro ⟨q1, q2⟩
      exact ⟨by omega, q2⟩
theorem sl_8 (hn : nmH en nN nm) {r : rT} (hr : r.1 ≤ 2) (h0 : r.1 = 0 → r.2.1 = 0) : (¬ r.1 = 2 ∧ ruSl en r = some 8) ↔ isR 0 0 r = true := by
  have h8 := hn.1
  unfold isR ruSl
  rw [Bool.and_eq_true, decide_eq_true_eq, decide_eq_true_eq]
  by_cases h1 : r.1 = 0
  · rw [if_pos h1]
    exact ⟨fun _ => ⟨h1, h0 h1⟩, fun _ => ⟨by omega, rfl⟩⟩
  · rw [if_neg h1]
    constructor
    · rintro ⟨_, q⟩
      have := (hn.2.2 _ _ q).1
      omega
    · rintro ⟨q, _⟩
      exact absurd q h1
theorem fnO_f {s : Nat} {P : rT → Bool} : ∀ (R : List rT) (c : Nat), (∀ r, r ∈ R → ((¬ r.1 = 2 ∧ ruSl en r = some s) ↔ P r = true)) → R.find? P = (fnO eo en s c R).map Prod.snd
  | [], c, h => rfl
  | r :: R, c, h => by
    rw [List.find?_cons, show fnO eo en s c (r :: R) = if ¬ r.1 = 2 ∧ ruSl en r = some s then some (c, r) else fnO eo en s (c + (ruCod eo r).length) R from rfl]
    have h1 := h r List.mem_cons_self
    by_cases q : ¬ r.1 = 2 ∧ ruSl en r = some s
    · rw [if_pos q, h1.mp q]
      rfl
    · rw [if_neg q]
      cases hp : P r with
      | true => exact absurd (h1.mpr hp) q
      | false => exact fnO_f R _ (fun r2 hr2 => h r2 (List.mem_cons_of_mem _ hr2))
theorem fnO_at {s : Nat} : ∀ (R : List rT) (c c' : Nat) (r : rT), fnO eo en s c R = some (c', r) → r ∈ R ∧ ∃ pre post, R.flatMap (ruCod eo) = pre ++ (ruCod eo r ++ post) ∧ c' = c + pre.length
  | [], c, c', r, h => by cases h
  | r0 :: R, c, c', r, h => by
    have h : (if ¬ r0.1 = 2 ∧ ruSl en r0 = some s then some (c, r0) else fnO eo en s (c + (ruCod eo r0).length) R) = some (c', r) := h
    split at h
    · have h := Option.some.inj h
      obtain ⟨e1, e2⟩ := Prod.mk.inj h
      subst e1
      subst e2
      exact ⟨List.mem_cons_self, [], R.flatMap (ruCod eo), by rw [List.flatMap_cons]; rfl, rfl⟩
    · obtain ⟨a1, pre, post, a2, a3⟩ := fnO_at R _ c' r h
      refine ⟨List.mem_cons_of_mem _ a1, ruCod eo r0 ++ pre, post, ?_, ?_⟩
      · rw [List.flatMap_cons, a2, List.append_assoc]
      · rw [a3, List.length_append]
        omega
/-- the plan that a Move keeps of a slot -/
def plF (fm : mS) (s : Nat) (c0 : Nat) (C : List cT) (eo : kE) (pl : Option (List aT) × Option Nat) : Prop := match pl.1 with
  | some B => ∃ pre post, C = pre ++ (B.map (cod eo) ++ post) ∧ fm.2.2.1 s = c0 + pre.length ∧ fm.2.2.2.1 s = c0 + pre.length + B.length
  | none => fm.2.2.1 s = 0 ∧ fm.2.2.2.1 s = 0 ∧ fm.2.1 s = pl.2
theorem fnR_dp (ho : nmH eo nO no) {w : Int64} {q : Nat} (hq : eo.1 w = some q) : ∀ (R : List rT), fnR 2 w R 0 = none ↔ R.any (dpR eo q) = false := by
  intro R
  have key : ∀ (R : List rT) (i : Nat), fnR 2 w R i = none ↔ R.any (dpR eo q) = false := by
    intro R
    induction R with
    | nil => exact fun i => ⟨fun _ => rfl, fun _ => rfl⟩
    | cons r R ih =>
      intro i
      rw [show fnR 2 w (r :: R) i = if r.1 = 2 ∧ r.2.1 = w then some i else fnR 2 w R (i + 1) from rfl, List.any_cons]
      have e : dpR eo q r = decide (r.1 = 2 ∧ r.2.1 = w) := by
        unfold dpR
        rw [← Bool.decide_and]
        apply decide_eq_decide.mpr
        have hw := (ho.2.2 w q hq).2
        constructor
        · rintro ⟨a, b⟩
          exact ⟨a, by rw [(ho.2.2 _ _ b).2, hw]⟩
        · rintro ⟨a, b⟩
          exact ⟨a, by rw [b]; exact hq⟩
      rw [e]
      by_cases c : r.1 = 2 ∧ r.2.1 = w
      · rw [if_pos c, decide_eq_true c, Bool.true_or]
        exact ⟨fun z => (by cases z), fun z => (by cases z)⟩
      · rw [if_neg c, decide_eq_false c, Bool.false_or]
        exact ih (i + 1)
  exact key R 0
theorem find_fnR (kd : Nat) (w : Int64) : ∀ (R : List rT) (i : Nat), R.find? (isR kd w) = none → fnR kd w R i = none
  | [], i, h => rfl
  | r :: R, i, h => by
    rw [List.find?_cons] at h
    show (if r.1 = kd ∧ r.2.1 = w then some i else fnR kd w R (i + 1)) = none
    split at h
    · cases h
    · rename_i hq
      rw [if_neg (fun z => by
        unfold isR at hq
        rw [decide_eq_true z.1, decide_eq_true z.2] at hq
        cases hq)]
      exact find_fnR kd w R (i + 1) h
/-- one MEMBER's plan -/
theorem plan_i {c0 : Nat} (ho : nmH eo nO no) (hn : nmH en nN nm) (hg : crusB eo en nN c0 ms0 R = []) (hR : ∀ r, r ∈ R → r.1 ≤ 2) {i : Nat} (hi : i < nN) : plF (ihP eo en nm nN 0 (rusM eo en c0 ms0 R)) i c0 (R.flatMap (ruCod eo)) eo (plR eo (en.2.1 i) R (nm i)) := by
  obtain ⟨a1, a2, a3, a4, a5⟩ := rus_1 R c0 ms0 hg
  obtain ⟨b1, b2, b3, b4, b5⟩ := ih_1 (eo := eo) (en := en) (nm := nm) nN 0 (rusM eo en c0 ms0 R)
  have hf := fnO_f (eo := eo) (en := en) (s := i) (P := isR 1 (nm i)) R c0 (fun r hr => sl_i hn hi (hR r hr))
  have e3 := a3 i
  have ec : (ihP eo en nm nN 0 (rusM eo en c0 ms0 R)).2.1 i = (match ihW eo en nm (rusM eo en c0 ms0 R) i with | some q => some q | none => (rusM eo en c0 ms0 R).2.1 i) := by
    rw [b2 i, if_pos ⟨Nat.zero_le _, by omega⟩]
    rfl
  cases hq : fnO eo en i c0 R with
  | none =>
    rw [hq] at hf e3
    have hf : R.find? (isR 1 (nm i)) = none := hf
    have e3 := Prod.mk.inj (show ((rusM eo en c0 ms0 R).2.2.1 i, (rusM eo en c0 ms0 R).2.2.2.1 i) = (0, 0) from e3)
    have ep : plR eo (en.2.1 i) R (nm i) = (none, smO (eo.1 (nm i)) eo.2.1 (en.2.1 i) R (nm i)) := by
      unfold plR
      rw [hf]
    rw [ep]
    refine ⟨(b3 i).1.trans e3.1, (b3 i).2.trans e3.2, ?_⟩
    have h1 : (rusM eo en c0 ms0 R).1 i = false := by
      rw [a1 i, hq]
      rfl
    have h2 : (rusM eo en c0 ms0 R).2.1 i = none := by
      rw [a2 i, hq]
      rfl
    rw [ec, h2]
    have ew : ihW eo en nm (rusM eo en c0 ms0 R) i = smO (eo.1 (nm i)) eo.2.1 (en.2.1 i) R (nm i) := by
      unfold ihW smO
      rw [h1, if_neg (by decide)]
      cases he : eo.1 (nm i) with
      | none => rfl
      | some q =>
        show (if (rusM eo en c0 ms0 R).2.2.2.2.1 q = false ∧ eo.2.1 q = en.2.1 i then some q else none) = (if eo.2.1 q = en.2.1 i ∧ fnR 2 (nm i) R 0 = none ∧ fnR 1 (nm i) R 0 = none then some q else none)
        have hd := fnR_dp ho he R
        have hn1 := find_fnR 1 (nm i) R 0 hf
        have h4 : (rusM eo en c0 ms0 R).2.2.2.2.1 q = R.any (dpR eo q) := by
          rw [a4 q]
          rfl
        rw [h4]
        by_cases c : R.any (dpR eo q) = false ∧ eo.2.1 q = en.2.1 i
        · rw [if_pos c, if_pos ⟨c.2, hd.mpr c.1, hn1⟩]
        · rw [if_neg c, if_neg (fun z => c ⟨hd.mp z.2.1, z.1⟩)]
    rw [ew]
    cases smO (eo.1 (nm i)) eo.2.1 (en.2.1 i) R (nm i) <;> rfl
  | some cr =>
    obtain ⟨c, r⟩ := cr
    rw [hq] at hf e3
    have hf : R.find? (isR 1 (nm i)) = some r := hf
    obtain ⟨m1, pre, post, m2, m3⟩ := fnO_at R c0 c r hq
    have h1 : (rusM eo en c0 ms0 R).1 i = true := by
      rw [a1 i, hq]
      rfl
    have ew : ihW eo en nm (rusM eo en c0 ms0 R) i = none := by
      unfold ihW
      rw [h1, if_pos rfl]
    have h2 : (rusM eo en c0 ms0 R).2.1 i = if r.2.2.2.2.1 = true then eo.1 (hdV r.2.2.2.2.2) else none := by
      rw [a2 i, hq]
      rfl
    have e3 : ((rusM eo en c0 ms0 R).2.2.1 i, (rusM eo en c0 ms0 R).2.2.2.1 i) = if r.2.2.2.2.1 = true then (0, 0) else (c, c + r.2.2.2.2.2.length) := e3
    rw [ew] at ec
    have ec : (ihP eo en nm nN 0 (rusM eo en c0 ms0 R)).2.1 i = (rusM eo en c0 ms0 R).2.1 i := ec
    by_cases hj : r.2.2.2.2.1 = true
    · have ep : plR eo (en.2.1 i) R (nm i) = (none, eo.1 (hdV r.2.2.2.2.2)) := by
        unfold plR
        rw [hf]
        show (if r.2.2.2.2.1 = true then _ else _) = _
        rw [if_pos hj]
      rw [if_pos hj] at e3 h2
      have e3 := Prod.mk.inj e3
      rw [ep]
      exact ⟨(b3 i).1.trans e3.1, (b3 i).2.trans e3.2, ec.trans h2⟩
    · have ep : plR eo (en.2.1 i) R (nm i) = (some r.2.2.2.2.2, none) := by
        unfold plR
        rw [hf]
        show (if r.2.2.2.2.1 = true then _ else _) = _
        rw [if_neg hj]
      rw [if_neg hj] at e3
      have e3 := Prod.mk.inj e3
      have er : ruCod eo r = r.2.2.2.2.2.map (cod eo) := by
        unfold ruCod
        rw [if_neg hj]
      rw [ep]
      refine ⟨pre, post, by rw [m2, er], ?_, ?_⟩
      · rw [(b3 i).1, e3.1, m3]
      · rw [(b3 i).2, e3.2, m3]
/-- the plan of the KEY -/
def plK (R : List rT) : Option (List aT) := (R.find? (isR 0 0)).map (fun r => r.2.2.2.2.2)
theorem plan_k {c0 : Nat} (hn : nmH en nN nm) (hg : crusB eo en nN c0 ms0 R = []) (hR : ∀ r, r ∈ R → r.1 ≤ 2 ∧ (r.1 = 0 → r.2.1 = 0 ∧ ¬ r.2.2.2.2.1 = true)) : (∀ B, plK R = some B → ∃ pre post, R.flatMap (ruCod eo) = pre ++ (B.map (cod eo) ++ post) ∧ (ihP eo en nm nN 0 (rusM eo en c0 ms0 R)).2.2.1 8 = c0 + pre.length ∧ (ihP eo en nm nN 0 (rusM eo en c0 ms0 R)).2.2.2.1 8 = c0 + pre.length + B.length) ∧ (plK R = none → (ihP eo en nm nN 0 (rusM eo en c0 ms0 R)).2.2.1 8 = 0 ∧ (ihP eo en nm nN 0 (rusM eo en c0 ms0 R)).2.2.2.1 8 = 0) := by
  obtain ⟨a1, a2, a3, a4, a5⟩ := rus_1 R c0 ms0 hg
  obtain ⟨b1, b2, b3, b4, b5⟩ := ih_1 (eo := eo) (en := en) (nm := nm) nN 0 (rusM eo en c0 ms0 R)
  have hf := fnO_f (eo := eo) (en := en) (s := 8) (P := isR 0 0) R c0 (fun r hr => sl_8 hn (hR r hr).1 (fun h => ((hR r hr).2 h).1))
  have e3 := a3 8
  unfold plK
  cases hq : fnO eo en 8 c0 R with
  | none =>
    rw [hq] at hf e3
    have hf : R.find? (isR 0 0) = none := hf
    have e3 := Prod.mk.inj (show ((rusM eo en c0 ms0 R).2.2.1 8, (rusM eo en c0 ms0 R).2.2.2.1 8) = (0, 0) from e3)
    rw [hf]
    exact ⟨fun B hB => (by cases hB), fun _ => ⟨(b3 8).1.trans e3.1, (b3 8).2.trans e3.2⟩⟩
  | some cr =>
    obtain ⟨c, r⟩ := cr
    rw [hq] at hf e3
    have hf : R.find? (isR 0 0) = some r := hf
    obtain ⟨m1, pre, post, m2, m3⟩ := fnO_at R c0 c r hq
    have hr0 : r.1 = 0 := by
      have := List.find?_some hf
      unfold isR at this
      rw [Bool.and_eq_true, decide_eq_true_eq] at this
      exact this.1
    have hj := ((hR r m1).2 hr0).2
    have e3 : ((rusM eo en c0 ms0 R).2.2.1 8, (rusM eo en c0 ms0 R).2.2.2.1 8) = if r.2.2.2.2.1 = true then (0, 0) else (c, c + r.2.2.2.2.2.length) := e3
    rw [if_neg hj] at e3
    have e3 := Prod.mk.inj e3
    have er : ruCod eo r = r.2.2.2.2.2.map (cod eo) := by
      unfold ruCod
      rw [if_neg hj]
    rw [hf]
    refine ⟨fun B hB => ?_, fun h => (by cases h)⟩
    cases hB
    refine ⟨pre, post, by rw [m2, er], ?_, ?_⟩
    · rw [(b3 8).1, e3.1, m3]
    · rw [(b3 8).2, e3.2, m3]
/-- acts of a text -/
def actR (a : aT) : Prop := a.1 = nI 1 ∨ a.1 = nI 2 ∨ a.1 = nI 3 ∨ a.1 = nI 4 ∨ a.1 = nI 5 ∨ a.1 = nI 6 ∨ a.1 = nI 7 ∨ a.1 = nI 8 ∨ a.1 = nI 9 ∨ a.1 = nI 10 ∨ a.1 = nI 11
theorem tA_tl (ho : nmH eo nO no) {o : Nat} (h : o < nO) {a : aT} (ha : actR a) : tA (no o) a = ((decide (a.1 = nI 3) || decide (a.1 = nI 4) || decide (a.1 = nI 5)) && decide (eo.1 a.2.1 = some o)) := by
  have e : decide (eo.1 a.2.1 = some o) = decide (a.2.1 = no o) := decide_eq_decide.mpr (ho.iff h)
  rw [e]
  unfold tA
  rcases ha with q | q | q | q | q | q | q | q | q | q | q <;> rw [q] <;> cases decide (a.2.1 = no o) <;> decide
/-- what is kept is not LOST -/
theorem kept_s {c0 : Nat} (ho : nmH eo nO no) (hn : nmH en nN nm) (hg : crusB eo en nN c0 ms0 R = []) (hR : ∀ r, r ∈ R → r.1 ≤ 2 ∧ (∀ a, a ∈ r.2.2.2.2.2 → actR a) ∧ (r.2.2.2.2.1 = true → r.1 = 1 ∧ ∃ a, r.2.2.2.2.2 = [a] ∧ a.1 = nI 3)) {o : Nat} (h : o < nO) : (ihP eo en nm nN 0 (rusM eo en c0 ms0 R)).2.2.2.2.2 o = !(decide (fnR 2 (no o) R 0 = none) && (!R.any (tR (no o)) && lsS eo en nm R (no o))) := by
  obtain ⟨a1, a2, a3, a4, a5⟩ := rus_1 R c0 ms0 hg
  obtain ⟨b1, b2, b3, b4, b5⟩ := ih_1 (eo := eo) (en := en) (nm := nm) nN 0 (rusM eo en c0 ms0 R)
  have hno := ho.2.1 o h
  have hdp := fnR_dp ho hno R
  have hkt : R.any (ktR eo o) = (R.any (dpR eo o) || R.any (tR (no o))) := by
    have one : ∀ r, r ∈ R → ktR eo o r = (dpR eo o r || tR (no o) r) := by
      intro r hr
      obtain ⟨h2, hA, hj⟩ := hR r hr
      have et : r.2.2.2.2.2.any (tA (no o)) = tld eo r.2.2.2.2.2 o := by
        unfold tld
        have : ∀ B : List aT, (∀ a, a ∈ B → actR a) → B.any (tA (no o)) = B.any (fun a => (decide (a.1 = nI 3) || decide (a.1 = nI 4) || decide (a.1 = nI 5)) && decide (eo.1 a.2.1 = some o)) := by
          intro B
          induction B with
          | nil => exact fun _ => rfl
          | cons a B ih =>
            intro hB
            rw [List.any_cons, List.any_cons, tA_tl ho h (hB a List.mem_cons_self), ih (fun x hx => hB x (List.mem_cons_of_mem _ hx))]
        exact this _ hA
      unfold ktR dpR tR
      rw [et]
      by_cases h0 : r.1 = 2
      · rw [if_pos h0, decide_eq_true h0]
        cases decide (eo.1 r.2.1 = some o) <;> rfl
      · rw [if_neg h0, decide_eq_false h0]
        by_cases hjj : r.2.2.2.2.1 = true
        · obtain ⟨_, a, ea, e3⟩ := hj hjj
          rw [if_pos hjj, ea]
          unfold tld
          show decide (eo.1 a.2.1 = some o) = (_ || (!false && ((decide (a.1 = nI 3) || decide (a.1 = nI 4) || decide (a.1 = nI 5)) && decide (eo.1 a.2.1 = some o) || false)))
          rw [decide_eq_true e3]
          cases decide (eo.1 a.2.1 = some o) <;> cases decide (a.1 = nI 4) <;> cases decide (a.1 = nI 5) <;> rfl
        · rw [if_neg hjj]
          cases tld eo r.2.2.2.2.2 o <;> rfl
    have : ∀ L : List rT, (∀ r, r ∈ L → r ∈ R) → L.any (ktR eo o) = (L.any (dpR eo o) || L.any (tR (no o))) := by
      intro L
      induction L with
      | nil => exact fun _ => rfl
      | cons r L ih =>
        intro hL
        rw [List.any_cons, List.any_cons, List.any_cons, one r (hL r List.mem_cons_self), ih (fun x hx => hL x (List.mem_cons_of_mem _ hx))]
        cases dpR eo o r <;> cases tR (no o) r <;> cases L.any (dpR eo o) <;> cases L.any (tR (no o)) <;> rfl
    exact this R (fun _ hr => hr)
  have hs : (∃ s, 0 ≤ s ∧ s < 0 + nN ∧ ihW eo en nm (rusM eo en c0 ms0 R) s = some o) ↔ lsS eo en nm R (no o) = false := by
    have sm : ∀ s, s < nN → nm s = no o → (ihW eo en nm (rusM eo en c0 ms0 R) s = some o ↔ smO (eo.1 (nm s)) eo.2.1 (en.2.1 s) R (nm s) = some o) := by
      intro s hs he
      have hf := fnO_f (eo := eo) (en := en) (s := s) (P := isR 1 (nm s)) R c0 (fun r hr => sl_i hn hs (hR r hr).1)
      have h1 := a1 s
      have h4 : (rusM eo en c0 ms0 R).2.2.2.2.1 o = R.any (dpR eo o) := by
        rw [a4 o]
        rfl
      unfold ihW smO
      rw [he, hno]
      show (if (rusM eo en c0 ms0 R).1 s = true then none else if (rusM eo en c0 ms0 R).2.2.2.2.1 o = false ∧ eo.2.1 o = en.2.1 s then some o else none) = some o ↔ (if eo.2.1 o = en.2.1 s ∧ fnR 2 (no o) R 0 = none ∧ fnR 1 (no o) R 0 = none then some o else none) = some o
      rw [he] at hf
      rw [h4, h1]
      cases hq : fnO eo en s c0 R with
      | none =>
        rw [hq] at hf
        have hn1 := find_fnR 1 (no o) R 0 hf
        rw [show (ms0.1 s || (none : Option (Nat × rT)).isSome) = false from rfl, if_neg (by decide)]
        by_cases c : R.any (dpR eo o) = false ∧ eo.2.1 o = en.2.1 s
        · rw [if_pos c, if_pos ⟨c.2, hdp.mpr c.1, hn1⟩]
        · rw [if_neg c, if_neg (fun z => c ⟨hdp.mp z.2.1, z.1⟩)]
      | some cr =>
        rw [hq] at hf
        rw [show (ms0.1 s || (some cr).isSome) = true from rfl, if_pos rfl]
        constructor
        · intro z
          cases z
        · intro z
          split at z
          · rename_i q
            have h5 := (fnR_find 1 (no o) R 0).1 q.2.2
            rw [h5] at hf
            cases hf
          · cases z
    unfold lsS
    cases he : en.1 (no o) with
    | none =>
      constructor
      · rintro ⟨s, _, hs2, hw⟩
        exfalso
        unfold ihW at hw
        split at hw
        · cases hw
        · split at hw
          · cases hw
          · rename_i q hq
            split at hw
            · cases hw
              have := (ho.2.2 _ _ hq).2
              have h6 := hn.2.1 s (by omega)
              rw [this, he] at h6
              cases h6
            · cases hw
      · intro z
        cases z
    | some m =>
      obtain ⟨hm, hm2⟩ := hn.2.2 _ _ he
      show _ ↔ decide (smO (eo.1 (nm m)) eo.2.1 (en.2.1 m) R (nm m) = none) = false
      rw [decide_eq_false_iff_not]
      constructor
      · rintro ⟨s, _, hs2, hw⟩
        have hns : nm s = no o := by
          unfold ihW at hw
          split at hw
          · cases hw
          · split at hw
            · cases hw
            · rename_i q hq
              split at hw
              · cases hw
                exact (ho.2.2 _ _ hq).2
              · cases hw
        have hsm : s = m := by
          have h6 := hn.2.1 s (by omega)
          rw [hns, he] at h6
          exact (Option.some.inj h6).symm
        subst hsm
        rw [(sm s (by omega) hns).mp hw]
        exact fun z => (by cases z)
      · intro z
        refine ⟨m, Nat.zero_le _, by omega, (sm m hm hm2.symm).mpr ?_⟩
        cases hx : smO (eo.1 (nm m)) eo.2.1 (en.2.1 m) R (nm m) with
        | none => exact absurd hx z
        | some x =>
          have hx2 : eo.1 (nm m) = some x := by
            unfold smO at hx
            split at hx
            · cases hx
            · rename_i q hq
              split at hx
              · cases hx
                exact hq
              · cases hx
          rw [← hm2, hno] at hx2
          exact hx2.symm
  have hb := b5 o
  rw [a5 o, show ms0.2.2.2.2.2 o = false from rfl, Bool.false_or, hkt, hs] at hb
  cases hk : (ihP eo en nm nN 0 (rusM eo en c0 ms0 R)).2.2.2.2.2 o with
  | true =>
    rcases hb.mp hk with q | q
    · rw [Bool.or_eq_true] at q
      rcases q with q | q
      · rw [decide_eq_false (fun z => by
          rw [hdp.mp z] at q
          cases q)]
        rfl
      · rw [q, Bool.not_true, Bool.false_and, Bool.and_false]
        rfl
    · rw [q, Bool.and_false, Bool.and_false]
      rfl
  | false =>
    have nb : ¬ ((R.any (dpR eo o) || R.any (tR (no o))) = true ∨ lsS eo en nm R (no o) = false) := fun z => by
      rw [hb.mpr z] at hk
      cases hk
    have n1 : R.any (dpR eo o) = false := by
      cases hx : R.any (dpR eo o) with
      | false => rfl
      | true => exact absurd (Or.inl (by rw [hx]; rfl)) nb
    have n2 : R.any (tR (no o)) = false := by
      cases hx : R.any (tR (no o)) with
      | false => rfl
      | true => exact absurd (Or.inl (by rw [hx, Bool.or_true])) nb
    have n3 : lsS eo en nm R (no o) = true := by
      cases hx : lsS eo en nm R (no o) with
      | true => rfl
      | false => exact absurd (Or.inr hx) nb
    rw [decide_eq_true (hdp.mpr n1), n2, n3]
    rfl
end
