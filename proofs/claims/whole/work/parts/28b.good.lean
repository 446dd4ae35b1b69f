/-! Pure: what the class keeps of a good text is what the reference goes by. -/
section
variable {fo ft : Int64 → Option Nat} {E1 E2 : Nat → kE} {e0 : kE} {nE : Option Nat → Nat} {nm : Option Nat → Nat → Int64}
def pmQ (fo ft : Int64 → Option Nat) (E1 E2 : Nat → kE) (e0 : kE) (nE : Option Nat → Nat) (nm : Option Nat → Nat → Int64) (c c0 : Nat) (L : List mT) (r : Option (Int32 × mS)) : Option mT → Prop
  | none => r = none
  | some m => fo m.2.1 = some c ∧ m ∈ L ∧ ∃ pre post, L = pre ++ m :: post ∧ r = some (mvD fo ft E1 E2 e0 nE nm (c0 + (pre.flatMap (moCod fo E1 e0)).length) m) ∧ (m.1 = false → ∃ e, ft m.2.2.2.1 = some e ∧ crusB (E1 c) (E2 e) (nE (some e)) (c0 + (pre.flatMap (moCod fo E1 e0)).length) ms0 m.2.2.2.2.2 = [])
theorem pmL_at {c : Nat} {w : Int64} (hw : ∀ v, fo v = some c ↔ v = w) : ∀ (L : List mT) (PM : pM) (c0 : Nat), cmosB fo ft E1 E2 e0 nE (uP PM) c0 L = [] → (∀ q, PM c = some q → pmL fo ft E1 E2 e0 nE nm PM c0 L c = some q ∧ L.find? (fun m => decide (m.2.1 = w)) = none) ∧ (PM c = none → pmQ fo ft E1 E2 e0 nE nm c c0 L (pmL fo ft E1 E2 e0 nE nm PM c0 L c) (L.find? (fun m => decide (m.2.1 = w))))
  | [], PM, c0, h => ⟨fun q hq => ⟨hq, rfl⟩, fun hn => hn⟩
  | m :: L, PM, c0, h => by
    have h : cmoB fo ft E1 E2 e0 nE (uP PM) c0 m ++ cmosB fo ft E1 E2 e0 nE (usN (uP PM) (fo m.2.1)) (c0 + (moCod fo E1 e0 m).length) L = [] := h
    obtain ⟨h1, h2⟩ := List.append_eq_nil_iff.mp h
    unfold cmoB at h1
    obtain ⟨h3, h4⟩ := List.append_eq_nil_iff.mp h1
    have ep : pmL fo ft E1 E2 e0 nE nm PM c0 (m :: L) = pmL fo ft E1 E2 e0 nE nm (pm1 PM (mvD fo ft E1 E2 e0 nE nm c0 m) (fo m.2.1)) (c0 + (moCod fo E1 e0 m).length) L := rfl
    rw [ep]
    rw [← uP_1 PM (mvD fo ft E1 E2 e0 nE nm c0 m) (fo m.2.1)] at h2
    obtain ⟨i1, i2⟩ := pmL_at hw L _ _ h2
    cases hf : fo m.2.1 with
    | none =>
      rw [hf] at h3
      cases h3
    | some c1 =>
      rw [hf] at h3 h4 i1 i2
      have hU : uP PM c1 = false := by
        have h3 : (if uP PM c1 = true then [m.2.2.1] else []) = [] := h3
        cases hu : uP PM c1 with
        | false => rfl
        | true =>
          rw [hu] at h3
          cases h3
      have e1 : pm1 PM (mvD fo ft E1 E2 e0 nE nm c0 m) (some c1) = up PM c1 (some (mvD fo ft E1 E2 e0 nE nm c0 m)) := by
        show (if (PM c1).isSome = true then PM else _) = _
        rw [if_neg (by rw [show (PM c1).isSome = false from hU]; decide)]
      rw [e1] at i1 i2 ⊢
      rw [List.find?_cons]
      by_cases c2 : c1 = c
      · subst c2
        have hm : m.2.1 = w := (hw _).mp hf
        rw [decide_eq_true hm]
        have hn : PM c1 = none := by
          cases hq : PM c1 with
          | none => rfl
          | some q =>
            unfold uP at hU
            rw [hq] at hU
            cases hU
        refine ⟨fun q hq => (by rw [hn] at hq; cases hq), fun _ => ⟨hf, List.mem_cons_self, [], L, rfl, ?_, fun hm1 => ?_⟩⟩
        · exact (i1 (mvD fo ft E1 E2 e0 nE nm c0 m) (by unfold up; rw [if_pos rfl])).1
        · rw [if_neg (by rw [hm1]; decide)] at h4
          obtain ⟨h5, h6⟩ := List.append_eq_nil_iff.mp h4
          unfold tgB at h5
          cases ht : ft m.2.2.2.1 with
          | none =>
            rw [ht, if_pos rfl] at h5
            cases h5
          | some e =>
            rw [ht] at h6
            exact ⟨e, rfl, h6⟩
      · have hm : ¬ m.2.1 = w := fun q => c2 (Option.some.inj (hf.symm.trans ((hw _).mpr q)))
        have eu : up PM c1 (some (mvD fo ft E1 E2 e0 nE nm c0 m)) c = PM c := by
          unfold up
          rw [if_neg (fun q => c2 q.symm)]
        rw [decide_eq_false hm]
        refine ⟨fun q hq => i1 q (eu.trans hq), fun hn => ?_⟩
        have i3 := i2 (eu.trans hn)
        show pmQ fo ft E1 E2 e0 nE nm c c0 (m :: L) _ (L.find? (fun m => decide (m.2.1 = w)))
        cases hq : L.find? (fun m => decide (m.2.1 = w)) with
        | none =>
          rw [hq] at i3
          exact i3
        | some m2 =>
          rw [hq] at i3
          obtain ⟨j1, j2, pre, post, j3, j4, j5⟩ := i3
          have el : c0 + (moCod fo E1 e0 m).length + (pre.flatMap (moCod fo E1 e0)).length = c0 + ((m :: pre).flatMap (moCod fo E1 e0)).length := by
            rw [List.flatMap_cons, List.length_append, Nat.add_assoc]
          rw [el] at j4 j5
          exact ⟨j1, List.mem_cons_of_mem _ j2, m :: pre, post, by rw [j3]; rfl, j4, j5⟩
def pmV (ft : Int64 → Option Nat) (E1 E2 : Nat → kE) (nE : Option Nat → Nat) (nm : Option Nat → Nat → Int64) (cn : Nat → Int64) (c : Nat) : Option (Int32 × mS) → Option (Int32 × mS)
  | some v => some v
  | none => (ft (cn c)).map (fun t => (nI t, ihP (E1 c) (E2 t) (nm (some t)) (nE (some t)) 0 ms0))
theorem pmB_at {cn : Nat → Int64} (PM : pM) (i c : Nat) : pmB ft E1 E2 nE nm cn PM i c = if c = i then pmV ft E1 E2 nE nm cn i (PM i) else PM c := by
  unfold pmB
  cases hq : PM i with
  | some v =>
    show PM c = _
    by_cases e : c = i
    · rw [if_pos e, e, hq]
      rfl
    · rw [if_neg e]
  | none =>
    show (match ft (cn i) with
    | none => PM
    | some t => up PM i (some (nI t, ihP (E1 i) (E2 t) (nm (some t)) (nE (some t)) 0 ms0))) c = if c = i then (ft (cn i)).map _ else PM c
    cases hf : ft (cn i) with
    | none =>
      show PM c = _
      by_cases e : c = i
      · rw [if_pos e, e, hq]
        rfl
      · rw [if_neg e]
    | some t =>
      show up PM i _ c = _
      unfold up
      by_cases e : c = i
      · rw [if_pos e, if_pos e]
        rfl
      · rw [if_neg e, if_neg e]
theorem pmF_at {cn : Nat → Int64} {c : Nat} : ∀ (k i : Nat) (PM : pM), pmF ft E1 E2 nE nm cn k i PM c = if i ≤ c ∧ c < i + k then pmV ft E1 E2 nE nm cn c (PM c) else PM c
  | 0, i, PM => by
    rw [if_neg (by omega)]
    rfl
  | k + 1, i, PM => by
    show pmF ft E1 E2 nE nm cn k (i + 1) (pmB ft E1 E2 nE nm cn PM i) c = _
    rw [pmF_at k (i + 1), pmB_at]
    by_cases e : c = i
    · subst e
      rw [if_pos rfl, if_neg (by omega), if_pos (by omega)]
    · rw [if_neg e]
      by_cases e2 : i + 1 ≤ c ∧ c < i + 1 + k
      · rw [if_pos e2, if_pos (by omega)]
      · rw [if_neg e2, if_neg (by omega)]
end
theorem crusB_m {eo en : kE} {nN : Nat} {r : rT} : ∀ (R : List rT) (c0 : Nat) (ms : mS), crusB eo en nN c0 ms R = [] → r ∈ R → ∃ ms2, cruB eo en nN ms2 r = []
  | [], c0, ms, h, hr => absurd hr List.not_mem_nil
  | x :: R, c0, ms, h, hr => by
    have h : cruB eo en nN ms x ++ crusB eo en nN (c0 + (ruCod eo x).length) (ruStep eo en c0 ms x) R = [] := h
    obtain ⟨h1, h2⟩ := List.append_eq_nil_iff.mp h
    rcases List.mem_cons.mp hr with e | e
    · rw [e]
      exact ⟨ms, h1⟩
    · exact crusB_m R _ _ h2 e
/-- NAMES that are told once -/
def uqS (S : gS) (cN mN : Nat → Nat) : Prop := ∀ b, b < 8 → (∀ c, c < cN b → fC S cN b (sL S 1 (6 * b + c)) = some c) ∧ ∀ c, c < 6 → ∀ m, m < mN (6 * b + c) → (eK S mN b c).1 (sL S 3 (8 * (6 * b + c) + m)) = some m
theorem uqS.nm {S : gS} {cN mN ty : Nat → Nat} (h : uqS S cN mN) (hK : refT S cN mN ty) {b c : Nat} (hb : b < 8) (hc : c < 6) : nmH (eK S mN b c) (mN (6 * b + c)) (fun i => sL S 3 (8 * (6 * b + c) + i)) :=
  ⟨(hK.1.2 b c hb hc).2, fun i hi => (h b hb).2 c hc i hi, fun w i hw => by
    have := fnd_lt (f := fun i => sL S 3 (8 * (6 * b + c) + i)) hw
    exact ⟨this.1, this.2.symm⟩⟩
/-- a text that is good from BUILD a to b -/
def txG (S : gS) (cN mN : Nat → Nat) (a b : Nat) (L : List mT) : Prop := (∀ m, m ∈ L → m.2.2.1 ≤ 700 ∧ m.2.2.2.2.1 ≤ 700 ∧ ∀ r, r ∈ m.2.2.2.2.2 → rAll r) ∧ cmosB (fC S cN a) (fC S cN b) (eK S mN a) (eK S mN b) e00 (nEK mN b) (fun _ => false) 0 L = []
/-- the three things that can be told of a CLASS -/
def mvGd (S : gS) (cN mN : Nat → Nat) (a b : Nat) (L : List mT) (c : Nat) : dsT → Prop
  | none => pmK S cN mN a b L c = none
  | some none => ∃ ms, pmK S cN mN a b L c = some (-nI 1, ms)
  | some (some x) => x.1 < cN b ∧ (∀ r, r ∈ x.2 → rAll r) ∧ ∃ Cp Cq, cdK S cN mN a L = Cp ++ (x.2.flatMap (ruCod (eK S mN a c)) ++ Cq) ∧ pmK S cN mN a b L c = some (nI x.1, ihP (eK S mN a c) (eK S mN b x.1) (fun i => sL S 3 (8 * (6 * b + x.1) + i)) (mN (6 * b + x.1)) 0 (rusM (eK S mN a c) (eK S mN b x.1) Cp.length ms0 x.2)) ∧ crusB (eK S mN a c) (eK S mN b x.1) (mN (6 * b + x.1)) Cp.length ms0 x.2 = []
theorem mv_good {S : gS} {cN mN ty : Nat → Nat} {a b : Nat} {L : List mT} (hU : uqS S cN mN) (ha : a < 8) (hG : txG S cN mN a b L) {c : Nat} (hc : c < cN a) : mvGd S cN mN a b L c (dOf (fC S cN b) L (sL S 1 (6 * a + c))) := by
  have hw : ∀ v, fC S cN a v = some c ↔ v = sL S 1 (6 * a + c) := fun v => ⟨fun q => (fnd_lt (f := fun c => sL S 1 (6 * a + c)) q).2.symm, fun q => by rw [q]; exact (hU a ha).1 c hc⟩
  have hp := (pmL_at (ft := fC S cN b) (E1 := eK S mN a) (E2 := eK S mN b) (e0 := e00) (nE := nEK mN b) (nm := nmK S b) hw L (fun _ => none) 0 hG.2).2 rfl
  have ef : pmK S cN mN a b L c = pmV (fC S cN b) (eK S mN a) (eK S mN b) (nEK mN b) (nmK S b) (fun i => sL S 1 (6 * a + i)) c (pmL (fC S cN a) (fC S cN b) (eK S mN a) (eK S mN b) e00 (nEK mN b) (nmK S b) (fun _ => none) 0 L c) := by
    unfold pmK
    rw [pmF_at, if_pos (by omega)]
  unfold dOf
  cases hq : L.find? (fun m => decide (m.2.1 = sL S 1 (6 * a + c))) with
  | none =>
    rw [hq] at hp
    have hp : pmL (fC S cN a) (fC S cN b) (eK S mN a) (eK S mN b) e00 (nEK mN b) (nmK S b) (fun _ => none) 0 L c = none := hp
    rw [hp] at ef
    have ef : pmK S cN mN a b L c = (fC S cN b (sL S 1 (6 * a + c))).map (fun t => (nI t, ihP (eK S mN a c) (eK S mN b t) (nmK S b (some t)) (nEK mN b (some t)) 0 ms0)) := ef
    show mvGd S cN mN a b L c ((fC S cN b (sL S 1 (6 * a + c))).map (fun e => some (e, [])))
    cases hf : fC S cN b (sL S 1 (6 * a + c)) with
    | none =>
      rw [hf] at ef
      exact ef
    | some e =>
      rw [hf] at ef
      exact ⟨(fnd_lt (f := fun c => sL S 1 (6 * b + c)) hf).1, fun r hr => absurd hr List.not_mem_nil, [], cdK S cN mN a L, rfl, ef, rfl⟩
  | some m =>
    rw [hq] at hp
    obtain ⟨j1, j2, pre, post, j3, j4, j5⟩ := hp
    rw [j4] at ef
    have ef : pmK S cN mN a b L c = some (mvD (fC S cN a) (fC S cN b) (eK S mN a) (eK S mN b) e00 (nEK mN b) (nmK S b) (0 + (pre.flatMap (moCod (fC S cN a) (eK S mN a) e00)).length) m) := ef
    rw [Nat.zero_add] at ef j5
    show mvGd S cN mN a b L c (if m.1 = true then some none else (fC S cN b m.2.2.2.1).map (fun e => some (e, m.2.2.2.2.2)))
    unfold mvD at ef
    cases hm : m.1 with
    | true =>
      rw [if_pos hm] at ef
      rw [if_pos rfl]
      exact ⟨ms0, ef⟩
    | false =>
      rw [if_neg (by rw [hm]; decide), j1] at ef
      rw [if_neg (by decide)]
      obtain ⟨e, y1, y2⟩ := j5 hm
      rw [y1] at ef
      rw [y1]
      refine ⟨(fnd_lt (f := fun c => sL S 1 (6 * b + c)) y1).1, (hG.1 m j2).2.2, pre.flatMap (moCod (fC S cN a) (eK S mN a) e00), post.flatMap (moCod (fC S cN a) (eK S mN a) e00), ?_, ef, y2⟩
      unfold cdK
      rw [j3, List.flatMap_append, List.flatMap_cons]
      congr 2
      show m.2.2.2.2.2.flatMap (ruCod (oE (eK S mN a) e00 (fC S cN a m.2.1))) = _
      rw [j1]
      rfl
theorem actB_n {e : kE} {a : aT} {n : Nat} (hR : actR a) (h : actB e a = []) (hn : ∀ w m, e.1 w = some m → m < n) (h8 : n ≤ 8) : actW e a ∧ (a.1 = nI 3 → ∀ m, e.1 a.2.1 = some m → e.2.1 m = false) := by
  unfold actB at h
  by_cases c : a.1 = nI 3 ∨ a.1 = nI 4 ∨ a.1 = nI 5
  · rw [if_pos c] at h
    cases hf : e.1 a.2.1 with
    | none =>
      rw [hf] at h
      cases h
    | some m =>
      rw [hf] at h
      have h : (if (if a.1 = nI 5 then e.2.1 m else (!e.2.2 m && (if a.1 = nI 4 then e.2.1 m else !e.2.1 m))) = true then [] else [a.2.2]) = [] := h
      have hm := hn _ m hf
      refine ⟨Or.inr ⟨c, m, hf, by omega⟩, fun h3 m2 hm2 => ?_⟩
      cases hm2
      rw [h3, if_neg (show ¬ nI 3 = nI 5 by decide), if_neg (show ¬ nI 3 = nI 4 by decide)] at h
      cases hb : e.2.1 m with
      | false => rfl
      | true =>
        rw [hb, Bool.not_true, Bool.and_false] at h
        cases h
  · refine ⟨Or.inl ?_, fun h3 => absurd (Or.inl h3) c⟩
    unfold actR at hR
    rcases hR with q | q | q | q | q | q | q | q | q | q | q
    · exact Or.inl q
    · exact Or.inr (Or.inl q)
    · exact absurd (Or.inl q) c
    · exact absurd (Or.inr (Or.inl q)) c
    · exact absurd (Or.inr (Or.inr q)) c
    · exact Or.inr (Or.inr (Or.inl q))
    · exact Or.inr (Or.inr (Or.inr (Or.inl q)))
    · exact Or.inr (Or.inr (Or.inr (Or.inr (Or.inl q))))
    · exact Or.inr (Or.inr (Or.inr (Or.inr (Or.inr (Or.inl q)))))
    · exact Or.inr (Or.inr (Or.inr (Or.inr (Or.inr (Or.inr (Or.inl q))))))
    · exact Or.inr (Or.inr (Or.inr (Or.inr (Or.inr (Or.inr (Or.inr q))))))
section
variable {eo en : kE} {nN nO c0 : Nat} {nm no : Nat → Int64} {R : List rT}
theorem gr_w (ho : nmH eo nO no) (hg : crusB eo en nN c0 ms0 R = []) {r : rT} (hr : r ∈ R) (hA : rAll r) (h2 : ¬ r.1 = 2) (hj : ¬ r.2.2.2.2.1 = true) : ∀ a, a ∈ r.2.2.2.2.2 → actW eo a ∧ (a.1 = nI 3 → ∀ m, eo.1 a.2.1 = some m → eo.2.1 m = false) := by
  obtain ⟨ms2, hm⟩ := crusB_m R c0 ms0 hg hr
  obtain ⟨s, _, _, _, h4⟩ := cruB_n hm h2
  intro a ha
  have e : actB eo a = [] := by
    have := (h4 hj).1
    cases hq : actB eo a with
    | nil => rfl
    | cons x B =>
      have hx : x ∈ r.2.2.2.2.2.flatMap (actB eo) := List.mem_flatMap.mpr ⟨a, ha, by rw [hq]; exact List.mem_cons_self⟩
      rw [this] at hx
      exact absurd hx List.not_mem_nil
  exact actB_n (hA.1.2.2.2.1 a ha).1 e (fun w m h => (ho.2.2 w m h).1) ho.1
theorem gr_row (hn : nmH en nN nm) (hg : crusB eo en nN c0 ms0 R = []) (hA : ∀ r, r ∈ R → rAll r) {i : Nat} (hi : i < nN) {r : rT} (hf : R.find? (isR 1 (nm i)) = some r) : (¬ r.2.2.2.2.1 = true → en.2.1 i = false) ∧ (r.2.2.2.2.1 = true → ∃ m, eo.1 (hdV r.2.2.2.2.2) = some m ∧ eo.2.1 m = en.2.1 i) := by
  have hr := List.mem_of_find?_eq_some hf
  have hp := List.find?_some hf
  have hs := (sl_i hn hi (hA r hr).1.1).mpr hp
  obtain ⟨ms2, hm⟩ := crusB_m R c0 ms0 hg hr
  obtain ⟨s, h1, _, h3, h4⟩ := cruB_n hm hs.1
  have e : s = i := Option.some.inj (h1.symm.trans hs.2)
  subst e
  have er : slRow en nN (some s) = en.2.1 s := by
    show (decide (s < nN) && en.2.1 s) = _
    rw [decide_eq_true hi, Bool.true_and]
  refine ⟨fun hj => ?_, fun hj => ?_⟩
  · rw [← er]
    exact (h4 hj).2
  · obtain ⟨m, y1, y2⟩ := h3 hj
    exact ⟨m, y1, y2.trans er⟩
theorem gr_src (ho : nmH eo nO no) (hn : nmH en nN nm) (hg : crusB eo en nN c0 ms0 R = []) (hA : ∀ r, r ∈ R → rAll r) {i o : Nat} (hi : i < nN) (hp : (plR eo (en.2.1 i) R (nm i)).2 = some o) : o < nO ∧ eo.2.1 o = en.2.1 i := by
  unfold plR at hp
  cases hf : R.find? (isR 1 (nm i)) with
  | none =>
    rw [hf] at hp
    have hp : smO (eo.1 (nm i)) eo.2.1 (en.2.1 i) R (nm i) = some o := hp
    cases hq : eo.1 (nm i) with
    | none =>
      rw [hq] at hp
      cases hp
    | some q =>
      rw [hq] at hp
      have hp : (if eo.2.1 q = en.2.1 i ∧ fnR 2 (nm i) R 0 = none ∧ fnR 1 (nm i) R 0 = none then some q else none) = some o := hp
      split at hp
      · rename_i hc
        cases hp
        exact ⟨(ho.2.2 _ _ hq).1, hc.1⟩
      · cases hp
  | some r =>
    rw [hf] at hp
    have hp : (if r.2.2.2.2.1 = true then ((none : Option (List aT)), eo.1 (hdV r.2.2.2.2.2)) else (some r.2.2.2.2.2, none)).2 = some o := hp
    by_cases hj : r.2.2.2.2.1 = true
    · rw [if_pos hj] at hp
      obtain ⟨m, y1, y2⟩ := (gr_row hn hg hA hi hf).2 hj
      have e : m = o := Option.some.inj (y1.symm.trans hp)
      subst e
      exact ⟨(ho.2.2 _ _ y1).1, y2⟩
    · rw [if_neg hj] at hp
      cases hp
theorem gr_pl1 (hn : nmH en nN nm) (hg : crusB eo en nN c0 ms0 R = []) (hA : ∀ r, r ∈ R → rAll r) {i : Nat} (hi : i < nN) (hp : (plR eo (en.2.1 i) R (nm i)).1 ≠ none) : en.2.1 i = false ∧ ∃ r, r ∈ R ∧ ¬ r.1 = 2 ∧ ¬ r.2.2.2.2.1 = true ∧ (plR eo (en.2.1 i) R (nm i)).1 = some r.2.2.2.2.2 := by
  unfold plR at hp ⊢
  cases hf : R.find? (isR 1 (nm i)) with
  | none =>
    rw [hf] at hp
    exact absurd rfl hp
  | some r =>
    rw [hf] at hp
    have hp : (if r.2.2.2.2.1 = true then ((none : Option (List aT)), eo.1 (hdV r.2.2.2.2.2)) else (some r.2.2.2.2.2, none)).1 ≠ none := hp
    by_cases hj : r.2.2.2.2.1 = true
    · rw [if_pos hj] at hp
      exact absurd rfl hp
    · have hr := List.mem_of_find?_eq_some hf
      have hs := (sl_i hn hi (hA r hr).1.1).mpr (List.find?_some hf)
      refine ⟨(gr_row hn hg hA hi hf).1 hj, r, hr, hs.1, hj, ?_⟩
      show (if r.2.2.2.2.1 = true then ((none : Option (List aT)), eo.1 (hdV r.2.2.2.2.2)) else (some r.2.2.2.2.2, none)).1 = _
      rw [if_neg hj]
end
theorem cl_ls {kp fs : Nat → Bool} {eo en : kE} {vw : vW} {nm no : Nat → Int64} {R : List rT} : ∀ (k i : Nat), (∀ o, i ≤ o → o < i + k → (!kp o && !fs o) = lsB eo en vw nm R (no o) o) → clN kp fs k i = lsN eo en vw nm R no k i
  | 0, i, h => rfl
  | k + 1, i, h => by
    show (if (!kp i && !fs i) = true then 1 else 0) + clN kp fs k (i + 1) = (if lsB eo en vw nm R (no i) i = true then 1 else 0) + lsN eo en vw nm R no k (i + 1)
    rw [h i (Nat.le_refl _) (by omega), cl_ls k (i + 1) (fun o h1 h2 => h o (by omega) (by omega))]
