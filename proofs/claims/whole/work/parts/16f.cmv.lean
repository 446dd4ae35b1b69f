/-! A Move of the class, as functions. -/
abbrev mS : Type := (Nat → Bool) × (Nat → Option Nat) × (Nat → Nat) × (Nat → Nat) × (Nat → Bool) × (Nat → Bool)
def up {α : Type} (f : Nat → α) (i : Nat) (v : α) : Nat → α := fun q => if q = i then v else f q
def msT (T : gS) (tg : Int32) (ms : mS) : Prop := sI T 0 = tg ∧ (∀ i, True → sA T 4 i = bI (ms.1 i)) ∧ (∀ i, i < 8 → sA T 1 i = oI (ms.2.1 i)) ∧ (∀ i, i < 9 → sA T 2 i = nI (ms.2.2.1 i) ∧ sA T 3 i = nI (ms.2.2.2.1 i)) ∧ (∀ i, True → sA T 5 i = bI (ms.2.2.2.2.1 i)) ∧ ∀ i, i < 8 → sA T 6 i = bI (ms.2.2.2.2.2 i)
def msClaim (ms : mS) (s : Nat) : mS := (up ms.1 s true, ms.2)
def msDrop (ms : mS) (m : Nat) : mS := (ms.1, ms.2.1, ms.2.2.1, ms.2.2.2.1, up ms.2.2.2.2.1 m true, up ms.2.2.2.2.2 m true)
def msCopy (ms : mS) (s m : Nat) : mS := (ms.1, up ms.2.1 s (some m), ms.2.2.1, ms.2.2.2.1, ms.2.2.2.2.1, up ms.2.2.2.2.2 m true)
def msWork (ms : mS) (s a b : Nat) : mS := (ms.1, ms.2.1, up ms.2.2.1 s a, up ms.2.2.2.1 s b, ms.2.2.2.2)
def msTold (ms : mS) (f : Nat → Bool) : mS := (ms.1, ms.2.1, ms.2.2.1, ms.2.2.2.1, ms.2.2.2.2.1, fun m => ms.2.2.2.2.2 m || f m)
theorem up_bI (f : Nat → Bool) (i j : Nat) : bI (up f i true j) = if j = i then nI 1 else bI (f j) := by
  unfold up
  by_cases h : j = i
  · rw [if_pos h, if_pos h, bI_t]
  · rw [if_neg h, if_neg h]
theorem msT.claim {T : gS} {tg : Int32} {ms : mS} (h : msT T tg ms) (s : Nat) : msT (uA T 4 s (nI 1)) tg (msClaim ms s) := by
  obtain ⟨h0, h1, h2, h3, h4, h5⟩ := h
  refine ⟨h0, fun i hi => ?_, fun i hi => ?_, fun i hi => ?_, fun i hi => ?_, fun i hi => ?_⟩
  · show _ = bI (up ms.1 s true i)
    rw [up_bI, sA_uA]
    by_cases e : i = s
    · rw [if_pos ⟨rfl, e⟩, if_pos e]
    · rw [if_neg (fun z => e z.2), if_neg e]
      exact h1 i hi
  · rw [sA_uA_ne _ _ _ (by decide)]
    exact h2 i hi
  · rw [sA_uA_ne _ _ _ (by decide), sA_uA_ne _ _ _ (by decide)]
    exact h3 i hi
  · rw [sA_uA_ne _ _ _ (by decide)]
    exact h4 i hi
  · rw [sA_uA_ne _ _ _ (by decide)]
    exact h5 i hi
theorem msT.drop {T : gS} {tg : Int32} {ms : mS} (h : msT T tg ms) (m : Nat) : msT (uA (uA T 5 m (nI 1)) 6 m (nI 1)) tg (msDrop ms m) := by
  obtain ⟨h0, h1, h2, h3, h4, h5⟩ := h
  refine ⟨h0, fun i hi => ?_, fun i hi => ?_, fun i hi => ?_, fun i hi => ?_, fun i hi => ?_⟩
  · rw [sA_uA_ne _ _ _ (by decide), sA_uA_ne _ _ _ (by decide)]
    exact h1 i hi
  · rw [sA_uA_ne _ _ _ (by decide), sA_uA_ne _ _ _ (by decide)]
    exact h2 i hi
  · rw [sA_uA_ne _ _ _ (by decide), sA_uA_ne _ _ _ (by decide), sA_uA_ne _ _ _ (by decide), sA_uA_ne _ _ _ (by decide)]
    exact h3 i hi
  · show _ = bI (up ms.2.2.2.2.1 m true i)
    rw [up_bI, sA_uA_ne _ _ _ (by decide), sA_uA]
    by_cases e : i = m
    · rw [if_pos ⟨rfl, e⟩, if_pos e]
    · rw [if_neg (fun z => e z.2), if_neg e]
      exact h4 i hi
  · show _ = bI (up ms.2.2.2.2.2 m true i)
    rw [up_bI, sA_uA]
    by_cases e : i = m
    · rw [if_pos ⟨rfl, e⟩, if_pos e]
    · rw [if_neg (fun z => e z.2), if_neg e, sA_uA_ne _ _ _ (by decide)]
      exact h5 i hi
theorem msT.copy {T : gS} {tg : Int32} {ms : mS} (h : msT T tg ms) (s m : Nat) : msT (uA (uA T 1 s (nI m)) 6 m (nI 1)) tg (msCopy ms s m) := by
  obtain ⟨h0, h1, h2, h3, h4, h5⟩ := h
  refine ⟨h0, fun i hi => ?_, fun i hi => ?_, fun i hi => ?_, fun i hi => ?_, fun i hi => ?_⟩
  · rw [sA_uA_ne _ _ _ (by decide), sA_uA_ne _ _ _ (by decide)]
    exact h1 i hi
  · show _ = oI (up ms.2.1 s (some m) i)
    unfold up
    rw [sA_uA_ne _ _ _ (by decide), sA_uA]
    by_cases e : i = s
    · rw [if_pos ⟨rfl, e⟩, if_pos e]
      rfl
    · rw [if_neg (fun z => e z.2), if_neg e]
      exact h2 i hi
  · rw [sA_uA_ne _ _ _ (by decide), sA_uA_ne _ _ _ (by decide), sA_uA_ne _ _ _ (by decide), sA_uA_ne _ _ _ (by decide)]
    exact h3 i hi
  · rw [sA_uA_ne _ _ _ (by decide), sA_uA_ne _ _ _ (by decide)]
    exact h4 i hi
  · show _ = bI (up ms.2.2.2.2.2 m true i)
    rw [up_bI, sA_uA]
    by_cases e : i = m
    · rw [if_pos ⟨rfl, e⟩, if_pos e]
    · rw [if_neg (fun z => e z.2), if_neg e, sA_uA_ne _ _ _ (by decide)]
      exact h5 i hi
theorem msT.work {T : gS} {tg : Int32} {ms : mS} (h : msT T tg ms) (s a b : Nat) : msT (uA (uA T 2 s (nI a)) 3 s (nI b)) tg (msWork ms s a b) := by
  obtain ⟨h0, h1, h2, h3, h4, h5⟩ := h
  refine ⟨h0, fun i hi => ?_, fun i hi => ?_, fun i hi => ⟨?_, ?_⟩, fun i hi => ?_, fun i hi => ?_⟩
  · rw [sA_uA_ne _ _ _ (by decide), sA_uA_ne _ _ _ (by decide)]
    exact h1 i hi
  · rw [sA_uA_ne _ _ _ (by decide), sA_uA_ne _ _ _ (by decide)]
    exact h2 i hi
  · show _ = nI (up ms.2.2.1 s a i)
    unfold up
    rw [sA_uA_ne _ _ _ (by decide), sA_uA]
    by_cases e : i = s
    · rw [if_pos ⟨rfl, e⟩, if_pos e]
    · rw [if_neg (fun z => e z.2), if_neg e]
      exact (h3 i hi).1
  · show _ = nI (up ms.2.2.2.1 s b i)
    unfold up
    rw [sA_uA]
    by_cases e : i = s
    · rw [if_pos ⟨rfl, e⟩, if_pos e]
    · rw [if_neg (fun z => e z.2), if_neg e, sA_uA_ne _ _ _ (by decide)]
      exact (h3 i hi).2
  · rw [sA_uA_ne _ _ _ (by decide), sA_uA_ne _ _ _ (by decide)]
    exact h4 i hi
  · rw [sA_uA_ne _ _ _ (by decide), sA_uA_ne _ _ _ (by decide)]
    exact h5 i hi
theorem msT.told {T T' : gS} {tg : Int32} {ms : mS} {e : kE} {B : List aT} (h : msT T tg ms) (hk : keV e B T T') : msT T' tg (msTold ms (tld e B)) := by
  obtain ⟨h0, h1, h2, h3, h4, h5⟩ := h
  have f := hk.1
  refine ⟨(f 0 (by decide)).1.trans h0, fun i hi => ?_, fun i hi => ?_, fun i hi => ⟨?_, ?_⟩, fun i hi => ?_, fun i hi => ?_⟩
  · rw [(f 4 (by decide)).2.2.1]
    exact h1 i hi
  · rw [(f 1 (by decide)).2.2.1]
    exact h2 i hi
  · rw [(f 2 (by decide)).2.2.1]
    exact (h3 i hi).1
  · rw [(f 3 (by decide)).2.2.1]
    exact (h3 i hi).2
  · rw [(f 5 (by decide)).2.2.1]
    exact h4 i hi
  · show _ = bI (ms.2.2.2.2.2 i || tld e B i)
    rw [hk.2 i, h5 i hi]
    cases tld e B i
    · rw [Bool.or_false]
      rfl
    · rw [Bool.or_true, bI_t]
      rfl
/-- the slot of a RULE that is no drop -/
def ruSl (en : kE) (r : rT) : Option Nat := if r.1 = 0 then some 8 else en.1 r.2.1
def slClaim (ms : mS) : Option Nat → mS
  | none => ms
  | some s => if ms.1 s = true then ms else msClaim ms s
def slCopy (ms : mS) : Option Nat → Option Nat → mS
  | none, _ => ms
  | some _, none => ms
  | some s, some m => msCopy ms s m
def slWork (ms : mS) (a b : Nat) : Option Nat → mS
  | none => ms
  | some s => msWork ms s a b
def drMs (ms : mS) : Option Nat → mS
  | none => ms
  | some m => if ms.2.2.2.2.1 m = true then ms else msDrop ms m
def drBad (ms : mS) (a : Nat) : Option Nat → List Nat
  | none => [a]
  | some m => if ms.2.2.2.2.1 m = true then [a] else []
def slBad (ms : mS) (a : Nat) : Option Nat → List Nat
  | none => [a]
  | some s => if ms.1 s = true then [a] else []
/-- what a RULE does to a Move; c0: how many codes there are ahead of it -/
def ruStep (eo en : kE) (c0 : Nat) (ms : mS) (r : rT) : mS :=
  if r.1 = 2 then drMs ms (eo.1 r.2.1)
  else if r.2.2.2.2.1 = true then slCopy (slClaim ms (ruSl en r)) (ruSl en r) (eo.1 (hdV r.2.2.2.2.2))
  else slWork (msTold (slClaim ms (ruSl en r)) (tld eo r.2.2.2.2.2)) c0 (c0 + r.2.2.2.2.2.length) (ruSl en r)
def ruCod (eo : kE) (r : rT) : List cT := if r.2.2.2.2.1 = true then [] else r.2.2.2.2.2.map (cod eo)
def slRow (en : kE) (nN : Nat) : Option Nat → Bool
  | none => false
  | some s => decide (s < nN) && en.2.1 s
def juBad (eo : kE) (row : Bool) (a : Nat) : Option Nat → List Nat
  | none => [a]
  | some m => if eo.2.1 m = row then [] else [a]
/-- the places that the class notes -/
def cruB (eo en : kE) (nN : Nat) (ms : mS) (r : rT) : List Nat :=
  if r.1 = 2 then drBad ms r.2.2.1 (eo.1 r.2.1)
  else slBad ms r.2.2.1 (ruSl en r) ++
    (if r.2.2.2.2.1 = true then juBad eo (slRow en nN (ruSl en r)) r.2.2.2.1 (eo.1 (hdV r.2.2.2.2.2))
    else r.2.2.2.2.2.flatMap (actB eo) ++ (if slRow en nN (ruSl en r) = true then [r.2.2.2.1] else []))
/-- the new CLASS beside the old one -/
def cS2 (Q P κ A κN : Nat) (SP SK SN : gS) (nO nN N : Nat) (p : pP) : Prop := cS Q P κ A SP SK nO N p ∧ dj 4 Q 1 κN ∧ dj 3 A 1 κN ∧ kOK SN nN
def cH2 (P κ A κN : Nat) (SP SK SN T : gS) (h : xH) : Prop := cH P κ A SP SK T h ∧ isB 1 h κN SN
theorem cH2.mv {Q P κ A κN : Nat} {SP SK SN T : gS} {nO nN N : Nat} {p : pP} {h : xH} (hh : cH2 P κ A κN SP SK SN T h) (hs : cS2 Q P κ A κN SP SK SN nO nN N p) (T' : gS) : cH2 P κ A κN SP SK SN T' (oh 3 h A T') := ⟨hh.1.mv hs.1 T', hh.2.frame hs.2.2.1⟩
theorem n_isN {Q P κ A κN : Nat} {SP SK SN T : gS} {nO nN N : Nat} {p : pP} {h : xH} (hs : cS2 Q P κ A κN SP SK SN nO nN N p) (hh : cH2 P κ A κN SP SK SN T h) : ∀ (S : gS) {α : Type} (f : Option α), xis (oh 4 h Q S) κN 1 f = f := fun _ _ f => h_is (hh.2.frame hs.2.1) f
theorem n_find (d : Nat) {Q P κ A κN : Nat} {SP SK SN T : gS} {nO nN N : Nat} {p : pP} {h : xH} {S : gS} {w : Int64} (hs : cS2 Q P κ A κN SP SK SN nO nN N p) (hh : cH2 P κ A κN SP SK SN T h) : xm (d + 1) 19 [.ref κN, .long w] (oh 4 h Q S) = some (some (.int (oI ((eC SN nN).1 w))), oh 4 h Q S) :=
  c_kfind d (oh 4 h Q S) κN nN SN w (hh.2.frame hs.2.1) hs.2.2.2
theorem n_isRow (d : Nat) {Q P κ A κN : Nat} {SP SK SN T : gS} {nO nN N : Nat} {p : pP} {h : xH} {S : gS} {sl : Option Nat} (hs : cS2 Q P κ A κN SP SK SN nO nN N p) (hh : cH2 P κ A κN SP SK SN T h) (hsl : ∀ s, sl = some s → s < 9) : xm (d + 1) 29 [.ref κN, .int (oI sl)] (oh 4 h Q S) = some (some (.int (bI (slRow (eC SN nN) nN sl))), oh 4 h Q S) := by
  cases sl with
  | none => exact c_isRow_n d (oh 4 h Q S) κN (-nI 1) SN (hh.2.frame hs.2.1) (by decide)
  | some s => exact c_isRow d (oh 4 h Q S) κN nN s SN (hh.2.frame hs.2.1) hs.2.2.2 (by have := hsl s rfl; omega)
theorem n_claim (d : Nat) {Q P κ A κN : Nat} {SP SK SN T : gS} {nO nN N : Nat} {p : pP} {h : xH} {S : gS} {s : Nat} {tg : Int32} {ms : mS} (hs : cS2 Q P κ A κN SP SK SN nO nN N p) (hh : cH2 P κ A κN SP SK SN T h) (hm : msT T tg ms) (h9 : s < 9) : ∃ T', xm (d + 1) 58 [.ref A, .int (nI s)] (oh 4 h Q S) = some (some (.int (bI (!ms.1 s))), oh 4 (oh 3 h A T') Q S) ∧ msT T' tg (if ms.1 s = true then ms else msClaim ms s) := by
  refine ⟨if ms.1 s = true then T else uA T 4 s (nI 1), ?_, ?_⟩
  · rw [c_claim d (oh 4 h Q S) A s T (ms.1 s) (hh.1.2.2.frame hs.1.2.2.1) (by omega) (hm.2.1 s trivial), oh_comm hs.1.2.2.1.symm]
  · by_cases e : ms.1 s = true
    · rw [if_pos e, if_pos e]
      exact hm
    · rw [if_neg e, if_neg e]
      exact hm.claim s
theorem n_drop (d : Nat) {Q P κ A κN : Nat} {SP SK SN T : gS} {nO nN N : Nat} {p : pP} {h : xH} {S : gS} {m : Nat} {tg : Int32} {ms : mS} (hs : cS2 Q P κ A κN SP SK SN nO nN N p) (hh : cH2 P κ A κN SP SK SN T h) (hm : msT T tg ms) (h8 : m < 8) : ∃ T', xm (d + 1) 57 [.ref A, .int (nI m)] (oh 4 h Q S) = some (some (.int (bI (!ms.2.2.2.2.1 m))), oh 4 (oh 3 h A T') Q S) ∧ msT T' tg (if ms.2.2.2.2.1 m = true then ms else msDrop ms m) := by
  refine ⟨if ms.2.2.2.2.1 m = true then T else uA (uA T 5 m (nI 1)) 6 m (nI 1), ?_, ?_⟩
  · rw [c_drop d (oh 4 h Q S) A m T (ms.2.2.2.2.1 m) (hh.1.2.2.frame hs.1.2.2.1) h8 (hm.2.2.2.2.1 m trivial), oh_comm hs.1.2.2.1.symm]
  · by_cases e : ms.2.2.2.2.1 m = true
    · rw [if_pos e, if_pos e]
      exact hm
    · rw [if_neg e, if_neg e]
      exact hm.drop m
