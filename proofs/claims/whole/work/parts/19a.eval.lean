/-! An E is worked out: by heights alone it can be. -/
def isPu (w : Int32) : Bool := decide (w = nI 1) || decide (w = nI 2) || decide (w = nI 3) || decide (w = nI 5)
def isOn (w : Int32) : Bool := decide (w = nI 4) || decide (w = nI 6)
def hOK (mx : Nat) : List aT → Nat → Option Nat
  | [], n => some n
  | a :: B, n => if isPu a.1 = true then (if n < mx then hOK mx B (n + 1) else none) else if isOn a.1 = true then (if 1 ≤ n then hOK mx B n else none) else (if 2 ≤ n then hOK mx B (n - 1) else none)
theorem hOK_app (mx : Nat) : ∀ (A B : List aT) (n k : Nat), hOK mx A n = some k → hOK mx (A ++ B) n = hOK mx B k
  | [], B, n, k, h => by
    cases h
    rfl
  | a :: A, B, n, k, h => by
    show (if isPu a.1 = true then (if n < mx then hOK mx (A ++ B) (n + 1) else none) else if isOn a.1 = true then (if 1 ≤ n then hOK mx (A ++ B) n else none) else (if 2 ≤ n then hOK mx (A ++ B) (n - 1) else none)) = _
    have h2 : (if isPu a.1 = true then (if n < mx then hOK mx A (n + 1) else none) else if isOn a.1 = true then (if 1 ≤ n then hOK mx A n else none) else (if 2 ≤ n then hOK mx A (n - 1) else none)) = some k := h
    split at h2
    · split at h2
      · rw [if_pos (by assumption), if_pos (by assumption)]
        exact hOK_app mx A B _ k h2
      · cases h2
    · rw [if_neg (by assumption)]
      split at h2
      · split at h2
        · rw [if_pos (by assumption), if_pos (by assumption)]
          exact hOK_app mx A B _ k h2
        · cases h2
      · rw [if_neg (by assumption)]
        split at h2
        · rw [if_pos (by assumption)]
          exact hOK_app mx A B _ k h2
        · cases h2
/-- one more on the stack behind it, at heights up to mx - k -/
def eH (mx k : Nat) : eR → Prop
  | .inl _ => True
  | .inr (_, B) => ∀ n, n + k ≤ mx → hOK mx B n = some (n + 1)
theorem hOK_pu {mx n : Nat} {a : aT} (h : isPu a.1 = true) (hn : n < mx) : hOK mx [a] n = some (n + 1) := by
  show (if isPu a.1 = true then (if n < mx then hOK mx [] (n + 1) else none) else _) = _
  rw [if_pos h, if_pos hn]
  rfl
theorem hOK_on {mx n : Nat} {a : aT} (h0 : isPu a.1 = false) (h : isOn a.1 = true) (hn : 1 ≤ n) : hOK mx [a] n = some n := by
  show (if isPu a.1 = true then (if n < mx then hOK mx [] (n + 1) else none) else if isOn a.1 = true then (if 1 ≤ n then hOK mx [] n else none) else _) = _
  rw [if_neg (by rw [h0]; decide), if_pos h, if_pos hn]
  rfl
theorem hOK_tw {mx n : Nat} {a : aT} (h0 : isPu a.1 = false) (h : isOn a.1 = false) (hn : 2 ≤ n) : hOK mx [a] n = some (n - 1) := by
  show (if isPu a.1 = true then (if n < mx then hOK mx [] (n + 1) else none) else if isOn a.1 = true then (if 1 ≤ n then hOK mx [] n else none) else (if 2 ≤ n then hOK mx [] (n - 1) else none)) = _
  rw [if_neg (by rw [h0]; decide), if_neg (by rw [h]; decide), if_pos hn]
  rfl
theorem opA_h (c : Int32) : isPu (opA c).1 = false ∧ isOn (opA c).1 = false := by
  unfold opA opW
  split
  · decide
  · split
    · decide
    · split
      · decide
      · split <;> decide
theorem op_h (mx n : Nat) (c : Int32) (hn : 2 ≤ n) : hOK mx [opA c] n = some (n - 1) := hOK_tw (opA_h c).1 (opA_h c).2 hn
/-- what follows a factor leaves one: w waits or not -/
def tH (mx n : Nat) (w : Option Int32) : eR → Prop
  | .inl _ => True
  | .inr (_, B) => hOK mx B (match w with | none => n + 1 | some _ => n + 2) = some (n + 1)
theorem tl_h {p : pP} {g : Nat → eR} {mx k n : Nat} (hg : ∀ i, eH mx k (g i)) (hn : n + 2 + k ≤ mx) : ∀ (f j : Nat) (w : Option Int32), tH mx n w (tlF p g f j w)
  | 0, j, w => trivial
  | f + 1, j, w => by
    unfold tlF
    split
    · have h := hg (j + 1)
      split
      · trivial
      · rename_i q B e
        rw [e] at h
        have ih := tl_h (p := p) hg hn f q (some (p.1 j))
        cases ht : tlF p g f q (some (p.1 j)) with
        | inl z => trivial
        | inr z =>
          rw [ht] at ih
          have ih2 : hOK mx z.2 (n + 2) = some (n + 1) := ih
          show hOK mx ((opL w ++ B) ++ z.2) _ = _
          cases w with
          | none =>
            show hOK mx (([] ++ B) ++ z.2) (n + 1) = _
            rw [List.nil_append, hOK_app mx B z.2 (n + 1) (n + 2) (h (n + 1) (by omega))]
            exact ih2
          | some c =>
            show hOK mx (([opA c] ++ B) ++ z.2) (n + 2) = _
            rw [List.append_assoc, hOK_app mx [opA c] (B ++ z.2) (n + 2) (n + 1) (op_h mx (n + 2) c (by omega)), hOK_app mx B z.2 (n + 1) (n + 2) (h (n + 1) (by omega))]
            exact ih2
    · split
      · have h := hg (j + 1)
        split
        · trivial
        · rename_i q B e
          rw [e] at h
          have ih := tl_h (p := p) hg hn f q w
          cases ht : tlF p g f q w with
          | inl z => trivial
          | inr z =>
            rw [ht] at ih
            show hOK mx ((B ++ [opA (p.1 j)]) ++ z.2) _ = _
            rw [List.append_assoc]
            cases w with
            | none =>
              have ih2 : hOK mx z.2 (n + 1) = some (n + 1) := ih
              show hOK mx (B ++ ([opA (p.1 j)] ++ z.2)) (n + 1) = _
              rw [hOK_app mx B _ (n + 1) (n + 2) (h (n + 1) (by omega)), hOK_app mx [opA (p.1 j)] z.2 (n + 2) (n + 1) (op_h mx (n + 2) _ (by omega))]
              exact ih2
            | some c =>
              have ih2 : hOK mx z.2 (n + 2) = some (n + 1) := ih
              show hOK mx (B ++ ([opA (p.1 j)] ++ z.2)) (n + 2) = _
              rw [hOK_app mx B _ (n + 2) (n + 3) (h (n + 2) (by omega)), hOK_app mx [opA (p.1 j)] z.2 (n + 3) (n + 2) (op_h mx (n + 3) _ (by omega))]
              exact ih2
      · cases w with
        | none => exact (rfl : hOK mx [] (n + 1) = some (n + 1))
        | some c => exact op_h mx (n + 2) c (by omega)
theorem sm_h {p : pP} {g : Nat → eR} {mx k : Nat} (hg : ∀ i, eH mx k (g i)) (i : Nat) : eH mx (k + 2) (smF p g i) := by
  unfold smF
  have h := hg i
  split
  · trivial
  · rename_i j B e
    rw [e] at h
    cases ht : tlF p g 701 j none with
    | inl z => trivial
    | inr z =>
      intro n hn
      have h2 := tl_h (p := p) hg (show n + 2 + k ≤ mx by omega) 701 j none
      rw [ht] at h2
      have h3 : hOK mx z.2 (n + 1) = some (n + 1) := h2
      show hOK mx (B ++ z.2) n = _
      rw [hOK_app mx B z.2 n (n + 1) (h n (by omega))]
      exact h3
theorem eH.mono {mx k k' : Nat} {e : eR} (h : eH mx k e) (hk : k ≤ k') : eH mx k' e := by
  cases e with
  | inl q => trivial
  | inr z => exact fun n hn => h n (by omega)
theorem eH.post {mx k : Nat} {a : aT} {e : eR} (h : eH mx k e) (h0 : isPu a.1 = false) (h1 : isOn a.1 = true) : eH mx k (ePost [a] e) := by
  cases e with
  | inl q => trivial
  | inr z =>
    intro n hn
    show hOK mx (z.2 ++ [a]) n = _
    rw [hOK_app mx z.2 [a] n (n + 1) (h n hn)]
    exact hOK_on h0 h1 (by omega)
theorem eH.clo {p : pP} {c : Int32} {mx k : Nat} {L : List aT} {e : eR} (h : eH mx k e) (hL : ∀ n, 1 ≤ n → hOK mx L n = some n) : eH mx k (eClo p c L e) := by
  cases e with
  | inl q => trivial
  | inr z =>
    show eH mx k (if p.1 z.1 = c then .inr (z.1 + 1, z.2 ++ L) else .inl z.1)
    split
    · intro n hn
      show hOK mx (z.2 ++ L) n = _
      rw [hOK_app mx z.2 L n (n + 1) (h n hn)]
      exact hL (n + 1) (by omega)
    · trivial
theorem fcG_h {p : pP} {mx k : Nat} (h1 : 1 ≤ k) {r : Option (Nat → eR)} (hr : ∀ g, r = some g → ∃ q, q + 2 ≤ k ∧ ∀ i, eH mx q (g i)) (i : Nat) : eH mx k (fcG p r i) := by
  unfold fcG
  split
  · split
    · trivial
    · rename_i g
      obtain ⟨q, hq, hg⟩ := hr g rfl
      exact ((hg (i + 1)).mono (by omega)).post (by decide) (by decide)
  · split
    · split
      · trivial
      · rename_i g
        obtain ⟨q, hq, hg⟩ := hr g rfl
        exact ((sm_h hg (i + 1)).mono hq).clo (fun n _ => rfl)
    · split
      · exact fun n hn => hOK_pu (by rfl) (by omega)
      · split
        · exact fun n hn => hOK_pu (by rfl) (by omega)
        · split
          · split
            · exact fun n hn => hOK_pu (by rfl) (by omega)
            · trivial
          · split
            · split
              · split
                · trivial
                · rename_i g
                  obtain ⟨q, hq, hg⟩ := hr g rfl
                  exact ((sm_h hg (i + 2)).mono hq).clo (fun n hn => hOK_on (by rfl) (by rfl) hn)
              · exact fun n hn => hOK_pu (by rfl) (by omega)
            · trivial
theorem fcF_h (p : pP) (mx : Nat) : ∀ (r i : Nat), eH mx (2 * r + 1) (fcF p r i)
  | 0, i => fcG_h (by omega) (fun g e => by cases e) i
  | r + 1, i => fcG_h (by omega) (fun g e => by
      cases e
      exact ⟨2 * r + 1, by omega, fcF_h p mx r⟩) i
/-- an E takes 43 places of a stack at the most -/
theorem exF_h (p : pP) {i j : Nat} {B : List aT} (h : exF p i = .inr (j, B)) (mx : Nat) (h43 : 43 ≤ mx) : hOK mx B 0 = some 1 := by
  have h1 := sm_h (p := p) (mx := mx) (fcF_h p mx 20) i
  unfold exF at h
  rw [h] at h1
  exact h1 0 (by omega)
/-! What it comes to. -/
def rk (w : Int32) (a b : Int64) : Nat ⊕ Int64 :=
  if w = nI 7 then (if ovA a b = true then .inl 2 else .inr (a + b))
  else if w = nI 8 then (if ovS a b = true then .inl 2 else .inr (a - b))
  else if w = nI 9 then (if (a * b).toInt = a.toInt * b.toInt then .inr (a * b) else .inl 2)
  else if w = nI 10 then (match quW a b with
    | some k => .inl k
    | none => .inr (quV a b))
  else (match reW b with
    | some k => .inl k
    | none => .inr (reV a b))
/-- a VALUE: its KEY, how many it has of a MEMBER, what they are -/
abbrev vW : Type := Int64 × (Nat → Nat) × (Nat → Nat → Int64)
def evM (e : kE) (v : vW) (w : Int32) (x : Int64) : Int64 :=
  if w = nI 1 then x else if w = nI 2 then v.1 else match e.1 x with
    | none => 0
    | some m => if w = nI 3 then v.2.2 m 0 else lN (v.2.1 m)
def evI (e : kE) (v : vW) (x i : Int64) : Nat ⊕ Int64 := match e.1 x with
  | none => .inl 5
  | some m => if 0 ≤ i ∧ i < lN (v.2.1 m) then .inr (v.2.2 m (i.toUInt64.toNat)) else .inl 5
def evO (e : kE) (v : vW) (a : aT) (i : Int64) : Nat ⊕ Int64 := if a.1 = nI 4 then evI e v a.2.1 i else if i = -9223372036854775808 then .inl 2 else .inr (-i)
def evA (e : kE) (v : vW) (a : aT) (f : Nat → Int64) (n : Nat) : Nat ⊕ ((Nat → Int64) × Nat) :=
  if isPu a.1 = true then .inr (up f n (evM e v a.1 a.2.1), n + 1)
  else if isOn a.1 = true then (match evO e v a (f (n - 1)) with
    | .inl k => .inl k
    | .inr x => .inr (up f (n - 1) x, n))
  else (match rk a.1 (f (n - 2)) (f (n - 1)) with
    | .inl k => .inl k
    | .inr x => .inr (up f (n - 2) x, n - 1))
def evF (e : kE) (v : vW) : List aT → (Nat → Int64) → Nat → Nat ⊕ ((Nat → Int64) × Nat)
  | [], f, n => .inr (f, n)
  | a :: B, f, n => match evA e v a f n with
    | .inl k => .inl k
    | .inr z => evF e v B z.1 z.2
/-- an E of a VALUE: a fault, or what it comes to -/
def evE (e : kE) (v : vW) (B : List aT) : Nat ⊕ Int64 := match evF e v B (fun _ => 0) 0 with
  | .inl k => .inl k
  | .inr z => .inr (z.1 0)
theorem evA_n {e : kE} {v : vW} {a : aT} {f : Nat → Int64} {n mx k : Nat} {B : List aT} {z : (Nat → Int64) × Nat} (h : evA e v a f n = .inr z) (hk : hOK mx (a :: B) n = some k) : hOK mx B z.2 = some k := by
  have h2 : (if isPu a.1 = true then (if n < mx then hOK mx B (n + 1) else none) else if isOn a.1 = true then (if 1 ≤ n then hOK mx B n else none) else (if 2 ≤ n then hOK mx B (n - 1) else none)) = some k := hk
  unfold evA at h
  split at h
  · rw [if_pos (by assumption)] at h2
    split at h2
    · cases h
      exact h2
    · cases h2
  · rw [if_neg (by assumption)] at h2
    split at h
    · rw [if_pos (by assumption)] at h2
      split at h2
      · split at h
        · cases h
        · cases h
          exact h2
      · cases h2
    · rw [if_neg (by assumption)] at h2
      split at h2
      · split at h
        · cases h
        · cases h
          exact h2
      · cases h2
