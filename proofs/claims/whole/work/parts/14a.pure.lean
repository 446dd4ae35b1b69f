/-! The pieces of a text one behind the other, and the grammar of a text of RULES. -/
theorem wdF_le (t : Nat → Int32) : ∀ (k p : Nat) (v : Int64) (m : Nat), p ≤ (wdF t k p v m).1 ∧ (wdF t k p v m).1 ≤ p + k
  | 0, p, v, m => ⟨Nat.le_refl _, Nat.le_refl _⟩
  | k + 1, p, v, m => by
    rw [wdF_s]
    split
    · have := wdF_le t k (p + 1) (sl8 v (t p)) (m + 1)
      omega
    · show p ≤ p ∧ p ≤ p + (k + 1)
      omega
theorem nuF_le (t : Nat → Int32) : ∀ (k p : Nat) (v : Int64), p ≤ (nuF t k p v).1 ∧ (nuF t k p v).1 ≤ p + k
  | 0, p, v => ⟨Nat.le_refl _, Nat.le_refl _⟩
  | k + 1, p, v => by
    rw [nuF_s]
    split
    · have := nuF_le t k (p + 1) (nuV v (t p))
      omega
    · show p ≤ p ∧ p ≤ p + (k + 1)
      omega
theorem wdF_gt {t : Nat → Int32} {k p : Nat} {v : Int64} {m : Nat} (h : isLt (t p) = true) (hk : 0 < k) : p + 1 ≤ (wdF t k p v m).1 := by
  cases k with
  | zero => omega
  | succ k =>
    rw [wdF_s, if_pos h]
    exact (wdF_le t k (p + 1) _ _).1
theorem nuF_gt {t : Nat → Int32} {k p : Nat} {v : Int64} (h : isDg (t p) = true) (hk : 0 < k) : p + 1 ≤ (nuF t k p v).1 := by
  cases k with
  | zero => omega
  | succ k =>
    rw [nuF_s, if_pos h]
    exact (nuF_le t k (p + 1) _).1
theorem sg_0 {c : Int32} (h : isSg c = true) : ¬ c = nI 0 := by
  intro e
  subst e
  revert h
  decide
/-- where the reader is behind a piece, where the piece stands; what it is unless the text ends -/
theorem pcF_ok (t : Nat → Int32) {n p : Nat} (hp : p ≤ n) : p ≤ (pcF t n p).2.1 ∧ (pcF t n p).2.1 ≤ (pcF t n p).1 ∧ (pcF t n p).1 ≤ n ∧ ((pcF t n p).2.2.2 = nI 0 ∧ (pcF t n p).2.1 = n ∧ (pcF t n p).1 = n ∧ (pcF t n p).2.2.1 = 0 ∨ ¬ (pcF t n p).2.2.2 = nI 0 ∧ (pcF t n p).2.1 + 1 ≤ (pcF t n p).1) := by
  have hs := skF_le t (n - p) p
  unfold pcF
  generalize skF t (n - p) p = q at hs ⊢
  by_cases h1 : q = n
  · subst h1
    rw [if_pos rfl]
    exact ⟨hs.1, Nat.le_refl _, Nat.le_refl _, Or.inl ⟨rfl, rfl, rfl, rfl⟩⟩
  · rw [if_neg h1]
    have hq : q < n := by omega
    by_cases h2 : isLt (t q) = true
    · rw [if_pos h2]
      have a1 := wdF_gt (v := 0) (m := 0) h2 (show 0 < n - q by omega)
      have a2 := (wdF_le t (n - q) q 0 0).2
      refine ⟨hs.1, ?_, ?_, Or.inr ⟨?_, a1⟩⟩
      · show q ≤ (wdF t (n - q) q 0 0).1
        omega
      · show (wdF t (n - q) q 0 0).1 ≤ n
        omega
      · show ¬ (if 8 < (wdF t (n - q) q 0 0).2.2 then nI 3 else nI 1) = nI 0
        split <;> decide
    · rw [if_neg h2]
      by_cases h3 : isDg (t q) = true
      · rw [if_pos h3]
        have a1 := nuF_gt (v := 0) h3 (show 0 < n - q by omega)
        have a2 := (nuF_le t (n - q) q 0).2
        refine ⟨hs.1, ?_, ?_, Or.inr ⟨?_, a1⟩⟩
        · show q ≤ (nuF t (n - q) q 0).1
          omega
        · show (nuF t (n - q) q 0).1 ≤ n
          omega
        · show ¬ (if 2147483647 < (nuF t (n - q) q 0).2 then nI 3 else nI 2) = nI 0
          split <;> decide
      · rw [if_neg h3]
        refine ⟨hs.1, Nat.le_succ q, ?_, Or.inr ⟨?_, Nat.le_refl _⟩⟩
        · show q + 1 ≤ n
          omega
        · show ¬ (if isSg (t q) = true then t q else nI 3) = nI 0
          split
          · rename_i h4
            exact sg_0 h4
          · decide
/-- pieces: what they are, where they stand, what they tell -/
abbrev pP : Type := (Nat → Int32) × (Nat → Nat) × (Nat → Int64)
def psF (t : Nat → Int32) (n : Nat) : Nat → Nat
  | 0 => 0
  | i + 1 => (pcF t n (psF t n i)).1
def pcs (t : Nat → Int32) (n : Nat) : pP := (fun i => (pcF t n (psF t n i)).2.2.2, fun i => (pcF t n (psF t n i)).2.1, fun i => (pcF t n (psF t n i)).2.2.1)
theorem psF_le (t : Nat → Int32) (n : Nat) : ∀ i, psF t n i ≤ n
  | 0 => Nat.zero_le _
  | i + 1 => (pcF_ok t (psF_le t n i)).2.2.1
theorem pcs_A (t : Nat → Int32) (n i : Nat) : (pcs t n).2.1 i ≤ n := by
  have := pcF_ok t (psF_le t n i)
  exact Nat.le_trans this.2.1 this.2.2.1
/-- places go up -/
theorem pcs_up (t : Nat → Int32) (n i : Nat) (h : ¬ (pcs t n).1 i = nI 0) : (pcs t n).2.1 i < (pcs t n).2.1 (i + 1) := by
  have h1 := pcF_ok t (psF_le t n i)
  have h2 := pcF_ok t (psF_le t n (i + 1))
  rcases h1.2.2.2 with q | q
  · exact absurd q.1 h
  · have h3 : psF t n (i + 1) = (pcF t n (psF t n i)).1 := rfl
    have h4 := h2.1
    show (pcF t n (psF t n i)).2.1 < (pcF t n (psF t n (i + 1))).2.1
    omega
theorem psF_far (t : Nat → Int32) (n : Nat) : ∀ i, (∀ q, q < i → ¬ (pcs t n).1 q = nI 0) → i ≤ psF t n i
  | 0, _ => Nat.zero_le _
  | i + 1, h => by
    have ih := psF_far t n i (fun q hq => h q (by omega))
    have h1 := pcF_ok t (psF_le t n i)
    rcases h1.2.2.2 with q | q
    · exact absurd q.1 (h i (by omega))
    · show i + 1 ≤ (pcF t n (psF t n i)).1
      omega
/-- the text has an end -/
theorem pcs_N (t : Nat → Int32) (n : Nat) : ∃ N, N ≤ n ∧ (pcs t n).1 N = nI 0 ∧ (∀ q, q < N → ¬ (pcs t n).1 q = nI 0) ∧ (pcs t n).2.1 N = n := by
  have key : ∀ k, (∃ N, N ≤ k ∧ (pcs t n).1 N = nI 0 ∧ ∀ q, q < N → ¬ (pcs t n).1 q = nI 0) ∨ ∀ q, q ≤ k → ¬ (pcs t n).1 q = nI 0 := by
    intro k
    induction k with
    | zero =>
      by_cases h : (pcs t n).1 0 = nI 0
      · exact Or.inl ⟨0, Nat.le_refl _, h, fun q hq => absurd hq (Nat.not_lt_zero _)⟩
      · refine Or.inr fun q hq => ?_
        have : q = 0 := by omega
        rw [this]
        exact h
    | succ k ih =>
      rcases ih with ⟨N, h1, h2⟩ | h1
      · exact Or.inl ⟨N, by omega, h2⟩
      · by_cases h : (pcs t n).1 (k + 1) = nI 0
        · exact Or.inl ⟨k + 1, Nat.le_refl _, h, fun q hq => h1 q (by omega)⟩
        · refine Or.inr fun q hq => ?_
          by_cases hq2 : q ≤ k
          · exact h1 q hq2
          · have : q = k + 1 := by omega
            rw [this]
            exact h
  rcases key n with ⟨N, h1, h2, h3⟩ | h1
  · refine ⟨N, h1, h2, h3, ?_⟩
    rcases (pcF_ok t (psF_le t n N)).2.2.2 with q | q
    · exact q.2.1
    · exact absurd h2 q.1
  · have h2 := psF_far t n (n + 1) (fun q hq => h1 q (by omega))
    have h3 := psF_le t n (n + 1)
    omega
/-- what is worked out: what, with what, told where -/
abbrev aT : Type := Int32 × Int64 × Nat
abbrev eR : Type := Nat ⊕ (Nat × List aT)
def ePre (L : List aT) : eR → eR
  | .inl j => .inl j
  | .inr (j, B) => .inr (j, L ++ B)
def ePost (L : List aT) : eR → eR
  | .inl j => .inl j
  | .inr (j, B) => .inr (j, B ++ L)
def eClo (p : pP) (c : Int32) (L : List aT) : eR → eR
  | .inl j => .inl j
  | .inr (j, B) => if p.1 j = c then .inr (j + 1, B ++ L) else .inl j
def opW (c : Int32) : Int32 := if c = nI 43 then nI 7 else if c = nI 45 then nI 8 else if c = nI 42 then nI 9 else if c = nI 47 then nI 10 else nI 11
def opA (c : Int32) : aT := (opW c, 0, 0)
def opL : Option Int32 → List aT
  | none => []
  | some c => [opA c]
def isPl (c : Int32) : Bool := decide (c = nI 43) || decide (c = nI 45)
def isTm (c : Int32) : Bool := decide (c = nI 42) || decide (c = nI 47) || decide (c = nI 37)
/-- what follows a factor -/
def tlF (p : pP) (g : Nat → eR) : Nat → Nat → Option Int32 → eR
  | 0, j, _ => .inl j
  | f + 1, j, w =>
    if isPl (p.1 j) = true then (match g (j + 1) with
      | .inl q => .inl q
      | .inr (q, B) => ePre (opL w ++ B) (tlF p g f q (some (p.1 j))))
    else if isTm (p.1 j) = true then (match g (j + 1) with
      | .inl q => .inl q
      | .inr (q, B) => ePre (B ++ [opA (p.1 j)]) (tlF p g f q w))
    else .inr (j, opL w)
def smF (p : pP) (g : Nat → eR) (i : Nat) : eR := match g i with
  | .inl q => .inl q
  | .inr (j, B) => ePre B (tlF p g 701 j none)
def pWd (p : pP) (i : Nat) (w : Int64) : Bool := decide (p.1 i = nI 1) && decide (p.2.2 i = w)
def pNm (p : pP) (i : Nat) : Bool := decide (p.1 i = nI 1) && !isW (p.2.2 i)
def fcG (p : pP) (r : Option (Nat → eR)) (i : Nat) : eR :=
  if p.1 i = nI 45 then (match r with
    | none => .inl i
    | some g => ePost [(nI 6, 0, 0)] (g (i + 1)))
  else if p.1 i = nI 40 then (match r with
    | none => .inl i
    | some g => eClo p (nI 41) [] (smF p g (i + 1)))
  else if p.1 i = nI 2 then .inr (i + 1, [(nI 1, p.2.2 i, p.2.1 i)])
  else if pWd p i 7038329 = true then .inr (i + 1, [(nI 2, 0, p.2.1 i)])
  else if p.1 i = nI 35 then (if pNm p (i + 1) = true then .inr (i + 2, [(nI 5, p.2.2 (i + 1), p.2.1 (i + 1))]) else .inl (i + 1))
  else if pNm p i = true then (if p.1 (i + 1) = nI 91 then (match r with
      | none => .inl (i + 1)
      | some g => eClo p (nI 93) [(nI 4, p.2.2 i, p.2.1 i)] (smF p g (i + 2)))
    else .inr (i + 1, [(nI 3, p.2.2 i, p.2.1 i)]))
  else .inl i
/-- a factor, where r more may lie within one another -/
def fcF (p : pP) : Nat → Nat → eR
  | 0 => fcG p none
  | r + 1 => fcG p (some (fcF p r))
def exF (p : pP) (i : Nat) : eR := smF p (fcF p 20) i
/-- a RULE: 0 of the KEY, 1 of a MEMBER, 2 a drop; its NAME; where it stands; where its E stands; whether that is just a NAME; what is worked out -/
abbrev rT : Type := Nat × Int64 × Nat × Nat × Bool × List aT
def jsB (p : pP) (i : Nat) : List aT → Bool
  | [a] => decide (a.1 = nI 3) && decide (nI a.2.2 = nI (p.2.1 i))
  | _ => false
def ruF (p : pP) (i : Nat) : Nat ⊕ (Nat × rT) :=
  if pWd p i 1685221232 = true then (if pNm p (i + 1) = true then (if p.1 (i + 2) = nI 59 then .inr (i + 3, (2, p.2.2 (i + 1), p.2.1 (i + 1), 0, false, [])) else .inl (i + 2)) else .inl (i + 1))
  else if pWd p i 7038329 = true ∨ pNm p i = true then (if p.1 (i + 1) = nI 61 then (match exF p (i + 2) with
      | .inl q => .inl q
      | .inr (j, B) => if p.1 j = nI 59 then .inr (j + 1, (if pWd p i 7038329 = true then 0 else 1, if pWd p i 7038329 = true then 0 else p.2.2 i, p.2.1 i, p.2.1 (i + 2), !pWd p i 7038329 && jsB p (i + 2) B, B)) else .inl j)
    else .inl (i + 1))
  else .inl i
/-- RULES as far as } -/
def rlF (p : pP) : Nat → Nat → Nat ⊕ (Nat × List rT)
  | 0, j => .inl j
  | f + 1, j => if p.1 j = nI 125 then .inr (j + 1, []) else (match ruF p j with
    | .inl q => .inl q
    | .inr (q, r) => (match rlF p f q with
      | .inl z => .inl z
      | .inr (z, L) => .inr (z, r :: L)))
/-- a MOVE, or a drop of a CLASS (true): the old NAME and its place, the new one and its place, RULES -/
abbrev mT : Type := Bool × Int64 × Nat × Int64 × Nat × List rT
def mvF (p : pP) (i : Nat) : Nat ⊕ (Nat × mT) :=
  if pWd p i 1685221232 = true then (if pNm p (i + 1) = true then (if p.1 (i + 2) = nI 59 then .inr (i + 3, (true, p.2.2 (i + 1), p.2.1 (i + 1), 0, 0, [])) else .inl (i + 2)) else .inl (i + 1))
  else if pWd p i 1836021349 = true then (if pNm p (i + 1) = true then (if pWd p (i + 2) 29807 = true then (if pNm p (i + 3) = true then (if p.1 (i + 4) = nI 123 then (match rlF p 701 (i + 5) with
      | .inl q => .inl q
      | .inr (q, L) => .inr (q, (false, p.2.2 (i + 1), p.2.1 (i + 1), p.2.2 (i + 3), p.2.1 (i + 3), L))) else .inl (i + 4)) else .inl (i + 3)) else .inl (i + 2)) else .inl (i + 1))
  else .inl i
def txF (p : pP) : Nat → Nat → Nat ⊕ List mT
  | 0, j => .inl j
  | f + 1, j => if p.1 j = nI 0 then .inr [] else (match mvF p j with
    | .inl q => .inl q
    | .inr (q, m) => (match txF p f q with
      | .inl z => .inl z
      | .inr L => .inr (m :: L)))
/-- a whole text -/
def teF (p : pP) : Nat ⊕ List mT := txF p 701 0
