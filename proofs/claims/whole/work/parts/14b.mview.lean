/-! What the reference holds while it works on an E. -/
/-- all but the fields of P are as they were -/
def fr (P : Nat → Bool) (S T : gS) : Prop := ∀ k, P k = false → sI T k = sI S k ∧ sJ T k = sJ S k ∧ sA T k = sA S k ∧ sL T k = sL S k ∧ sR T k = sR S k ∧ sQ T k = sQ S k
theorem fr.rfl {P : Nat → Bool} {S : gS} : fr P S S := fun _ _ => ⟨Eq.refl _, Eq.refl _, Eq.refl _, Eq.refl _, Eq.refl _, Eq.refl _⟩
theorem fr.trans {P : Nat → Bool} {S T U : gS} (h1 : fr P S T) (h2 : fr P T U) : fr P S U := fun k hk => by
  obtain ⟨a1, a2, a3, a4, a5, a6⟩ := h1 k hk
  obtain ⟨b1, b2, b3, b4, b5, b6⟩ := h2 k hk
  exact ⟨b1.trans a1, b2.trans a2, b3.trans a3, b4.trans a4, b5.trans a5, b6.trans a6⟩
theorem fr.wide {P Q : Nat → Bool} {S T : gS} (h : fr P S T) (hq : ∀ k, Q k = false → P k = false) : fr Q S T := fun k hk => h k (hq k hk)
theorem ne_of_P {P : Nat → Bool} {j k : Nat} (hj : P j = true) (hk : P k = false) : k ≠ j := by
  intro e
  rw [e, hj] at hk
  cases hk
theorem fr.uI {P : Nat → Bool} {S T : gS} {j : Nat} {x : Int32} (h : fr P S T) (hj : P j = true) : fr P S (uI T j x) := fun k hk => by
  obtain ⟨a1, a2⟩ := h k hk
  refine ⟨?_, a2⟩
  rw [sI_uI, if_neg (ne_of_P hj hk)]
  exact a1
theorem fr.uJ {P : Nat → Bool} {S T : gS} {j : Nat} {x : Int64} (h : fr P S T) (hj : P j = true) : fr P S (uJ T j x) := fun k hk => by
  obtain ⟨a1, a2, a3⟩ := h k hk
  refine ⟨a1, ?_, a3⟩
  rw [sJ_uJ, if_neg (ne_of_P hj hk)]
  exact a2
theorem sA_uA_ne (S : gS) {k q : Nat} (i : Nat) (v : Int32) (h : q ≠ k) : sA (uA S k i v) q = sA S q := by
  funext j
  rw [sA_uA, if_neg (fun z => h z.1)]
theorem sL_uL_ne (S : gS) {k q : Nat} (i : Nat) (v : Int64) (h : q ≠ k) : sL (uL S k i v) q = sL S q := by
  funext j
  rw [sL_uL, if_neg (fun z => h z.1)]
theorem fr.uA {P : Nat → Bool} {S T : gS} {j i : Nat} {x : Int32} (h : fr P S T) (hj : P j = true) : fr P S (uA T j i x) := fun k hk => by
  obtain ⟨a1, a2, a3, a4⟩ := h k hk
  refine ⟨a1, a2, ?_, a4⟩
  rw [sA_uA_ne _ _ _ (ne_of_P hj hk)]
  exact a3
theorem fr.uL {P : Nat → Bool} {S T : gS} {j i : Nat} {x : Int64} (h : fr P S T) (hj : P j = true) : fr P S (uL T j i x) := fun k hk => by
  obtain ⟨a1, a2, a3, a4, a5⟩ := h k hk
  refine ⟨a1, a2, a3, ?_, a5⟩
  rw [sL_uL_ne _ _ _ (ne_of_P hj hk)]
  exact a4
theorem fr.rdS {P : Nat → Bool} {S T : gS} {p a : Nat} {v : Int64} {c : Int32} (h : fr P S T) (h0 : P 30 = true) (h1 : P 31 = true) (h2 : P 32 = true) (h3 : P 33 = true) : fr P S (rdS T p a v c) := fun k hk => by
  obtain ⟨a1, a2, a3⟩ := h k hk
  refine ⟨?_, ?_, a3⟩
  · show (if k = 30 then nI p else if k = 31 then c else if k = 32 then nI a else sI T k) = _
    rw [if_neg (ne_of_P h0 hk), if_neg (ne_of_P h1 hk), if_neg (ne_of_P h2 hk)]
    exact a1
  · show (if k = 33 then v else sJ T k) = _
    rw [if_neg (ne_of_P h3 hk)]
    exact a2
/-- what reading, E and acts touch -/
def pEx (k : Nat) : Bool := (decide (30 ≤ k) && decide (k ≤ 34)) || (decide (49 ≤ k) && decide (k ≤ 57))
/-- the reader stands at piece i -/
def rV (t : Nat → Int32) (n : Nat) (S : gS) (i : Nat) : Prop := sA S 28 = t ∧ sI S 29 = nI n ∧ sI S 30 = nI (psF t n (i + 1)) ∧ sI S 31 = (pcs t n).1 i ∧ sI S 32 = nI ((pcs t n).2.1 i) ∧ sJ S 33 = (pcs t n).2.2 i
/-- what is worked out so far -/
def isA (S : gS) (A : List aT) : Prop := sI S 49 = nI A.length ∧ ∀ q a, A[q]? = some a → sA S 50 q = a.1 ∧ sL S 51 q = a.2.1 ∧ sA S 52 q = nI a.2.2
/-- what is held, the last one first -/
def hAt (S : gS) : List aT → Prop
  | [] => True
  | x :: H => (sA S 53 H.length = x.1 ∧ sL S 54 H.length = x.2.1 ∧ sA S 55 H.length = nI x.2.2) ∧ hAt S H
def isH (S : gS) (H : List aT) : Prop := sI S 56 = nI H.length ∧ hAt S H
def nsW (w : Int32) : Bool := decide (w = nI 6) || decide (w = nI 12) || decide (w = nI 13)
def nst : List aT → Nat
  | [] => 0
  | x :: H => if nsW x.1 = true then nst H + 1 else nst H
def bU (wr : Int32) (t : Nat → Int32) (n : Nat) (S0 S : gS) (i : Nat) (A H : List aT) : Prop := rV t n S i ∧ sI S 34 = wr ∧ isA S A ∧ isH S H ∧ sI S 57 = nI (nst H) ∧ fr pEx S0 S
/-- and nothing is WRONG so far -/
abbrev bV : (Nat → Int32) → Nat → gS → gS → Nat → List aT → List aT → Prop := bU (-nI 1)
theorem hAt_congr {S T : gS} (h3 : sA T 53 = sA S 53) (h4 : sL T 54 = sL S 54) (h5 : sA T 55 = sA S 55) : ∀ H, hAt S H → hAt T H
  | [], _ => True.intro
  | x :: H, h => ⟨by rw [h3, h4, h5]; exact h.1, hAt_congr h3 h4 h5 H h.2⟩
theorem hAt_push {S : gS} {w : Int32} {v : Int64} {a : Int32} {k : Nat} : ∀ H : List aT, H.length ≤ k → hAt S H → hAt (uA (uL (uA S 53 k w) 54 k v) 55 k a) H
  | [], _, _ => True.intro
  | x :: H, hk, h => by
    have hk2 : H.length + 1 ≤ k := hk
    have hne : ¬ H.length = k := by omega
    refine ⟨?_, hAt_push H (by omega) h.2⟩
    obtain ⟨h1, h2, h3⟩ := h.1
    simp only [sI_uI, sJ_uI, sA_uI, sL_uI, sR_uI, sQ_uI, sI_uJ, sJ_uJ, sA_uJ, sL_uJ, sR_uJ, sQ_uJ, sI_uA, sJ_uA, sA_uA, sL_uA, sR_uA, sQ_uA, sI_uL, sJ_uL, sA_uL, sL_uL, sR_uL, sQ_uL, sI_uR, sJ_uR, sA_uR, sL_uR, sR_uR, sQ_uR, sI_uQ, sJ_uQ, sA_uQ, sL_uQ, sR_uQ, sQ_uQ]
    simp [hne, h1, h2, h3]
/-- one more is worked out -/
def emM (S : gS) (k : Nat) (w : Int32) (v : Int64) (a : Int32) : gS := uI (uA (uL (uA S 50 k w) 51 k v) 52 k a) 49 (nI (k + 1))
theorem bU.emit {wr : Int32} {t : Nat → Int32} {n : Nat} {S0 S : gS} {i : Nat} {A H : List aT} (h : bU wr t n S0 S i A H) (w : Int32) (v : Int64) (a : Nat) : bU wr t n S0 (emM S A.length w v (nI a)) i (A ++ [(w, v, a)]) H := by
  obtain ⟨h1, h2, h3, h4, h5, h6⟩ := h
  refine ⟨⟨?_, h1.2.1, h1.2.2.1, h1.2.2.2.1, h1.2.2.2.2.1, h1.2.2.2.2.2⟩, h2, ⟨?_, ?_⟩, ⟨h4.1, ?_⟩, h5, ?_⟩
  · have : sA (emM S A.length w v (nI a)) 28 = sA S 28 := by
      unfold emM
      rw [sA_uI, sA_uA_ne _ _ _ (by decide), sA_uL, sA_uA_ne _ _ _ (by decide)]
    rw [this]
    exact h1.1
  · rw [List.length_append]
    rfl
  · intro q b hq
    unfold emM
    simp only [sI_uI, sJ_uI, sA_uI, sL_uI, sR_uI, sQ_uI, sI_uJ, sJ_uJ, sA_uJ, sL_uJ, sR_uJ, sQ_uJ, sI_uA, sJ_uA, sA_uA, sL_uA, sR_uA, sQ_uA, sI_uL, sJ_uL, sA_uL, sL_uL, sR_uL, sQ_uL, sI_uR, sJ_uR, sA_uR, sL_uR, sR_uR, sQ_uR, sI_uQ, sJ_uQ, sA_uQ, sL_uQ, sR_uQ, sQ_uQ]
    by_cases hlt : q < A.length
    · rw [List.getElem?_append_left hlt] at hq
      have hne : ¬ q = A.length := by omega
      obtain ⟨e1, e2, e3⟩ := h3.2 q b hq
      simp [hne, e1, e2, e3]
    · rw [List.getElem?_append_right (by omega)] at hq
      by_cases he : q = A.length
      · subst he
        rw [Nat.sub_self] at hq
        have hb : b = (w, v, a) := (Option.some.inj hq).symm
        rw [hb]
        simp
      · rw [List.getElem?_eq_none (by show 1 ≤ q - A.length; omega)] at hq
        cases hq
  · refine hAt_congr ?_ ?_ ?_ H h4.2
    · unfold emM
      rw [sA_uI, sA_uA_ne _ _ _ (by decide), sA_uL, sA_uA_ne _ _ _ (by decide)]
    · unfold emM
      rw [sL_uI, sL_uA, sL_uL_ne _ _ _ (by decide), sL_uA]
    · unfold emM
      rw [sA_uI, sA_uA_ne _ _ _ (by decide), sA_uL, sA_uA_ne _ _ _ (by decide)]
  · exact (((h6.uA (by decide)).uL (by decide)).uA (by decide)).uI (by decide)
/-- one more is held -/
def hoM (S : gS) (k : Nat) (w : Int32) (v : Int64) (a : Int32) : gS := uI (uA (uL (uA S 53 k w) 54 k v) 55 k a) 56 (nI (k + 1))
theorem isA_hoM {S : gS} {A : List aT} (k : Nat) (w : Int32) (v : Int64) (a : Int32) (h : isA S A) : isA (hoM S k w v a) A := by
  refine ⟨h.1, fun q b hq => ?_⟩
  obtain ⟨e1, e2, e3⟩ := h.2 q b hq
  unfold hoM
  simp only [sI_uI, sJ_uI, sA_uI, sL_uI, sR_uI, sQ_uI, sI_uJ, sJ_uJ, sA_uJ, sL_uJ, sR_uJ, sQ_uJ, sI_uA, sJ_uA, sA_uA, sL_uA, sR_uA, sQ_uA, sI_uL, sJ_uL, sA_uL, sL_uL, sR_uL, sQ_uL, sI_uR, sJ_uR, sA_uR, sL_uR, sR_uR, sQ_uR, sI_uQ, sJ_uQ, sA_uQ, sL_uQ, sR_uQ, sQ_uQ]
  simp [e1, e2, e3]
theorem bU.hold {wr : Int32} {t : Nat → Int32} {n : Nat} {S0 S : gS} {i : Nat} {A H : List aT} (h : bU wr t n S0 S i A H) (w : Int32) (v : Int64) (a : Nat) (hw : nsW w = false) : bU wr t n S0 (hoM S H.length w v (nI a)) i A ((w, v, a) :: H) := by
  obtain ⟨h1, h2, h3, h4, h5, h6⟩ := h
  refine ⟨⟨?_, h1.2.1, h1.2.2.1, h1.2.2.2.1, h1.2.2.2.2.1, h1.2.2.2.2.2⟩, h2, isA_hoM _ _ _ _ h3, ⟨rfl, ?_, ?_⟩, ?_, ?_⟩
  · have : sA (hoM S H.length w v (nI a)) 28 = sA S 28 := by
      unfold hoM
      rw [sA_uI, sA_uA_ne _ _ _ (by decide), sA_uL, sA_uA_ne _ _ _ (by decide)]
    rw [this]
    exact h1.1
  · unfold hoM
    simp only [sI_uI, sJ_uI, sA_uI, sL_uI, sR_uI, sQ_uI, sI_uJ, sJ_uJ, sA_uJ, sL_uJ, sR_uJ, sQ_uJ, sI_uA, sJ_uA, sA_uA, sL_uA, sR_uA, sQ_uA, sI_uL, sJ_uL, sA_uL, sL_uL, sR_uL, sQ_uL, sI_uR, sJ_uR, sA_uR, sL_uR, sR_uR, sQ_uR, sI_uQ, sJ_uQ, sA_uQ, sL_uQ, sR_uQ, sQ_uQ]
    simp
  · refine hAt_congr (S := uA (uL (uA S 53 H.length w) 54 H.length v) 55 H.length (nI a)) ?_ ?_ ?_ H (hAt_push H (Nat.le_refl _) h4.2) <;> rfl
  · show sI S 57 = nI (if nsW w = true then nst H + 1 else nst H)
    rw [hw]
    exact h5
  · exact (((h6.uA (by decide)).uL (by decide)).uA (by decide)).uI (by decide)
theorem bU.deep {wr : Int32} {t : Nat → Int32} {n : Nat} {S0 S : gS} {i : Nat} {A H : List aT} (h : bU wr t n S0 S i A H) (w : Int32) (v : Int64) (a : Nat) (hw : nsW w = true) : bU wr t n S0 (hoM (uI S 57 (nI (nst H + 1))) H.length w v (nI a)) i A ((w, v, a) :: H) := by
  obtain ⟨h1, h2, h3, h4, h5, h6⟩ := h
  refine ⟨⟨?_, h1.2.1, h1.2.2.1, h1.2.2.2.1, h1.2.2.2.2.1, h1.2.2.2.2.2⟩, h2, isA_hoM _ _ _ _ (show isA (uI S 57 (nI (nst H + 1))) A from h3), ⟨rfl, ?_, ?_⟩, ?_, ?_⟩
  · have : sA (hoM (uI S 57 (nI (nst H + 1))) H.length w v (nI a)) 28 = sA S 28 := by
      unfold hoM
      rw [sA_uI, sA_uA_ne _ _ _ (by decide), sA_uL, sA_uA_ne _ _ _ (by decide), sA_uI]
    rw [this]
    exact h1.1
  · unfold hoM
    simp only [sI_uI, sJ_uI, sA_uI, sL_uI, sR_uI, sQ_uI, sI_uJ, sJ_uJ, sA_uJ, sL_uJ, sR_uJ, sQ_uJ, sI_uA, sJ_uA, sA_uA, sL_uA, sR_uA, sQ_uA, sI_uL, sJ_uL, sA_uL, sL_uL, sR_uL, sQ_uL, sI_uR, sJ_uR, sA_uR, sL_uR, sR_uR, sQ_uR, sI_uQ, sJ_uQ, sA_uQ, sL_uQ, sR_uQ, sQ_uQ]
    simp
  · refine hAt_congr (S := uA (uL (uA (uI S 57 (nI (nst H + 1))) 53 H.length w) 54 H.length v) 55 H.length (nI a)) ?_ ?_ ?_ H (hAt_push H (Nat.le_refl _) (by refine hAt_congr (S := S) ?_ ?_ ?_ H h4.2 <;> rfl)) <;> rfl
  · show nI (nst H + 1) = nI (if nsW w = true then nst H + 1 else nst H)
    rw [hw]
    rfl
  · exact ((((h6.uI (by decide)).uA (by decide)).uL (by decide)).uA (by decide)).uI (by decide)
theorem bU.pop {wr : Int32} {t : Nat → Int32} {n : Nat} {S0 S : gS} {i : Nat} {A H : List aT} {x : aT} (h : bU wr t n S0 S i A (x :: H)) (hx : nsW x.1 = false) : bU wr t n S0 (uI S 56 (nI H.length)) i A H := by
  obtain ⟨h1, h2, h3, h4, h5, h6⟩ := h
  refine ⟨h1, h2, h3, ⟨rfl, by refine hAt_congr (S := S) ?_ ?_ ?_ H h4.2.2 <;> rfl⟩, ?_, h6.uI (by decide)⟩
  show sI S 57 = nI (nst H)
  rw [h5]
  show nI (if nsW x.1 = true then nst H + 1 else nst H) = _
  rw [hx]
  rfl
theorem bU.popN {wr : Int32} {t : Nat → Int32} {n : Nat} {S0 S : gS} {i : Nat} {A H : List aT} {x : aT} (h : bU wr t n S0 S i A (x :: H)) : bU wr t n S0 (uI (uI S 56 (nI H.length)) 57 (nI (nst H))) i A H := by
  obtain ⟨h1, h2, h3, h4, h5, h6⟩ := h
  exact ⟨h1, h2, h3, ⟨rfl, by refine hAt_congr (S := S) ?_ ?_ ?_ H h4.2.2 <;> rfl⟩, rfl, (h6.uI (by decide)).uI (by decide)⟩
theorem bU.read {wr : Int32} {t : Nat → Int32} {n : Nat} {S0 S : gS} {i : Nat} {A H : List aT} (h : bU wr t n S0 S i A H) : bU wr t n S0 (rdN S n (psF t n (i + 1))) (i + 1) A H := by
  obtain ⟨h1, h2, h3, h4, h5, h6⟩ := h
  have e : sA S 28 = t := h1.1
  have hr : rdN S n (psF t n (i + 1)) = rdS S (pcF t n (psF t n (i + 1))).1 (pcF t n (psF t n (i + 1))).2.1 (pcF t n (psF t n (i + 1))).2.2.1 (pcF t n (psF t n (i + 1))).2.2.2 := by
    unfold rdN
    rw [e]
  rw [hr]
  exact ⟨⟨e, h1.2.1, rfl, rfl, rfl, rfl⟩, h2, h3, ⟨h4.1, by refine hAt_congr (S := S) ?_ ?_ ?_ H h4.2 <;> rfl⟩, h5, h6.rdS (by decide) (by decide) (by decide) (by decide)⟩
theorem m_readV (d : Nat) (h : xH) (M : Nat) {wr : Int32} {t : Nat → Int32} {n : Nat} {S0 S : gS} {i : Nat} {A H : List aT} (h7 : n ≤ 700) (hb : bU wr t n S0 S i A H) : xm (d + 2) 148 [.ref M] (oh 11 h M S) = some (none, oh 11 h M (rdN S n (psF t n (i + 1)))) :=
  m_readS d h M n _ _ S hb.1.2.1 h7 (psF_le t n (i + 1)) hb.1.2.2.1 hb.1.2.2.2.2.1
