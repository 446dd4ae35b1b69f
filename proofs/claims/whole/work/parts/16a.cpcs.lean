/-! The pieces that the class cuts are the reference's. -/
def txE (tc tr : Nat → Int32) (n : Nat) : Prop := ∀ i, i < n → ∃ x, x < 256 ∧ tr i = nI x ∧ tc i = (nI x).toInt8.toInt32
def byO (c r : Int32) : Bool := (decide (c = nI 32) == decide (r = nI 32)) && (decide (c = nI 10) == decide (r = nI 10)) && (cLt c == isLt r) && (cDg c == isDg r) && (!isLt r || decide (c = r)) && (!isDg r || (decide (c = r) && decide ((c - nI 48).toInt64 = c.toInt64 - 48))) && (isSg c == isSg r) && (!isSg r || (decide (c = r) && !decide (r = nI 1) && !decide (r = nI 2) && !decide (r = nI 3)))
theorem byO_all : ∀ x : Fin 256, byO (nI x.1).toInt8.toInt32 (nI x.1) = true := by decide +kernel
theorem txE.at {tc tr : Nat → Int32} {n i : Nat} (h : txE tc tr n) (hi : i < n) : byO (tc i) (tr i) = true := by
  obtain ⟨x, hx, e1, e2⟩ := h i hi
  rw [e1, e2]
  exact byO_all ⟨x, hx⟩
theorem byO_ok {c r : Int32} (h : byO c r = true) : ((c = nI 32 ∨ c = nI 10) ↔ (r = nI 32 ∨ r = nI 10)) ∧ cLt c = isLt r ∧ cDg c = isDg r ∧ (isLt r = true → c = r) ∧ (isDg r = true → c = r ∧ (c - nI 48).toInt64 = c.toInt64 - 48) ∧ isSg c = isSg r ∧ (isSg r = true → c = r ∧ ¬ r = nI 1 ∧ ¬ r = nI 2 ∧ ¬ r = nI 3) := by
  unfold byO at h
  simp only [Bool.and_eq_true, Bool.or_eq_true, beq_iff_eq, Bool.not_eq_true', decide_eq_decide, decide_eq_true_eq, decide_eq_false_iff_not] at h
  obtain ⟨⟨⟨⟨⟨⟨⟨h1, h2⟩, h3⟩, h4⟩, h5⟩, h6⟩, h7⟩, h8⟩ := h
  refine ⟨?_, h3, h4, fun q => ?_, fun q => ?_, h7, fun q => ?_⟩
  · rw [h1, h2]
  · rcases h5 with w | w
    · rw [q] at w
      cases w
    · exact w
  · rcases h6 with w | w
    · rw [q] at w
      cases w
    · exact w
  · rcases h8 with w | w
    · rw [q] at w
      cases w
    · exact ⟨w.1.1.1, w.1.1.2, w.1.2, w.2⟩
theorem cw_wd {tc tr : Nat → Int32} {n : Nat} (h : txE tc tr n) : ∀ (k p : Nat) (v : Int64) (m : Nat), p + k ≤ n → (cwF tc k p v).1 = (wdF tr k p v m).1 ∧ (cwF tc k p v).2 = (wdF tr k p v m).2.1 ∧ (wdF tr k p v m).2.2 + p = m + (wdF tr k p v m).1
  | 0, p, v, m, hp => ⟨rfl, rfl, rfl⟩
  | k + 1, p, v, m, hp => by
    obtain ⟨b1, b2, b3, b4, b5, b6, b7⟩ := byO_ok (h.at (show p < n by omega))
    rw [cwF_s, wdF_s, b2]
    by_cases hl : isLt (tr p) = true
    · rw [if_pos hl, if_pos hl, b4 hl]
      have ih := cw_wd h k (p + 1) (sl8 v (tr p)) (m + 1) (by omega)
      exact ⟨ih.1, ih.2.1, by omega⟩
    · rw [if_neg hl, if_neg hl]
      exact ⟨rfl, rfl, rfl⟩
theorem cn_nu1 (v : Int64) {c : Int32} (h : (c - nI 48).toInt64 = c.toInt64 - 48) : cnV v c = nuV v c := by
  have e : v * 10 + (c - nI 48).toInt64 = 10 * v + c.toInt64 - 48 := by
    rw [h, Int64.mul_comm, Int64.sub_eq_add_neg, Int64.sub_eq_add_neg, Int64.add_assoc]
  unfold cnV nuV
  rw [e]
  generalize 10 * v + c.toInt64 - 48 = y
  by_cases h1 : (2147483648 : Int64) < y
  · have h2 : (2147483647 : Int64) < y := by
      rw [Int64.lt_iff_toInt_lt] at h1 ⊢
      have a1 : (2147483648 : Int64).toInt = 2147483648 := by decide
      have a2 : (2147483647 : Int64).toInt = 2147483647 := by decide
      omega
    rw [if_pos h1, if_pos h2]
  · rw [if_neg h1]
    by_cases h2 : (2147483647 : Int64) < y
    · rw [if_pos h2]
      apply Int64.toInt_inj.mp
      rw [Int64.lt_iff_toInt_lt] at h1 h2
      have a1 : (2147483648 : Int64).toInt = 2147483648 := by decide
      have a2 : (2147483647 : Int64).toInt = 2147483647 := by decide
      omega
    · rw [if_neg h2]
theorem cn_nu {tc tr : Nat → Int32} {n : Nat} (h : txE tc tr n) : ∀ (k p : Nat) (v : Int64), p + k ≤ n → cnF tc k p v = nuF tr k p v
  | 0, p, v, hp => rfl
  | k + 1, p, v, hp => by
    obtain ⟨b1, b2, b3, b4, b5, b6, b7⟩ := byO_ok (h.at (show p < n by omega))
    rw [cnF_s, nuF_s, b3]
    by_cases hl : isDg (tr p) = true
    · rw [if_pos hl, if_pos hl, cn_nu1 v (b5 hl).2, (b5 hl).1]
      exact cn_nu h k (p + 1) _ (by omega)
    · rw [if_neg hl, if_neg hl]
/-- what a piece is to the class -/
def cK (p : pP) (i : Nat) : Int32 := if p.1 i = nI 1 then kW (p.2.2 i) else if p.1 i = nI 2 then nI 3 else if p.1 i = nI 3 then nI 1 else p.1 i
def piV (p : pP) (S : gS) (j : Nat) : Prop := sA S 0 j = cK p j ∧ sA S 1 j = nI (p.2.1 j) ∧ sL S 2 j = p.2.2 j
theorem piV.ap {p : pP} {S : gS} {j k : Nat} {c a : Int32} {w : Int64} (h : piV p S j) (hj : j < k) : piV p (apS S k c a w) j := by
  have hne : ¬ j = k := by omega
  unfold apS
  refine ⟨?_, ?_, ?_⟩
  · rw [sA_uI, sA_uL, sA_uA, if_neg (fun z => absurd z.1 (by decide)), sA_uA, if_neg (fun z => hne z.2)]
    exact h.1
  · rw [sA_uI, sA_uL, sA_uA, if_neg (fun z => hne z.2), sA_uA, if_neg (fun z => hne z.2)]
    exact h.2.1
  · rw [sL_uI, sL_uL, if_neg (fun z => hne z.2)]
    exact h.2.2
theorem piV.new {p : pP} {S : gS} {k : Nat} {c a : Int32} {w : Int64} (h1 : c = cK p k) (h2 : a = nI (p.2.1 k)) (h3 : w = p.2.2 k) : piV p (apS S k c a w) k := by
  subst h1
  subst h2
  subst h3
  unfold apS
  refine ⟨?_, ?_, ?_⟩
  · rw [sA_uI, sA_uL, sA_uA, if_neg (fun z => absurd z.1 (by decide)), sA_uA, if_pos ⟨rfl, rfl⟩]
  · rw [sA_uI, sA_uL, sA_uA, if_pos ⟨rfl, rfl⟩]
  · rw [sL_uI, sL_uL, if_pos ⟨rfl, rfl⟩]
theorem piV.uI {p : pP} {S : gS} {j k : Nat} {x : Int32} (h : piV p S j) : piV p (uI S k x) j := h
theorem pcF_sp {t : Nat → Int32} {n p : Nat} (hp : p < n) (h : t p = nI 32 ∨ t p = nI 10) : pcF t n p = pcF t n (p + 1) := by
  have e : skF t (n - p) p = skF t (n - (p + 1)) (p + 1) := by
    rw [show n - p = (n - (p + 1)) + 1 by omega, skF_s, if_pos h]
  unfold pcF
  rw [e]
theorem skF_no {t : Nat → Int32} {n p : Nat} (hp : p < n) (h : ¬ (t p = nI 32 ∨ t p = nI 10)) : skF t (n - p) p = p := by
  rw [show n - p = (n - (p + 1)) + 1 by omega, skF_s, if_neg h]
theorem sp_pcs {tc tr : Nat → Int32} {n : Nat} (h : txE tc tr n) : ∀ (f p k : Nat) (S : gS), n - p ≤ f → p ≤ n → pcF tr n p = pcF tr n (psF tr n k) → (∀ j, j < k → ¬ (pcs tr n).1 j = nI 0 ∧ piV (pcs tr n) S j) → ∃ N, (pcs tr n).1 N = nI 0 ∧ (∀ j, j < N → ¬ (pcs tr n).1 j = nI 0) ∧ (∀ j, j ≤ N → piV (pcs tr n) (spF tc n f p k S) j) ∧ sI (spF tc n f p k S) 3 = nI (N + 1) := by
  have fin : ∀ (k : Nat) (S : gS), pcF tr n n = pcF tr n (psF tr n k) → (∀ j, j < k → ¬ (pcs tr n).1 j = nI 0 ∧ piV (pcs tr n) S j) → ∃ N, (pcs tr n).1 N = nI 0 ∧ (∀ j, j < N → ¬ (pcs tr n).1 j = nI 0) ∧ (∀ j, j ≤ N → piV (pcs tr n) (apS S k (nI 0) (nI n) 0) j) ∧ sI (apS S k (nI 0) (nI n) 0) 3 = nI (N + 1) := by
    intro k S he hk
    have e1 : pcF tr n n = (n, n, 0, nI 0) := by
      unfold pcF
      rw [Nat.sub_self]
      exact if_pos rfl
    rw [e1] at he
    have k0 : (pcs tr n).1 k = nI 0 := by
      show (pcF tr n (psF tr n k)).2.2.2 = nI 0
      rw [← he]
    refine ⟨k, k0, fun j hj => (hk j hj).1, fun j hj => ?_, rfl⟩
    by_cases hjk : j = k
    · subst hjk
      refine piV.new ?_ ?_ ?_
      · unfold cK
        rw [k0]
        rfl
      · show nI n = nI (pcF tr n (psF tr n j)).2.1
        rw [← he]
      · show 0 = (pcF tr n (psF tr n j)).2.2.1
        rw [← he]
    · exact (hk j (by omega)).2.ap (by omega)
  intro f
  induction f with
  | zero =>
    intro p k S hf hp he hk
    have : p = n := by omega
    subst this
    exact fin k S he hk
  | succ f ih =>
    intro p k S hf hp he hk
    rw [spF_s]
    by_cases hn : n ≤ p
    · rw [if_pos hn]
      have : p = n := by omega
      subst this
      exact fin k S he hk
    · rw [if_neg hn]
      have hp2 : p < n := by omega
      obtain ⟨b1, b2, b3, b4, b5, b6, b7⟩ := byO_ok (h.at hp2)
      unfold spS
      by_cases h1 : tc p = nI 32 ∨ tc p = nI 10
      · rw [if_pos h1]
        have h1r := b1.mp h1
        exact ih (p + 1) k (uI S 4 (nI (p + 1))) (by omega) (by omega) (by rw [← pcF_sp hp2 h1r]; exact he) hk
      · rw [if_neg h1]
        have h1r : ¬ (tr p = nI 32 ∨ tr p = nI 10) := fun z => h1 (b1.mpr z)
        have hsk := skF_no hp2 h1r
        have next : ∀ (q : Nat) (v : Int64) (c : Int32) (T : gS), pcF tr n p = (q, p, v, c) → p + 1 ≤ q → q ≤ n → ¬ c = nI 0 → piV (pcs tr n) T k → (∀ j, j < k → piV (pcs tr n) T j) → ∃ N, (pcs tr n).1 N = nI 0 ∧ (∀ j, j < N → ¬ (pcs tr n).1 j = nI 0) ∧ (∀ j, j ≤ N → piV (pcs tr n) (spF tc n f q (k + 1) T) j) ∧ sI (spF tc n f q (k + 1) T) 3 = nI (N + 1) := by
          intro q v c T e0 hq1 hq2 hc hT hT2
          have e1 : psF tr n (k + 1) = q := by
            show (pcF tr n (psF tr n k)).1 = q
            rw [← he, e0]
          refine ih q (k + 1) T (by omega) hq2 (by rw [e1]) fun j hj => ?_
          by_cases hjk : j = k
          · subst hjk
            refine ⟨?_, hT⟩
            show ¬ (pcF tr n (psF tr n j)).2.2.2 = nI 0
            rw [← he, e0]
            exact hc
          · exact ⟨(hk j (by omega)).1, hT2 j (by omega)⟩
        have pk : ∀ (q : Nat) (v : Int64) (c : Int32), pcF tr n p = (q, p, v, c) → (pcs tr n).1 k = c ∧ (pcs tr n).2.1 k = p ∧ (pcs tr n).2.2 k = v := by
          intro q v c e0
          refine ⟨?_, ?_, ?_⟩
          · show (pcF tr n (psF tr n k)).2.2.2 = c
            rw [← he, e0]
          · show (pcF tr n (psF tr n k)).2.1 = p
            rw [← he, e0]
          · show (pcF tr n (psF tr n k)).2.2.1 = v
            rw [← he, e0]
        have hnp : ¬ p = n := by omega
        by_cases h2 : isLt (tr p) = true
        · rw [if_pos (by rw [b2]; exact h2)]
          obtain ⟨w1, w2, w3⟩ := cw_wd h (n - p) p 0 0 (by omega)
          have e0 : pcF tr n p = ((wdF tr (n - p) p 0 0).1, p, (wdF tr (n - p) p 0 0).2.1, if 8 < (wdF tr (n - p) p 0 0).2.2 then nI 3 else nI 1) := by
            unfold pcF
            rw [hsk, if_neg hnp, if_pos h2]
          have a1 := wdF_gt (v := 0) (m := 0) h2 (show 0 < n - p by omega)
          have a2 := (wdF_le tr (n - p) p 0 0).2
          obtain ⟨p1, p2, p3⟩ := pk _ _ _ e0
          rw [w1, w2]
          refine next _ _ _ _ e0 a1 (by omega) (by split <;> decide) (piV.new ?_ (by rw [p2]) (by rw [p3])) (fun j hj => piV.ap (hk j hj).2 hj)
          unfold cK
          rw [p1, p3]
          have hm : (wdF tr (n - p) p 0 0).1 - p = (wdF tr (n - p) p 0 0).2.2 := by omega
          rw [hm]
          by_cases h8 : 8 < (wdF tr (n - p) p 0 0).2.2
          · rw [if_pos h8, if_pos h8]
            rfl
          · rw [if_neg h8, if_neg h8]
            rfl
        · rw [if_neg (by rw [b2]; exact h2)]
          by_cases h3 : isDg (tr p) = true
          · rw [if_pos (by rw [b3]; exact h3), cn_nu h (n - p) p 0 (by omega)]
            have e0 : pcF tr n p = ((nuF tr (n - p) p 0).1, p, (nuF tr (n - p) p 0).2, if 2147483647 < (nuF tr (n - p) p 0).2 then nI 3 else nI 2) := by
              unfold pcF
              rw [hsk, if_neg hnp, if_neg h2, if_pos h3]
            have a1 := nuF_gt (v := 0) h3 (show 0 < n - p by omega)
            have a2 := (nuF_le tr (n - p) p 0).2
            obtain ⟨p1, p2, p3⟩ := pk _ _ _ e0
            refine next _ _ _ _ e0 a1 (by show (nuF tr (n - p) p 0).1 ≤ n; omega) (by split <;> decide) (piV.new ?_ (by rw [p2]) (by rw [p3])) (fun j hj => piV.ap (hk j hj).2 hj)
            unfold cK
            rw [p1]
            split
            · rfl
            · rfl
          · rw [if_neg (by rw [b3]; exact h3)]
            have e0 : pcF tr n p = (p + 1, p, 0, if isSg (tr p) = true then tr p else nI 3) := by
              unfold pcF
              rw [hsk, if_neg hnp, if_neg h2, if_neg h3]
            obtain ⟨p1, p2, p3⟩ := pk _ _ _ e0
            refine next _ _ _ _ e0 (Nat.le_refl _) (by show p + 1 ≤ n; omega) ?_ (piV.uI (piV.new ?_ (by rw [p2]) (by rw [p3]))) (fun j hj => piV.uI (piV.ap (hk j hj).2 hj))
            · split
              · rename_i h4
                exact sg_0 h4
              · decide
            · unfold cK
              rw [p1, b6]
              by_cases h4 : isSg (tr p) = true
              · obtain ⟨c1, c2, c3, c4⟩ := b7 h4
                rw [if_pos h4, if_pos h4, if_neg c2, if_neg c3, if_neg c4]
                exact c1
              · rw [if_neg h4, if_neg h4]
                rfl
/-- the class's pieces: as many as there are, END behind them -/
theorem c_pieces {tc tr : Nat → Int32} {n : Nat} (h : txE tc tr n) (S : gS) : ∃ N, (pcs tr n).1 N = nI 0 ∧ (∀ j, j < N → ¬ (pcs tr n).1 j = nI 0) ∧ (∀ j, j ≤ N → piV (pcs tr n) (spF tc n n 0 0 S) j) ∧ sI (spF tc n n 0 0 S) 3 = nI (N + 1) :=
  sp_pcs h n 0 0 S (by omega) (Nat.zero_le _) rfl (fun j hj => absurd hj (Nat.not_lt_zero _))
