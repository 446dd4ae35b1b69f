/-! Pure: what holds of every RULE of a text. -/
theorem nuV_ok {v : Int64} {c : Int32} (h0 : 0 ≤ v.toInt) (h1 : v.toInt ≤ 2147483648) (hc : isDg c = true) : 0 ≤ (nuV v c).toInt ∧ (nuV v c).toInt ≤ 2147483648 := by
  unfold isDg inL at hc
  rw [Bool.and_eq_true, decide_eq_true_eq, decide_eq_true_eq, Int64.le_iff_toInt_le, Int64.le_iff_toInt_le] at hc
  have a1 : (48 : Int64).toInt = 48 := by decide
  have a2 : (57 : Int64).toInt = 57 := by decide
  have a3 : (2147483648 : Int64).toInt = 2147483648 := by decide
  have a4 : (2147483647 : Int64).toInt = 2147483647 := by decide
  have a5 : (10 : Int64).toInt = 10 := by decide
  have e : (10 * v + c.toInt64 - 48).toInt = 10 * v.toInt + c.toInt64.toInt - 48 := by
    rw [Int64.toInt_sub, Int64.toInt_add, Int64.toInt_mul, a1, a5, Int.bmod_eq_of_le (n := 10 * v.toInt) (by omega) (by omega), Int.bmod_eq_of_le (n := 10 * v.toInt + c.toInt64.toInt) (by omega) (by omega), Int.bmod_eq_of_le (by omega) (by omega)]
  unfold nuV
  split
  · rw [a3]
    omega
  · rename_i hn
    rw [Int64.lt_iff_toInt_lt, a4, e] at hn
    rw [e]
    omega
theorem nuF_ok (t : Nat → Int32) : ∀ (k p : Nat) (v : Int64), 0 ≤ v.toInt → v.toInt ≤ 2147483648 → 0 ≤ (nuF t k p v).2.toInt ∧ (nuF t k p v).2.toInt ≤ 2147483648
  | 0, p, v, h0, h1 => ⟨h0, h1⟩
  | k + 1, p, v, h0, h1 => by
    rw [nuF_s]
    split
    · rename_i hc
      obtain ⟨a, b⟩ := nuV_ok h0 h1 hc
      exact nuF_ok t k (p + 1) _ a b
    · exact ⟨h0, h1⟩
theorem num_ok (t : Nat → Int32) (n i : Nat) (h : (pcs t n).1 i = nI 2) : ((pcs t n).2.2 i).toInt32.toInt64 = (pcs t n).2.2 i := by
  have h : (pcF t n (psF t n i)).2.2.2 = nI 2 := h
  show (pcF t n (psF t n i)).2.2.1.toInt32.toInt64 = (pcF t n (psF t n i)).2.2.1
  generalize psF t n i = p at *
  unfold pcF at *
  split at h
  · exact absurd (show nI 0 = nI 2 from h) (by decide)
  · rename_i c1
    rw [if_neg c1]
    split at h
    · split at h
      · exact absurd (show nI 3 = nI 2 from h) (by decide)
      · exact absurd (show nI 1 = nI 2 from h) (by decide)
    · rename_i c2
      rw [if_neg c2]
      split at h
      · rename_i c3
        rw [if_pos c3]
        have h : (if 2147483647 < (nuF t (n - skF t (n - p) p) (skF t (n - p) p) 0).2 then nI 3 else nI 2) = nI 2 := h
        show (nuF t (n - skF t (n - p) p) (skF t (n - p) p) 0).2.toInt32.toInt64 = (nuF t (n - skF t (n - p) p) (skF t (n - p) p) 0).2
        split at h
        · exact absurd h (by decide)
        · rename_i c4
          obtain ⟨a, b⟩ := nuF_ok t (n - skF t (n - p) p) (skF t (n - p) p) 0 (by decide) (by decide)
          rw [Int64.lt_iff_toInt_lt, show (2147483647 : Int64).toInt = 2147483647 by decide] at c4
          refine Eq.symm ((is_i _).mpr ?_)
          unfold inL
          rw [Bool.and_eq_true, decide_eq_true_eq, decide_eq_true_eq, Int64.le_iff_toInt_le, Int64.le_iff_toInt_le, show (2147483647 : Int64).toInt = 2147483647 by decide, show (-2147483648 : Int64).toInt = -2147483648 by decide]
          omega
      · have h : (if isSg (t (skF t (n - p) p)) = true then t (skF t (n - p) p) else nI 3) = nI 2 := h
        split at h
        · rename_i c5
          rw [h] at c5
          exact absurd c5 (by decide)
        · exact absurd h (by decide)
/-- acts of a text -/
def aPP (a : aT) : Prop := actR a ∧ (a.1 = nI 1 → a.2.1.toInt32.toInt64 = a.2.1) ∧ aOK a
theorem opA_R (c : Int32) : actR (opA c) := by
  unfold opA opW actR
  dsimp only
  split
  · simp
  · split
    · simp
    · split
      · simp
      · split <;> simp
theorem aPP_P {t : Nat → Int32} {n : Nat} (h7 : n ≤ 700) : actP (pcs t n) aPP := by
  obtain ⟨k1, k2, k3, k4, k5, k6, k7⟩ := aOK_P (t := t) h7
  have n1 : ∀ k, 1 < k → k < 20 → ¬ nI k = nI 1 := fun k h1 h2 => by
    rw [k_eq (by omega) (by omega)]
    omega
  refine ⟨⟨?_, fun q => absurd q (n1 6 (by omega) (by omega)), k1⟩, fun c => ⟨opA_R c, fun q => ?_, k2 c⟩, fun i hi => ⟨?_, fun _ => num_ok t n i hi, k3 i hi⟩, fun i => ⟨?_, fun q => absurd q (n1 2 (by omega) (by omega)), k4 i⟩, fun i hi => ⟨?_, fun q => absurd q (n1 3 (by omega) (by omega)), k5 i hi⟩, fun i hi => ⟨?_, fun q => absurd q (n1 4 (by omega) (by omega)), k6 i hi⟩, fun i hi => ⟨?_, fun q => absurd q (n1 5 (by omega) (by omega)), k7 i hi⟩⟩
  · unfold actR; simp
  · have := (opA_h c).1
    rw [q] at this
    exact absurd this (by decide)
  · unfold actR; simp
  · unfold actR; simp
  · unfold actR; simp
  · unfold actR; simp
  · unfold actR; simp
/-- of a RULE: its KEY has no NAME; what is worked out leaves one -/
def rQQ (r : rT) : Prop := (r.1 = 0 → r.2.1 = 0) ∧ (¬ r.1 = 2 → ∀ mx, 43 ≤ mx → hOK mx r.2.2.2.2.2 0 = some 1)
theorem ruF_Q {p : pP} {i j : Nat} {r : rT} (e : ruF p i = .inr (j, r)) : rQQ r := by
  unfold ruF at e
  split at e
  · split at e
    · split at e
      · have e := Sum.inr.inj e
        rw [← (Prod.mk.inj e).2]
        exact ⟨fun q => absurd (show 2 = 0 from q) (by decide), fun q => absurd rfl q⟩
      · cases e
    · cases e
  · split at e
    · split at e
      · split at e
        · cases e
        · rename_i j2 B e2
          split at e
          · have e := Sum.inr.inj e
            rw [← (Prod.mk.inj e).2]
            refine ⟨fun q => ?_, fun _ mx h43 => exF_h p e2 mx h43⟩
            have q : (if pWd p i 7038329 = true then 0 else 1) = 0 := q
            show (if pWd p i 7038329 = true then (0 : Int64) else p.2.2 i) = 0
            split
            · rfl
            · rename_i c
              rw [if_neg c] at q
              omega
          · cases e
      · cases e
    · cases e
theorem rlF_Q {p : pP} : ∀ (f i : Nat) {j : Nat} {L : List rT}, rlF p f i = .inr (j, L) → ∀ r, r ∈ L → rQQ r
  | 0, i, j, L, e => by cases e
  | f + 1, i, j, L, e => by
    unfold rlF at e
    split at e
    · have e := Sum.inr.inj e
      rw [← (Prod.mk.inj e).2]
      exact fun x hx => absurd hx List.not_mem_nil
    · split at e
      · cases e
      · rename_i q r e1
        split at e
        · cases e
        · rename_i z L2 e2
          have e := Sum.inr.inj e
          rw [← (Prod.mk.inj e).2]
          intro x hx
          rcases List.mem_cons.mp hx with h | h
          · rw [h]
            exact ruF_Q e1
          · exact rlF_Q f q e2 x h
theorem mvF_Q {p : pP} {i j : Nat} {m : mT} (e : mvF p i = .inr (j, m)) : ∀ r, r ∈ m.2.2.2.2.2 → rQQ r := by
  rw [mvF_hd] at e
  split at e
  · cases e
  · have e := Sum.inr.inj e
    rw [← (Prod.mk.inj e).2]
    exact fun x hx => absurd hx List.not_mem_nil
  · split at e
    · cases e
    · rename_i q L e2
      have e := Sum.inr.inj e
      rw [← (Prod.mk.inj e).2]
      exact rlF_Q _ _ e2
theorem txF_Q {p : pP} : ∀ (f i : Nat) {L : List mT}, txF p f i = .inr L → ∀ m, m ∈ L → ∀ r, r ∈ m.2.2.2.2.2 → rQQ r
  | 0, i, L, e => by cases e
  | f + 1, i, L, e => by
    unfold txF at e
    split at e
    · have e := Sum.inr.inj e
      rw [← e]
      exact fun x hx => absurd hx List.not_mem_nil
    · split at e
      · cases e
      · rename_i q m e1
        split at e
        · cases e
        · rename_i L2 e2
          have e := Sum.inr.inj e
          rw [← e]
          intro x hx
          rcases List.mem_cons.mp hx with h | h
          · rw [h]
            exact mvF_Q e1
          · exact txF_Q f q e2 x h
/-- all that a text's RULES are -/
def rAll (r : rT) : Prop := ruP aPP 700 r ∧ rQQ r
theorem teF_all {t : Nat → Int32} {n : Nat} (h7 : n ≤ 700) {L : List mT} (e : teF (pcs t n) = .inr L) : ∀ m, m ∈ L → m.2.2.1 ≤ 700 ∧ m.2.2.2.2.1 ≤ 700 ∧ ∀ r, r ∈ m.2.2.2.2.2 → rAll r := fun m hm => by
  obtain ⟨a, b, c⟩ := (teF_P (aPP_P h7) e m hm).mono h7
  exact ⟨a, b, fun r hr => ⟨c r hr, txF_Q 701 0 e m hm r hr⟩⟩
/-- places that are noted stand in the text -/
theorem actB_le {e : kE} {a : aT} (h : a.2.2 ≤ 700) : ∀ x, x ∈ actB e a → x ≤ 700 := by
  intro x hx
  unfold actB at hx
  split at hx
  · split at hx
    · rw [List.mem_singleton.mp hx]
      exact h
    · rename_i m _
      generalize (if a.1 = nI 5 then e.2.1 m else (!e.2.2 m && (if a.1 = nI 4 then e.2.1 m else !e.2.1 m))) = b at hx
      cases b with
      | true => exact absurd hx List.not_mem_nil
      | false =>
        rw [List.mem_singleton.mp hx]
        exact h
  · exact absurd hx List.not_mem_nil
theorem cruB_le {eo en : kE} {nN : Nat} {ms : mS} {r : rT} (h : rAll r) : ∀ x, x ∈ cruB eo en nN ms r → x ≤ 700 := by
  obtain ⟨⟨h1, h2, h3, h4, h5⟩, _⟩ := h
  intro x hx
  unfold cruB at hx
  split at hx
  · unfold drBad at hx
    split at hx
    · rw [List.mem_singleton.mp hx]
      exact h2
    · split at hx
      · rw [List.mem_singleton.mp hx]
        exact h2
      · exact absurd hx List.not_mem_nil
  · rcases List.mem_append.mp hx with q | q
    · unfold slBad at q
      split at q
      · rw [List.mem_singleton.mp q]
        exact h2
      · split at q
        · rw [List.mem_singleton.mp q]
          exact h2
        · exact absurd q List.not_mem_nil
    · split at q
      · unfold juBad at q
        split at q
        · rw [List.mem_singleton.mp q]
          exact h3
        · split at q
          · exact absurd q List.not_mem_nil
          · rw [List.mem_singleton.mp q]
            exact h3
      · rcases List.mem_append.mp q with q | q
        · obtain ⟨a, ha, hb⟩ := List.mem_flatMap.mp q
          exact actB_le (h4 a ha).2.2.1 x hb
        · split at q
          · rw [List.mem_singleton.mp q]
            exact h3
          · exact absurd q List.not_mem_nil
theorem crusB_le {eo en : kE} {nN : Nat} : ∀ (R : List rT) (c0 : Nat) (ms : mS), (∀ r, r ∈ R → rAll r) → ∀ x, x ∈ crusB eo en nN c0 ms R → x ≤ 700
  | [], c0, ms, h, x, hx => absurd hx List.not_mem_nil
  | r :: R, c0, ms, h, x, hx => by
    rcases List.mem_append.mp hx with q | q
    · exact cruB_le (h r List.mem_cons_self) x q
    · exact crusB_le R _ _ (fun r2 hr => h r2 (List.mem_cons_of_mem _ hr)) x q
theorem cmosB_le {fo ft : Int64 → Option Nat} {E1 E2 : Nat → kE} {e0 : kE} {nE : Option Nat → Nat} : ∀ (L : List mT) (U : Nat → Bool) (c0 : Nat), (∀ m, m ∈ L → m.2.2.1 ≤ 700 ∧ m.2.2.2.2.1 ≤ 700 ∧ ∀ r, r ∈ m.2.2.2.2.2 → rAll r) → ∀ x, x ∈ cmosB fo ft E1 E2 e0 nE U c0 L → x ≤ 700
  | [], U, c0, h, x, hx => absurd hx List.not_mem_nil
  | m :: L, U, c0, h, x, hx => by
    obtain ⟨a, b, c⟩ := h m List.mem_cons_self
    rcases List.mem_append.mp hx with q | q
    · unfold cmoB at q
      rcases List.mem_append.mp q with q | q
      · unfold clBad at q
        split at q
        · rw [List.mem_singleton.mp q]
          exact a
        · split at q
          · rw [List.mem_singleton.mp q]
            exact a
          · exact absurd q List.not_mem_nil
      · split at q
        · exact absurd q List.not_mem_nil
        · rcases List.mem_append.mp q with q | q
          · unfold tgB at q
            split at q
            · rw [List.mem_singleton.mp q]
              exact b
            · exact absurd q List.not_mem_nil
          · exact crusB_le _ _ _ c x q
    · exact cmosB_le L _ _ (fun m2 hm => h m2 (List.mem_cons_of_mem _ hm)) x q
theorem mnF_701 : ∀ (L : List Nat) (z : Nat), mnF L z = z → ∀ x, x ∈ L → z ≤ x
  | [], z, h, x, hx => absurd hx List.not_mem_nil
  | a :: L, z, h, x, hx => by
    have h : mnF L (min z a) = z := h
    have h1 := mnF_le L (min z a)
    have h2 : min z a = z := by omega
    rw [h2] at h
    rcases List.mem_cons.mp hx with q | q
    · rw [q]
      omega
    · exact mnF_701 L z h x q
/-- nothing is noted -/
theorem cmosB_nil {fo ft : Int64 → Option Nat} {E1 E2 : Nat → kE} {e0 : kE} {nE : Option Nat → Nat} {L : List mT} {U : Nat → Bool} {c0 : Nat} (hL : ∀ m, m ∈ L → m.2.2.1 ≤ 700 ∧ m.2.2.2.2.1 ≤ 700 ∧ ∀ r, r ∈ m.2.2.2.2.2 → rAll r) (h : mnF (cmosB fo ft E1 E2 e0 nE U c0 L) 701 = 701) : cmosB fo ft E1 E2 e0 nE U c0 L = [] := by
  cases hq : cmosB fo ft E1 E2 e0 nE U c0 L with
  | nil => rfl
  | cons a B =>
    have h1 := mnF_701 _ _ h a (by rw [hq]; exact List.mem_cons_self)
    have h2 := cmosB_le L U c0 hL a (by rw [hq]; exact List.mem_cons_self)
    omega
