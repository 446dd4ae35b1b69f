/-! The heap h holds the block S of class ci at a. -/
def isB (ci : Nat) (h : xH) (a : Nat) (S : gS) : Prop := oh ci h a S = h
def ofp (ci a q : Nat) : Bool := decide (q = a) || (decide (a < q) && (o_at ci (q - a)).isSome)
theorem ofp_out {ci a q : Nat} {S : gS} (h : ofp ci a q = false) : ocell ci a S q = none := by
  unfold ofp at h
  rw [Bool.or_eq_false_iff, decide_eq_false_iff_not, Bool.and_eq_false_iff] at h
  unfold ocell
  rw [if_neg h.1]
  by_cases h1 : a < q
  · rw [if_pos h1]
    rcases h.2 with h2 | h2
    · exact absurd h1 (of_decide_eq_false h2)
    · cases h3 : o_at ci (q - a) with
      | none => rfl
      | some k => rw [h3] at h2; cases h2
  · rw [if_neg h1]
theorem ofp_in {ci a q : Nat} {S : gS} (h : ofp ci a q = true) : ∃ e, ocell ci a S q = some e := by
  unfold ofp at h
  rw [Bool.or_eq_true, decide_eq_true_eq, Bool.and_eq_true, decide_eq_true_eq] at h
  unfold ocell
  by_cases h0 : q = a
  · rw [if_pos h0]; exact ⟨_, rfl⟩
  · rw [if_neg h0]
    rcases h with h | ⟨h1, h2⟩
    · exact absurd h h0
    · rw [if_pos h1]
      cases h3 : o_at ci (q - a) with
      | none => rw [h3] at h2; cases h2
      | some k => exact ⟨_, rfl⟩
theorem isB_oh (ci : Nat) (h : xH) (a : Nat) (S : gS) : isB ci (oh ci h a S) a S := by
  unfold isB
  refine Prod.ext ?_ rfl
  funext q
  show (match ocell ci a S q with | some e => some e | none => (oh ci h a S).1 q) = (oh ci h a S).1 q
  cases he : ocell ci a S q with
  | none => rfl
  | some e => simp only [oh, he]
theorem isB_of {ci : Nat} {h : xH} {a : Nat} {S : gS} (H : ∀ q e, ocell ci a S q = some e → h.1 q = some e) : isB ci h a S := by
  unfold isB
  refine Prod.ext ?_ rfl
  funext q
  show (match ocell ci a S q with | some e => some e | none => h.1 q) = h.1 q
  cases he : ocell ci a S q with
  | none => rfl
  | some e => exact (H q e he).symm
theorem isB.to {ci : Nat} {h : xH} {a : Nat} {S : gS} (H : isB ci h a S) : ∀ q e, ocell ci a S q = some e → h.1 q = some e := by
  intro q e he
  rw [← H]
  simp only [oh, he]
/-- a heap that is the same on the block -/
theorem isB.kept {ci : Nat} {h h1 : xH} {a : Nat} {S : gS} (H : isB ci h a S) (hk : ∀ q, ofp ci a q = true → h1.1 q = h.1 q) : isB ci h1 a S := by
  refine isB_of fun q e he => ?_
  have : ofp ci a q = true := by
    cases hq : ofp ci a q with
    | true => rfl
    | false => rw [ofp_out hq] at he; cases he
  rw [hk q this]
  exact H.to q e he
def dj (ci a ci2 a2 : Nat) : Prop := ∀ q, ofp ci a q = true → ofp ci2 a2 q = false
theorem dj.symm {ci a ci2 a2 : Nat} (h : dj ci a ci2 a2) : dj ci2 a2 ci a := by
  intro q hq
  cases h1 : ofp ci a q with
  | false => rfl
  | true => rw [h q h1] at hq; cases hq
theorem oh_same {ci : Nat} {h : xH} {a : Nat} {S : gS} {q : Nat} (hq : ofp ci a q = false) : (oh ci h a S).1 q = h.1 q := oh_out (ofp_out hq)
theorem isB.frame {ci ci2 : Nat} {h : xH} {a a2 : Nat} {S S2 : gS} (H : isB ci2 h a2 S2) (hd : dj ci a ci2 a2) : isB ci2 (oh ci h a S) a2 S2 :=
  H.kept fun q hq => oh_same (hd.symm q hq)
theorem oh_oh (ci : Nat) (h : xH) (a : Nat) (S S2 : gS) : oh ci (oh ci h a S) a S2 = oh ci h a S2 := by
  refine Prod.ext ?_ rfl
  funext q
  show (match ocell ci a S2 q with | some e => some e | none => (oh ci h a S).1 q) = (match ocell ci a S2 q with | some e => some e | none => h.1 q)
  cases he : ofp ci a q with
  | true =>
    obtain ⟨e, h2⟩ := ofp_in (S := S2) he
    rw [h2]
  | false => rw [ofp_out he, oh_same he]
/-- blocks that lie apart by their addresses -/
def o_sz (ci : Nat) : Nat := ((o_ats[ci]?).getD []).length
theorem ofp_lt {ci a q : Nat} (hc : 0 < o_sz ci) (h : ofp ci a q = true) : a ≤ q ∧ q < a + o_sz ci := by
  unfold ofp at h
  rw [Bool.or_eq_true, decide_eq_true_eq, Bool.and_eq_true, decide_eq_true_eq] at h
  rcases h with h | ⟨h1, h2⟩
  · omega
  · refine ⟨by omega, ?_⟩
    rcases Nat.lt_or_ge (q - a) (o_sz ci) with h3 | h3
    · omega
    · have : o_at ci (q - a) = none := by
        unfold o_at
        rw [List.getElem?_eq_none h3]
        rfl
      rw [this] at h2
      cases h2
theorem dj_of {ci a ci2 a2 : Nat} (h1 : 0 < o_sz ci) (h2 : 0 < o_sz ci2) (h : a + o_sz ci ≤ a2 ∨ a2 + o_sz ci2 ≤ a) : dj ci a ci2 a2 := by
  intro q hq
  cases hq2 : ofp ci2 a2 q with
  | false => rfl
  | true =>
    have := ofp_lt h1 hq
    have := ofp_lt h2 hq2
    omega
theorem isB.mk {ci : Nat} {h : xH} {a : Nat} {S : gS} {e : xE} {n : Nat} (H : isB ci h a S) (hs : 0 < o_sz ci) (ha : a + o_sz ci ≤ h.2.2.1) : isB ci (xmk h e n) a S := by
  refine H.kept fun q hq => ?_
  have := ofp_lt hs hq
  show va_up h.1 h.2.2.1 (some e) q = h.1 q
  exact va_up_ne _ _ (by omega)
theorem h_ob {ci : Nat} {h : xH} {a : Nat} {S : gS} (H : isB ci h a S) {α : Type} (f : List Value → Option α) : xob h a ci f = f (ofs ci a S) := by
  have := o_ob ci h a S f
  rw [H] at this
  exact this
theorem h_is {ci : Nat} {h : xH} {a : Nat} {S : gS} (H : isB ci h a S) {α : Type} (f : Option α) : xis h a ci f = f := by
  have := o_is ci h a S f
  rw [H] at this
  exact this
theorem hg_0_0 {h : xH} {a : Nat} {S : gS} (H : isB 0 h a S) {α : Type} (f : Value → Option α) : xgf h a 0 0 f = f (.ref (a + 1)) := by
  have z := og_0_0 h a S f
  rw [show oh 0 h a S = h from H] at z
  exact z
theorem hr_0_0 {h : xH} {a : Nat} {S : gS} (H : isB 0 h a S) {α : Type} (i : Int32) (f : Value → Option α) : xrd h (a + 1) i 0 1 f = if bIn i 701 = true then f (.int (sA S 0 i.toNatClampNeg)) else none := by
  have z := or_0_0 h a S i f
  rw [show oh 0 h a S = h from H] at z
  exact z
theorem hw_0_0 {h : xH} {a : Nat} {S : gS} (H : isB 0 h a S) {α : Type} (i : Int32) (v : Int32) (f : xH → Option α) : xwr h (a + 1) i 0 (.int v) f = if bIn i 701 = true then f (oh 0 h a (uA S 0 i.toNatClampNeg v)) else none := by
  have z := ow_0_0 h a S i v f
  rw [show oh 0 h a S = h from H] at z
  exact z
theorem hg_0_1 {h : xH} {a : Nat} {S : gS} (H : isB 0 h a S) {α : Type} (f : Value → Option α) : xgf h a 0 1 f = f (.ref (a + 2)) := by
  have z := og_0_1 h a S f
  rw [show oh 0 h a S = h from H] at z
  exact z
theorem hr_0_1 {h : xH} {a : Nat} {S : gS} (H : isB 0 h a S) {α : Type} (i : Int32) (f : Value → Option α) : xrd h (a + 2) i 0 1 f = if bIn i 701 = true then f (.int (sA S 1 i.toNatClampNeg)) else none := by
  have z := or_0_1 h a S i f
  rw [show oh 0 h a S = h from H] at z
  exact z
theorem hw_0_1 {h : xH} {a : Nat} {S : gS} (H : isB 0 h a S) {α : Type} (i : Int32) (v : Int32) (f : xH → Option α) : xwr h (a + 2) i 0 (.int v) f = if bIn i 701 = true then f (oh 0 h a (uA S 1 i.toNatClampNeg v)) else none := by
  have z := ow_0_1 h a S i v f
  rw [show oh 0 h a S = h from H] at z
  exact z
theorem hg_0_2 {h : xH} {a : Nat} {S : gS} (H : isB 0 h a S) {α : Type} (f : Value → Option α) : xgf h a 0 2 f = f (.ref (a + 3)) := by
  have z := og_0_2 h a S f
  rw [show oh 0 h a S = h from H] at z
  exact z
theorem hr_0_2 {h : xH} {a : Nat} {S : gS} (H : isB 0 h a S) {α : Type} (i : Int32) (f : Value → Option α) : xrd h (a + 3) i 2 2 f = if bIn i 701 = true then f (.long (sL S 2 i.toNatClampNeg)) else none := by
  have z := or_0_2 h a S i f
  rw [show oh 0 h a S = h from H] at z
  exact z
theorem hw_0_2 {h : xH} {a : Nat} {S : gS} (H : isB 0 h a S) {α : Type} (i : Int32) (v : Int64) (f : xH → Option α) : xwr h (a + 3) i 2 (.long v) f = if bIn i 701 = true then f (oh 0 h a (uL S 2 i.toNatClampNeg v)) else none := by
  have z := ow_0_2 h a S i v f
  rw [show oh 0 h a S = h from H] at z
  exact z
theorem hg_0_3 {h : xH} {a : Nat} {S : gS} (H : isB 0 h a S) {α : Type} (f : Value → Option α) : xgf h a 0 3 f = f (.int (sI S 3)) := by
  have z := og_0_3 h a S f
  rw [show oh 0 h a S = h from H] at z
  exact z
theorem hp_0_3 {h : xH} {a : Nat} {S : gS} (H : isB 0 h a S) (v : Int32) : xput h a (.inr (0, (ofs 0 a S).set 3 (.int v))) = oh 0 h a (uI S 3 v) := by
  have z := op_0_3 h a S v
  rw [show oh 0 h a S = h from H] at z
  exact z
theorem hg_0_4 {h : xH} {a : Nat} {S : gS} (H : isB 0 h a S) {α : Type} (f : Value → Option α) : xgf h a 0 4 f = f (.int (sI S 4)) := by
  have z := og_0_4 h a S f
  rw [show oh 0 h a S = h from H] at z
  exact z
theorem hp_0_4 {h : xH} {a : Nat} {S : gS} (H : isB 0 h a S) (v : Int32) : xput h a (.inr (0, (ofs 0 a S).set 4 (.int v))) = oh 0 h a (uI S 4 v) := by
  have z := op_0_4 h a S v
  rw [show oh 0 h a S = h from H] at z
  exact z
theorem hg_1_0 {h : xH} {a : Nat} {S : gS} (H : isB 1 h a S) {α : Type} (f : Value → Option α) : xgf h a 1 0 f = f (.long (sJ S 0)) := by
  have z := og_1_0 h a S f
  rw [show oh 1 h a S = h from H] at z
  exact z
theorem hp_1_0 {h : xH} {a : Nat} {S : gS} (H : isB 1 h a S) (v : Int64) : xput h a (.inr (1, (ofs 1 a S).set 0 (.long v))) = oh 1 h a (uJ S 0 v) := by
  have z := op_1_0 h a S v
  rw [show oh 1 h a S = h from H] at z
  exact z
theorem hg_1_1 {h : xH} {a : Nat} {S : gS} (H : isB 1 h a S) {α : Type} (f : Value → Option α) : xgf h a 1 1 f = f (.ref (a + 1)) := by
  have z := og_1_1 h a S f
  rw [show oh 1 h a S = h from H] at z
  exact z
theorem hr_1_1 {h : xH} {a : Nat} {S : gS} (H : isB 1 h a S) {α : Type} (i : Int32) (f : Value → Option α) : xrd h (a + 1) i 2 2 f = if bIn i 8 = true then f (.long (sL S 1 i.toNatClampNeg)) else none := by
  have z := or_1_1 h a S i f
  rw [show oh 1 h a S = h from H] at z
  exact z
theorem hw_1_1 {h : xH} {a : Nat} {S : gS} (H : isB 1 h a S) {α : Type} (i : Int32) (v : Int64) (f : xH → Option α) : xwr h (a + 1) i 2 (.long v) f = if bIn i 8 = true then f (oh 1 h a (uL S 1 i.toNatClampNeg v)) else none := by
  have z := ow_1_1 h a S i v f
  rw [show oh 1 h a S = h from H] at z
  exact z
theorem hg_1_2 {h : xH} {a : Nat} {S : gS} (H : isB 1 h a S) {α : Type} (f : Value → Option α) : xgf h a 1 2 f = f (.ref (a + 2)) := by
  have z := og_1_2 h a S f
  rw [show oh 1 h a S = h from H] at z
  exact z
theorem hr_1_2 {h : xH} {a : Nat} {S : gS} (H : isB 1 h a S) {α : Type} (i : Int32) (f : Value → Option α) : xrd h (a + 2) i 0 1 f = if bIn i 8 = true then f (.int (sA S 2 i.toNatClampNeg)) else none := by
  have z := or_1_2 h a S i f
  rw [show oh 1 h a S = h from H] at z
  exact z
theorem hw_1_2 {h : xH} {a : Nat} {S : gS} (H : isB 1 h a S) {α : Type} (i : Int32) (v : Int32) (f : xH → Option α) : xwr h (a + 2) i 0 (.int v) f = if bIn i 8 = true then f (oh 1 h a (uA S 2 i.toNatClampNeg v)) else none := by
  have z := ow_1_2 h a S i v f
  rw [show oh 1 h a S = h from H] at z
  exact z
theorem hg_1_3 {h : xH} {a : Nat} {S : gS} (H : isB 1 h a S) {α : Type} (f : Value → Option α) : xgf h a 1 3 f = f (.ref (a + 3)) := by
  have z := og_1_3 h a S f
  rw [show oh 1 h a S = h from H] at z
  exact z
theorem hr_1_3 {h : xH} {a : Nat} {S : gS} (H : isB 1 h a S) {α : Type} (i : Int32) (f : Value → Option α) : xrd h (a + 3) i 3 4 f = if bIn i 8 = true then f (.int (sA S 3 i.toNatClampNeg)) else none := by
  have z := or_1_3 h a S i f
  rw [show oh 1 h a S = h from H] at z
  exact z
theorem hw_1_3 {h : xH} {a : Nat} {S : gS} (H : isB 1 h a S) {α : Type} (i : Int32) (v : Int32) (f : xH → Option α) : xwb h (a + 3) i v f = if bIn i 8 = true then f (oh 1 h a (uA S 3 i.toNatClampNeg (v &&& 1))) else none := by
  have z := ow_1_3 h a S i v f
  rw [show oh 1 h a S = h from H] at z
  exact z
theorem hg_1_4 {h : xH} {a : Nat} {S : gS} (H : isB 1 h a S) {α : Type} (f : Value → Option α) : xgf h a 1 4 f = f (.int (sI S 4)) := by
  have z := og_1_4 h a S f
  rw [show oh 1 h a S = h from H] at z
  exact z
theorem hp_1_4 {h : xH} {a : Nat} {S : gS} (H : isB 1 h a S) (v : Int32) : xput h a (.inr (1, (ofs 1 a S).set 4 (.int v))) = oh 1 h a (uI S 4 v) := by
  have z := op_1_4 h a S v
  rw [show oh 1 h a S = h from H] at z
  exact z
theorem hg_2_0 {h : xH} {a : Nat} {S : gS} (H : isB 2 h a S) {α : Type} (f : Value → Option α) : xgf h a 2 0 f = f (.ref (a + 1)) := by
  have z := og_2_0 h a S f
  rw [show oh 2 h a S = h from H] at z
  exact z
theorem hr_2_0 {h : xH} {a : Nat} {S : gS} (H : isB 2 h a S) {α : Type} (i : Int32) (f : Value → Option α) : xrq h (a + 1) i f = if bIn i 6 = true then f (sQ S 0 i.toNatClampNeg) else none := by
  have z := or_2_0 h a S i f
  rw [show oh 2 h a S = h from H] at z
  exact z
theorem hw_2_0 {h : xH} {a : Nat} {S : gS} (H : isB 2 h a S) {α : Type} (i : Int32) (v : Nat) (f : xH → Option α) : xwq h (a + 1) i (.ref v) f = if bIn i 6 = true then xis h v 1 (f (oh 2 h a (uQ S 0 i.toNatClampNeg (.ref v)))) else none := by
  have z := ow_2_0 h a S i v f
  rw [show oh 2 h a S = h from H] at z
  exact z
theorem hn_2_0 {h : xH} {a : Nat} {S : gS} (H : isB 2 h a S) {α : Type} (i : Int32) (f : xH → Option α) : xwq h (a + 1) i .null f = if bIn i 6 = true then f (oh 2 h a (uQ S 0 i.toNatClampNeg .null)) else none := by
  have z := on_2_0 h a S i f
  rw [show oh 2 h a S = h from H] at z
  exact z
theorem hg_2_1 {h : xH} {a : Nat} {S : gS} (H : isB 2 h a S) {α : Type} (f : Value → Option α) : xgf h a 2 1 f = f (.int (sI S 1)) := by
  have z := og_2_1 h a S f
  rw [show oh 2 h a S = h from H] at z
  exact z
theorem hp_2_1 {h : xH} {a : Nat} {S : gS} (H : isB 2 h a S) (v : Int32) : xput h a (.inr (2, (ofs 2 a S).set 1 (.int v))) = oh 2 h a (uI S 1 v) := by
  have z := op_2_1 h a S v
  rw [show oh 2 h a S = h from H] at z
  exact z
theorem hg_3_0 {h : xH} {a : Nat} {S : gS} (H : isB 3 h a S) {α : Type} (f : Value → Option α) : xgf h a 3 0 f = f (.int (sI S 0)) := by
  have z := og_3_0 h a S f
  rw [show oh 3 h a S = h from H] at z
  exact z
theorem hp_3_0 {h : xH} {a : Nat} {S : gS} (H : isB 3 h a S) (v : Int32) : xput h a (.inr (3, (ofs 3 a S).set 0 (.int v))) = oh 3 h a (uI S 0 v) := by
  have z := op_3_0 h a S v
  rw [show oh 3 h a S = h from H] at z
  exact z
theorem hg_3_1 {h : xH} {a : Nat} {S : gS} (H : isB 3 h a S) {α : Type} (f : Value → Option α) : xgf h a 3 1 f = f (.ref (a + 1)) := by
  have z := og_3_1 h a S f
  rw [show oh 3 h a S = h from H] at z
  exact z
theorem hr_3_1 {h : xH} {a : Nat} {S : gS} (H : isB 3 h a S) {α : Type} (i : Int32) (f : Value → Option α) : xrd h (a + 1) i 0 1 f = if bIn i 8 = true then f (.int (sA S 1 i.toNatClampNeg)) else none := by
  have z := or_3_1 h a S i f
  rw [show oh 3 h a S = h from H] at z
  exact z
theorem hw_3_1 {h : xH} {a : Nat} {S : gS} (H : isB 3 h a S) {α : Type} (i : Int32) (v : Int32) (f : xH → Option α) : xwr h (a + 1) i 0 (.int v) f = if bIn i 8 = true then f (oh 3 h a (uA S 1 i.toNatClampNeg v)) else none := by
  have z := ow_3_1 h a S i v f
  rw [show oh 3 h a S = h from H] at z
  exact z
theorem hg_3_2 {h : xH} {a : Nat} {S : gS} (H : isB 3 h a S) {α : Type} (f : Value → Option α) : xgf h a 3 2 f = f (.ref (a + 2)) := by
  have z := og_3_2 h a S f
  rw [show oh 3 h a S = h from H] at z
  exact z
theorem hr_3_2 {h : xH} {a : Nat} {S : gS} (H : isB 3 h a S) {α : Type} (i : Int32) (f : Value → Option α) : xrd h (a + 2) i 0 1 f = if bIn i 9 = true then f (.int (sA S 2 i.toNatClampNeg)) else none := by
  have z := or_3_2 h a S i f
  rw [show oh 3 h a S = h from H] at z
  exact z
theorem hw_3_2 {h : xH} {a : Nat} {S : gS} (H : isB 3 h a S) {α : Type} (i : Int32) (v : Int32) (f : xH → Option α) : xwr h (a + 2) i 0 (.int v) f = if bIn i 9 = true then f (oh 3 h a (uA S 2 i.toNatClampNeg v)) else none := by
  have z := ow_3_2 h a S i v f
  rw [show oh 3 h a S = h from H] at z
  exact z
theorem hg_3_3 {h : xH} {a : Nat} {S : gS} (H : isB 3 h a S) {α : Type} (f : Value → Option α) : xgf h a 3 3 f = f (.ref (a + 3)) := by
  have z := og_3_3 h a S f
  rw [show oh 3 h a S = h from H] at z
  exact z
theorem hr_3_3 {h : xH} {a : Nat} {S : gS} (H : isB 3 h a S) {α : Type} (i : Int32) (f : Value → Option α) : xrd h (a + 3) i 0 1 f = if bIn i 9 = true then f (.int (sA S 3 i.toNatClampNeg)) else none := by
  have z := or_3_3 h a S i f
  rw [show oh 3 h a S = h from H] at z
  exact z
theorem hw_3_3 {h : xH} {a : Nat} {S : gS} (H : isB 3 h a S) {α : Type} (i : Int32) (v : Int32) (f : xH → Option α) : xwr h (a + 3) i 0 (.int v) f = if bIn i 9 = true then f (oh 3 h a (uA S 3 i.toNatClampNeg v)) else none := by
  have z := ow_3_3 h a S i v f
  rw [show oh 3 h a S = h from H] at z
  exact z
theorem hg_3_4 {h : xH} {a : Nat} {S : gS} (H : isB 3 h a S) {α : Type} (f : Value → Option α) : xgf h a 3 4 f = f (.ref (a + 4)) := by
  have z := og_3_4 h a S f
  rw [show oh 3 h a S = h from H] at z
  exact z
theorem hr_3_4 {h : xH} {a : Nat} {S : gS} (H : isB 3 h a S) {α : Type} (i : Int32) (f : Value → Option α) : xrd h (a + 4) i 3 4 f = if bIn i 9 = true then f (.int (sA S 4 i.toNatClampNeg)) else none := by
  have z := or_3_4 h a S i f
  rw [show oh 3 h a S = h from H] at z
  exact z
theorem hw_3_4 {h : xH} {a : Nat} {S : gS} (H : isB 3 h a S) {α : Type} (i : Int32) (v : Int32) (f : xH → Option α) : xwb h (a + 4) i v f = if bIn i 9 = true then f (oh 3 h a (uA S 4 i.toNatClampNeg (v &&& 1))) else none := by
  have z := ow_3_4 h a S i v f
  rw [show oh 3 h a S = h from H] at z
  exact z
theorem hg_3_5 {h : xH} {a : Nat} {S : gS} (H : isB 3 h a S) {α : Type} (f : Value → Option α) : xgf h a 3 5 f = f (.ref (a + 5)) := by
  have z := og_3_5 h a S f
  rw [show oh 3 h a S = h from H] at z
  exact z
theorem hr_3_5 {h : xH} {a : Nat} {S : gS} (H : isB 3 h a S) {α : Type} (i : Int32) (f : Value → Option α) : xrd h (a + 5) i 3 4 f = if bIn i 8 = true then f (.int (sA S 5 i.toNatClampNeg)) else none := by
  have z := or_3_5 h a S i f
  rw [show oh 3 h a S = h from H] at z
  exact z
theorem hw_3_5 {h : xH} {a : Nat} {S : gS} (H : isB 3 h a S) {α : Type} (i : Int32) (v : Int32) (f : xH → Option α) : xwb h (a + 5) i v f = if bIn i 8 = true then f (oh 3 h a (uA S 5 i.toNatClampNeg (v &&& 1))) else none := by
  have z := ow_3_5 h a S i v f
  rw [show oh 3 h a S = h from H] at z
  exact z
theorem hg_3_6 {h : xH} {a : Nat} {S : gS} (H : isB 3 h a S) {α : Type} (f : Value → Option α) : xgf h a 3 6 f = f (.ref (a + 6)) := by
  have z := og_3_6 h a S f
  rw [show oh 3 h a S = h from H] at z
  exact z
theorem hr_3_6 {h : xH} {a : Nat} {S : gS} (H : isB 3 h a S) {α : Type} (i : Int32) (f : Value → Option α) : xrd h (a + 6) i 3 4 f = if bIn i 8 = true then f (.int (sA S 6 i.toNatClampNeg)) else none := by
  have z := or_3_6 h a S i f
  rw [show oh 3 h a S = h from H] at z
  exact z
theorem hw_3_6 {h : xH} {a : Nat} {S : gS} (H : isB 3 h a S) {α : Type} (i : Int32) (v : Int32) (f : xH → Option α) : xwb h (a + 6) i v f = if bIn i 8 = true then f (oh 3 h a (uA S 6 i.toNatClampNeg (v &&& 1))) else none := by
  have z := ow_3_6 h a S i v f
  rw [show oh 3 h a S = h from H] at z
  exact z
theorem hg_4_0 {h : xH} {a : Nat} {S : gS} (H : isB 4 h a S) {α : Type} (f : Value → Option α) : xgf h a 4 0 f = f (sR S 0) := by
  have z := og_4_0 h a S f
  rw [show oh 4 h a S = h from H] at z
  exact z
theorem hp_4_0 {h : xH} {a : Nat} {S : gS} (H : isB 4 h a S) (v : Value) : xput h a (.inr (4, (ofs 4 a S).set 0 v)) = oh 4 h a (uR S 0 v) := by
  have z := op_4_0 h a S v
  rw [show oh 4 h a S = h from H] at z
  exact z
theorem hg_4_1 {h : xH} {a : Nat} {S : gS} (H : isB 4 h a S) {α : Type} (f : Value → Option α) : xgf h a 4 1 f = f (sR S 1) := by
  have z := og_4_1 h a S f
  rw [show oh 4 h a S = h from H] at z
  exact z
theorem hp_4_1 {h : xH} {a : Nat} {S : gS} (H : isB 4 h a S) (v : Value) : xput h a (.inr (4, (ofs 4 a S).set 1 v)) = oh 4 h a (uR S 1 v) := by
  have z := op_4_1 h a S v
  rw [show oh 4 h a S = h from H] at z
  exact z
theorem hg_4_2 {h : xH} {a : Nat} {S : gS} (H : isB 4 h a S) {α : Type} (f : Value → Option α) : xgf h a 4 2 f = f (.ref (a + 9)) := by
  have z := og_4_2 h a S f
  rw [show oh 4 h a S = h from H] at z
  exact z
theorem hr_4_2 {h : xH} {a : Nat} {S : gS} (H : isB 4 h a S) {α : Type} (i : Int32) (f : Value → Option α) : xrd h (a + 9) i 0 1 f = if bIn i 700 = true then f (.int (sA S 2 i.toNatClampNeg)) else none := by
  have z := or_4_2 h a S i f
  rw [show oh 4 h a S = h from H] at z
  exact z
theorem hw_4_2 {h : xH} {a : Nat} {S : gS} (H : isB 4 h a S) {α : Type} (i : Int32) (v : Int32) (f : xH → Option α) : xwr h (a + 9) i 0 (.int v) f = if bIn i 700 = true then f (oh 4 h a (uA S 2 i.toNatClampNeg v)) else none := by
  have z := ow_4_2 h a S i v f
  rw [show oh 4 h a S = h from H] at z
  exact z
theorem hg_4_3 {h : xH} {a : Nat} {S : gS} (H : isB 4 h a S) {α : Type} (f : Value → Option α) : xgf h a 4 3 f = f (.ref (a + 10)) := by
  have z := og_4_3 h a S f
  rw [show oh 4 h a S = h from H] at z
  exact z
theorem hr_4_3 {h : xH} {a : Nat} {S : gS} (H : isB 4 h a S) {α : Type} (i : Int32) (f : Value → Option α) : xrd h (a + 10) i 0 1 f = if bIn i 700 = true then f (.int (sA S 3 i.toNatClampNeg)) else none := by
  have z := or_4_3 h a S i f
  rw [show oh 4 h a S = h from H] at z
  exact z
theorem hw_4_3 {h : xH} {a : Nat} {S : gS} (H : isB 4 h a S) {α : Type} (i : Int32) (v : Int32) (f : xH → Option α) : xwr h (a + 10) i 0 (.int v) f = if bIn i 700 = true then f (oh 4 h a (uA S 3 i.toNatClampNeg v)) else none := by
  have z := ow_4_3 h a S i v f
  rw [show oh 4 h a S = h from H] at z
  exact z
theorem hg_4_4 {h : xH} {a : Nat} {S : gS} (H : isB 4 h a S) {α : Type} (f : Value → Option α) : xgf h a 4 4 f = f (.int (sI S 4)) := by
  have z := og_4_4 h a S f
  rw [show oh 4 h a S = h from H] at z
  exact z
theorem hp_4_4 {h : xH} {a : Nat} {S : gS} (H : isB 4 h a S) (v : Int32) : xput h a (.inr (4, (ofs 4 a S).set 4 (.int v))) = oh 4 h a (uI S 4 v) := by
  have z := op_4_4 h a S v
  rw [show oh 4 h a S = h from H] at z
  exact z
theorem hg_4_5 {h : xH} {a : Nat} {S : gS} (H : isB 4 h a S) {α : Type} (f : Value → Option α) : xgf h a 4 5 f = f (sR S 5) := by
  have z := og_4_5 h a S f
  rw [show oh 4 h a S = h from H] at z
  exact z
theorem hp_4_5 {h : xH} {a : Nat} {S : gS} (H : isB 4 h a S) (v : Value) : xput h a (.inr (4, (ofs 4 a S).set 5 v)) = oh 4 h a (uR S 5 v) := by
  have z := op_4_5 h a S v
  rw [show oh 4 h a S = h from H] at z
  exact z
theorem hg_4_6 {h : xH} {a : Nat} {S : gS} (H : isB 4 h a S) {α : Type} (f : Value → Option α) : xgf h a 4 6 f = f (sR S 6) := by
  have z := og_4_6 h a S f
  rw [show oh 4 h a S = h from H] at z
  exact z
theorem hp_4_6 {h : xH} {a : Nat} {S : gS} (H : isB 4 h a S) (v : Value) : xput h a (.inr (4, (ofs 4 a S).set 6 v)) = oh 4 h a (uR S 6 v) := by
  have z := op_4_6 h a S v
  rw [show oh 4 h a S = h from H] at z
  exact z
theorem hg_4_7 {h : xH} {a : Nat} {S : gS} (H : isB 4 h a S) {α : Type} (f : Value → Option α) : xgf h a 4 7 f = f (sR S 7) := by
  have z := og_4_7 h a S f
  rw [show oh 4 h a S = h from H] at z
  exact z
theorem hp_4_7 {h : xH} {a : Nat} {S : gS} (H : isB 4 h a S) (v : Value) : xput h a (.inr (4, (ofs 4 a S).set 7 v)) = oh 4 h a (uR S 7 v) := by
  have z := op_4_7 h a S v
  rw [show oh 4 h a S = h from H] at z
  exact z
theorem hg_4_8 {h : xH} {a : Nat} {S : gS} (H : isB 4 h a S) {α : Type} (f : Value → Option α) : xgf h a 4 8 f = f (.int (sI S 8)) := by
  have z := og_4_8 h a S f
  rw [show oh 4 h a S = h from H] at z
  exact z
theorem hp_4_8 {h : xH} {a : Nat} {S : gS} (H : isB 4 h a S) (v : Int32) : xput h a (.inr (4, (ofs 4 a S).set 8 (.int v))) = oh 4 h a (uI S 8 v) := by
  have z := op_4_8 h a S v
  rw [show oh 4 h a S = h from H] at z
  exact z
theorem hg_4_9 {h : xH} {a : Nat} {S : gS} (H : isB 4 h a S) {α : Type} (f : Value → Option α) : xgf h a 4 9 f = f (sR S 9) := by
  have z := og_4_9 h a S f
  rw [show oh 4 h a S = h from H] at z
  exact z
theorem hp_4_9 {h : xH} {a : Nat} {S : gS} (H : isB 4 h a S) (v : Value) : xput h a (.inr (4, (ofs 4 a S).set 9 v)) = oh 4 h a (uR S 9 v) := by
  have z := op_4_9 h a S v
  rw [show oh 4 h a S = h from H] at z
  exact z
theorem hg_4_10 {h : xH} {a : Nat} {S : gS} (H : isB 4 h a S) {α : Type} (f : Value → Option α) : xgf h a 4 10 f = f (sR S 10) := by
  have z := og_4_10 h a S f
  rw [show oh 4 h a S = h from H] at z
  exact z
theorem hp_4_10 {h : xH} {a : Nat} {S : gS} (H : isB 4 h a S) (v : Value) : xput h a (.inr (4, (ofs 4 a S).set 10 v)) = oh 4 h a (uR S 10 v) := by
  have z := op_4_10 h a S v
  rw [show oh 4 h a S = h from H] at z
  exact z
theorem hg_4_11 {h : xH} {a : Nat} {S : gS} (H : isB 4 h a S) {α : Type} (f : Value → Option α) : xgf h a 4 11 f = f (sR S 11) := by
  have z := og_4_11 h a S f
  rw [show oh 4 h a S = h from H] at z
  exact z
theorem hp_4_11 {h : xH} {a : Nat} {S : gS} (H : isB 4 h a S) (v : Value) : xput h a (.inr (4, (ofs 4 a S).set 11 v)) = oh 4 h a (uR S 11 v) := by
  have z := op_4_11 h a S v
  rw [show oh 4 h a S = h from H] at z
  exact z
theorem hg_4_12 {h : xH} {a : Nat} {S : gS} (H : isB 4 h a S) {α : Type} (f : Value → Option α) : xgf h a 4 12 f = f (.int (sI S 12)) := by
  have z := og_4_12 h a S f
  rw [show oh 4 h a S = h from H] at z
  exact z
theorem hp_4_12 {h : xH} {a : Nat} {S : gS} (H : isB 4 h a S) (v : Int32) : xput h a (.inr (4, (ofs 4 a S).set 12 (.int v))) = oh 4 h a (uI S 12 v) := by
  have z := op_4_12 h a S v
  rw [show oh 4 h a S = h from H] at z
  exact z
theorem hg_4_13 {h : xH} {a : Nat} {S : gS} (H : isB 4 h a S) {α : Type} (f : Value → Option α) : xgf h a 4 13 f = f (.int (sI S 13)) := by
  have z := og_4_13 h a S f
  rw [show oh 4 h a S = h from H] at z
  exact z
theorem hp_4_13 {h : xH} {a : Nat} {S : gS} (H : isB 4 h a S) (v : Int32) : xput h a (.inr (4, (ofs 4 a S).set 13 (.int v))) = oh 4 h a (uI S 13 v) := by
  have z := op_4_13 h a S v
  rw [show oh 4 h a S = h from H] at z
  exact z
theorem hg_4_14 {h : xH} {a : Nat} {S : gS} (H : isB 4 h a S) {α : Type} (f : Value → Option α) : xgf h a 4 14 f = f (.int (sI S 14)) := by
  have z := og_4_14 h a S f
  rw [show oh 4 h a S = h from H] at z
  exact z
theorem hp_4_14 {h : xH} {a : Nat} {S : gS} (H : isB 4 h a S) (v : Int32) : xput h a (.inr (4, (ofs 4 a S).set 14 (.int v))) = oh 4 h a (uI S 14 v) := by
  have z := op_4_14 h a S v
  rw [show oh 4 h a S = h from H] at z
  exact z
theorem hg_4_15 {h : xH} {a : Nat} {S : gS} (H : isB 4 h a S) {α : Type} (f : Value → Option α) : xgf h a 4 15 f = f (.int (sI S 15)) := by
  have z := og_4_15 h a S f
  rw [show oh 4 h a S = h from H] at z
  exact z
theorem hp_4_15 {h : xH} {a : Nat} {S : gS} (H : isB 4 h a S) (v : Int32) : xput h a (.inr (4, (ofs 4 a S).set 15 (.int v))) = oh 4 h a (uI S 15 v) := by
  have z := op_4_15 h a S v
  rw [show oh 4 h a S = h from H] at z
  exact z
theorem hg_5_0 {h : xH} {a : Nat} {S : gS} (H : isB 5 h a S) {α : Type} (f : Value → Option α) : xgf h a 5 0 f = f (.ref (a + 1)) := by
  have z := og_5_0 h a S f
  rw [show oh 5 h a S = h from H] at z
  exact z
theorem hr_5_0 {h : xH} {a : Nat} {S : gS} (H : isB 5 h a S) {α : Type} (i : Int32) (f : Value → Option α) : xrd h (a + 1) i 2 2 f = if bIn i 48 = true then f (.long (sL S 0 i.toNatClampNeg)) else none := by
  have z := or_5_0 h a S i f
  rw [show oh 5 h a S = h from H] at z
  exact z
theorem hw_5_0 {h : xH} {a : Nat} {S : gS} (H : isB 5 h a S) {α : Type} (i : Int32) (v : Int64) (f : xH → Option α) : xwr h (a + 1) i 2 (.long v) f = if bIn i 48 = true then f (oh 5 h a (uL S 0 i.toNatClampNeg v)) else none := by
  have z := ow_5_0 h a S i v f
  rw [show oh 5 h a S = h from H] at z
  exact z
theorem hg_5_1 {h : xH} {a : Nat} {S : gS} (H : isB 5 h a S) {α : Type} (f : Value → Option α) : xgf h a 5 1 f = f (.int (sI S 1)) := by
  have z := og_5_1 h a S f
  rw [show oh 5 h a S = h from H] at z
  exact z
theorem hp_5_1 {h : xH} {a : Nat} {S : gS} (H : isB 5 h a S) (v : Int32) : xput h a (.inr (5, (ofs 5 a S).set 1 (.int v))) = oh 5 h a (uI S 1 v) := by
  have z := op_5_1 h a S v
  rw [show oh 5 h a S = h from H] at z
  exact z
theorem hg_5_2 {h : xH} {a : Nat} {S : gS} (H : isB 5 h a S) {α : Type} (f : Value → Option α) : xgf h a 5 2 f = f (.int (sI S 2)) := by
  have z := og_5_2 h a S f
  rw [show oh 5 h a S = h from H] at z
  exact z
theorem hp_5_2 {h : xH} {a : Nat} {S : gS} (H : isB 5 h a S) (v : Int32) : xput h a (.inr (5, (ofs 5 a S).set 2 (.int v))) = oh 5 h a (uI S 2 v) := by
  have z := op_5_2 h a S v
  rw [show oh 5 h a S = h from H] at z
  exact z
theorem hg_5_3 {h : xH} {a : Nat} {S : gS} (H : isB 5 h a S) {α : Type} (f : Value → Option α) : xgf h a 5 3 f = f (.long (sJ S 3)) := by
  have z := og_5_3 h a S f
  rw [show oh 5 h a S = h from H] at z
  exact z
theorem hp_5_3 {h : xH} {a : Nat} {S : gS} (H : isB 5 h a S) (v : Int64) : xput h a (.inr (5, (ofs 5 a S).set 3 (.long v))) = oh 5 h a (uJ S 3 v) := by
  have z := op_5_3 h a S v
  rw [show oh 5 h a S = h from H] at z
  exact z
theorem hg_6_0 {h : xH} {a : Nat} {S : gS} (H : isB 6 h a S) {α : Type} (f : Value → Option α) : xgf h a 6 0 f = f (sR S 0) := by
  have z := og_6_0 h a S f
  rw [show oh 6 h a S = h from H] at z
  exact z
theorem hp_6_0 {h : xH} {a : Nat} {S : gS} (H : isB 6 h a S) (v : Value) : xput h a (.inr (6, (ofs 6 a S).set 0 v)) = oh 6 h a (uR S 0 v) := by
  have z := op_6_0 h a S v
  rw [show oh 6 h a S = h from H] at z
  exact z
theorem hg_6_1 {h : xH} {a : Nat} {S : gS} (H : isB 6 h a S) {α : Type} (f : Value → Option α) : xgf h a 6 1 f = f (.int (sI S 1)) := by
  have z := og_6_1 h a S f
  rw [show oh 6 h a S = h from H] at z
  exact z
theorem hp_6_1 {h : xH} {a : Nat} {S : gS} (H : isB 6 h a S) (v : Int32) : xput h a (.inr (6, (ofs 6 a S).set 1 (.int v))) = oh 6 h a (uI S 1 v) := by
  have z := op_6_1 h a S v
  rw [show oh 6 h a S = h from H] at z
  exact z
theorem hg_6_2 {h : xH} {a : Nat} {S : gS} (H : isB 6 h a S) {α : Type} (f : Value → Option α) : xgf h a 6 2 f = f (.int (sI S 2)) := by
  have z := og_6_2 h a S f
  rw [show oh 6 h a S = h from H] at z
  exact z
theorem hp_6_2 {h : xH} {a : Nat} {S : gS} (H : isB 6 h a S) (v : Int32) : xput h a (.inr (6, (ofs 6 a S).set 2 (.int v))) = oh 6 h a (uI S 2 v) := by
  have z := op_6_2 h a S v
  rw [show oh 6 h a S = h from H] at z
  exact z
theorem hg_6_3 {h : xH} {a : Nat} {S : gS} (H : isB 6 h a S) {α : Type} (f : Value → Option α) : xgf h a 6 3 f = f (.int (sI S 3)) := by
  have z := og_6_3 h a S f
  rw [show oh 6 h a S = h from H] at z
  exact z
theorem hp_6_3 {h : xH} {a : Nat} {S : gS} (H : isB 6 h a S) (v : Int32) : xput h a (.inr (6, (ofs 6 a S).set 3 (.int v))) = oh 6 h a (uI S 3 v) := by
  have z := op_6_3 h a S v
  rw [show oh 6 h a S = h from H] at z
  exact z
theorem hg_6_4 {h : xH} {a : Nat} {S : gS} (H : isB 6 h a S) {α : Type} (f : Value → Option α) : xgf h a 6 4 f = f (.int (sI S 4)) := by
  have z := og_6_4 h a S f
  rw [show oh 6 h a S = h from H] at z
  exact z
theorem hp_6_4 {h : xH} {a : Nat} {S : gS} (H : isB 6 h a S) (v : Int32) : xput h a (.inr (6, (ofs 6 a S).set 4 (.int v))) = oh 6 h a (uI S 4 v) := by
  have z := op_6_4 h a S v
  rw [show oh 6 h a S = h from H] at z
  exact z
theorem hg_6_5 {h : xH} {a : Nat} {S : gS} (H : isB 6 h a S) {α : Type} (f : Value → Option α) : xgf h a 6 5 f = f (.long (sJ S 5)) := by
  have z := og_6_5 h a S f
  rw [show oh 6 h a S = h from H] at z
  exact z
theorem hp_6_5 {h : xH} {a : Nat} {S : gS} (H : isB 6 h a S) (v : Int64) : xput h a (.inr (6, (ofs 6 a S).set 5 (.long v))) = oh 6 h a (uJ S 5 v) := by
  have z := op_6_5 h a S v
  rw [show oh 6 h a S = h from H] at z
  exact z
theorem hg_6_6 {h : xH} {a : Nat} {S : gS} (H : isB 6 h a S) {α : Type} (f : Value → Option α) : xgf h a 6 6 f = f (.long (sJ S 6)) := by
  have z := og_6_6 h a S f
  rw [show oh 6 h a S = h from H] at z
  exact z
theorem hp_6_6 {h : xH} {a : Nat} {S : gS} (H : isB 6 h a S) (v : Int64) : xput h a (.inr (6, (ofs 6 a S).set 6 (.long v))) = oh 6 h a (uJ S 6 v) := by
  have z := op_6_6 h a S v
  rw [show oh 6 h a S = h from H] at z
  exact z
theorem hg_6_7 {h : xH} {a : Nat} {S : gS} (H : isB 6 h a S) {α : Type} (f : Value → Option α) : xgf h a 6 7 f = f (.int (sI S 7)) := by
  have z := og_6_7 h a S f
  rw [show oh 6 h a S = h from H] at z
  exact z
theorem hp_6_7 {h : xH} {a : Nat} {S : gS} (H : isB 6 h a S) (v : Int32) : xput h a (.inr (6, (ofs 6 a S).set 7 (.int v))) = oh 6 h a (uI S 7 v) := by
  have z := op_6_7 h a S v
  rw [show oh 6 h a S = h from H] at z
  exact z
theorem hg_6_8 {h : xH} {a : Nat} {S : gS} (H : isB 6 h a S) {α : Type} (f : Value → Option α) : xgf h a 6 8 f = f (.int (sI S 8)) := by
  have z := og_6_8 h a S f
  rw [show oh 6 h a S = h from H] at z
  exact z
theorem hp_6_8 {h : xH} {a : Nat} {S : gS} (H : isB 6 h a S) (v : Int32) : xput h a (.inr (6, (ofs 6 a S).set 8 (.int v))) = oh 6 h a (uI S 8 v) := by
  have z := op_6_8 h a S v
  rw [show oh 6 h a S = h from H] at z
  exact z
theorem hg_6_9 {h : xH} {a : Nat} {S : gS} (H : isB 6 h a S) {α : Type} (f : Value → Option α) : xgf h a 6 9 f = f (.int (sI S 9)) := by
  have z := og_6_9 h a S f
  rw [show oh 6 h a S = h from H] at z
  exact z
theorem hp_6_9 {h : xH} {a : Nat} {S : gS} (H : isB 6 h a S) (v : Int32) : xput h a (.inr (6, (ofs 6 a S).set 9 (.int v))) = oh 6 h a (uI S 9 v) := by
  have z := op_6_9 h a S v
  rw [show oh 6 h a S = h from H] at z
  exact z
theorem hg_6_10 {h : xH} {a : Nat} {S : gS} (H : isB 6 h a S) {α : Type} (f : Value → Option α) : xgf h a 6 10 f = f (.int (sI S 10)) := by
  have z := og_6_10 h a S f
  rw [show oh 6 h a S = h from H] at z
  exact z
theorem hp_6_10 {h : xH} {a : Nat} {S : gS} (H : isB 6 h a S) (v : Int32) : xput h a (.inr (6, (ofs 6 a S).set 10 (.int v))) = oh 6 h a (uI S 10 v) := by
  have z := op_6_10 h a S v
  rw [show oh 6 h a S = h from H] at z
  exact z
theorem hg_6_11 {h : xH} {a : Nat} {S : gS} (H : isB 6 h a S) {α : Type} (f : Value → Option α) : xgf h a 6 11 f = f (.int (sI S 11)) := by
  have z := og_6_11 h a S f
  rw [show oh 6 h a S = h from H] at z
  exact z
theorem hp_6_11 {h : xH} {a : Nat} {S : gS} (H : isB 6 h a S) (v : Int32) : xput h a (.inr (6, (ofs 6 a S).set 11 (.int v))) = oh 6 h a (uI S 11 v) := by
  have z := op_6_11 h a S v
  rw [show oh 6 h a S = h from H] at z
  exact z
theorem hg_6_12 {h : xH} {a : Nat} {S : gS} (H : isB 6 h a S) {α : Type} (f : Value → Option α) : xgf h a 6 12 f = f (.int (sI S 12)) := by
  have z := og_6_12 h a S f
  rw [show oh 6 h a S = h from H] at z
  exact z
theorem hp_6_12 {h : xH} {a : Nat} {S : gS} (H : isB 6 h a S) (v : Int32) : xput h a (.inr (6, (ofs 6 a S).set 12 (.int v))) = oh 6 h a (uI S 12 v) := by
  have z := op_6_12 h a S v
  rw [show oh 6 h a S = h from H] at z
  exact z
theorem hg_7_0 {h : xH} {a : Nat} {S : gS} (H : isB 7 h a S) {α : Type} (f : Value → Option α) : xgf h a 7 0 f = f (.ref (a + 1)) := by
  have z := og_7_0 h a S f
  rw [show oh 7 h a S = h from H] at z
  exact z
theorem hr_7_0 {h : xH} {a : Nat} {S : gS} (H : isB 7 h a S) {α : Type} (i : Int32) (f : Value → Option α) : xrq h (a + 1) i f = if bIn i 60 = true then f (sQ S 0 i.toNatClampNeg) else none := by
  have z := or_7_0 h a S i f
  rw [show oh 7 h a S = h from H] at z
  exact z
theorem hw_7_0 {h : xH} {a : Nat} {S : gS} (H : isB 7 h a S) {α : Type} (i : Int32) (v : Nat) (f : xH → Option α) : xwq h (a + 1) i (.ref v) f = if bIn i 60 = true then xis h v 9 (f (oh 7 h a (uQ S 0 i.toNatClampNeg (.ref v)))) else none := by
  have z := ow_7_0 h a S i v f
  rw [show oh 7 h a S = h from H] at z
  exact z
theorem hn_7_0 {h : xH} {a : Nat} {S : gS} (H : isB 7 h a S) {α : Type} (i : Int32) (f : xH → Option α) : xwq h (a + 1) i .null f = if bIn i 60 = true then f (oh 7 h a (uQ S 0 i.toNatClampNeg .null)) else none := by
  have z := on_7_0 h a S i f
  rw [show oh 7 h a S = h from H] at z
  exact z
theorem hg_7_1 {h : xH} {a : Nat} {S : gS} (H : isB 7 h a S) {α : Type} (f : Value → Option α) : xgf h a 7 1 f = f (.int (sI S 1)) := by
  have z := og_7_1 h a S f
  rw [show oh 7 h a S = h from H] at z
  exact z
theorem hp_7_1 {h : xH} {a : Nat} {S : gS} (H : isB 7 h a S) (v : Int32) : xput h a (.inr (7, (ofs 7 a S).set 1 (.int v))) = oh 7 h a (uI S 1 v) := by
  have z := op_7_1 h a S v
  rw [show oh 7 h a S = h from H] at z
  exact z
theorem hg_7_2 {h : xH} {a : Nat} {S : gS} (H : isB 7 h a S) {α : Type} (f : Value → Option α) : xgf h a 7 2 f = f (.int (sI S 2)) := by
  have z := og_7_2 h a S f
  rw [show oh 7 h a S = h from H] at z
  exact z
theorem hp_7_2 {h : xH} {a : Nat} {S : gS} (H : isB 7 h a S) (v : Int32) : xput h a (.inr (7, (ofs 7 a S).set 2 (.int v))) = oh 7 h a (uI S 2 v) := by
  have z := op_7_2 h a S v
  rw [show oh 7 h a S = h from H] at z
  exact z
theorem hg_8_0 {h : xH} {a : Nat} {S : gS} (H : isB 8 h a S) {α : Type} (f : Value → Option α) : xgf h a 8 0 f = f (.ref (a + 1)) := by
  have z := og_8_0 h a S f
  rw [show oh 8 h a S = h from H] at z
  exact z
theorem hr_8_0 {h : xH} {a : Nat} {S : gS} (H : isB 8 h a S) {α : Type} (i : Int32) (f : Value → Option α) : xrq h (a + 1) i f = if bIn i 8 = true then f (sQ S 0 i.toNatClampNeg) else none := by
  have z := or_8_0 h a S i f
  rw [show oh 8 h a S = h from H] at z
  exact z
theorem hw_8_0 {h : xH} {a : Nat} {S : gS} (H : isB 8 h a S) {α : Type} (i : Int32) (v : Nat) (f : xH → Option α) : xwq h (a + 1) i (.ref v) f = if bIn i 8 = true then xis h v 2 (f (oh 8 h a (uQ S 0 i.toNatClampNeg (.ref v)))) else none := by
  have z := ow_8_0 h a S i v f
  rw [show oh 8 h a S = h from H] at z
  exact z
theorem hn_8_0 {h : xH} {a : Nat} {S : gS} (H : isB 8 h a S) {α : Type} (i : Int32) (f : xH → Option α) : xwq h (a + 1) i .null f = if bIn i 8 = true then f (oh 8 h a (uQ S 0 i.toNatClampNeg .null)) else none := by
  have z := on_8_0 h a S i f
  rw [show oh 8 h a S = h from H] at z
  exact z
theorem hg_8_1 {h : xH} {a : Nat} {S : gS} (H : isB 8 h a S) {α : Type} (f : Value → Option α) : xgf h a 8 1 f = f (.ref (a + 2)) := by
  have z := og_8_1 h a S f
  rw [show oh 8 h a S = h from H] at z
  exact z
theorem hr_8_1 {h : xH} {a : Nat} {S : gS} (H : isB 8 h a S) {α : Type} (i : Int32) (f : Value → Option α) : xrq h (a + 2) i f = if bIn i 64 = true then f (sQ S 1 i.toNatClampNeg) else none := by
  have z := or_8_1 h a S i f
  rw [show oh 8 h a S = h from H] at z
  exact z
theorem hw_8_1 {h : xH} {a : Nat} {S : gS} (H : isB 8 h a S) {α : Type} (i : Int32) (v : Nat) (f : xH → Option α) : xwq h (a + 2) i (.ref v) f = if bIn i 64 = true then xis h v 10 (f (oh 8 h a (uQ S 1 i.toNatClampNeg (.ref v)))) else none := by
  have z := ow_8_1 h a S i v f
  rw [show oh 8 h a S = h from H] at z
  exact z
theorem hn_8_1 {h : xH} {a : Nat} {S : gS} (H : isB 8 h a S) {α : Type} (i : Int32) (f : xH → Option α) : xwq h (a + 2) i .null f = if bIn i 64 = true then f (oh 8 h a (uQ S 1 i.toNatClampNeg .null)) else none := by
  have z := on_8_1 h a S i f
  rw [show oh 8 h a S = h from H] at z
  exact z
theorem hg_8_2 {h : xH} {a : Nat} {S : gS} (H : isB 8 h a S) {α : Type} (f : Value → Option α) : xgf h a 8 2 f = f (.ref (a + 3)) := by
  have z := og_8_2 h a S f
  rw [show oh 8 h a S = h from H] at z
  exact z
theorem hr_8_2 {h : xH} {a : Nat} {S : gS} (H : isB 8 h a S) {α : Type} (i : Int32) (f : Value → Option α) : xrd h (a + 3) i 3 4 f = if bIn i 700 = true then f (.int (sA S 2 i.toNatClampNeg)) else none := by
  have z := or_8_2 h a S i f
  rw [show oh 8 h a S = h from H] at z
  exact z
theorem hw_8_2 {h : xH} {a : Nat} {S : gS} (H : isB 8 h a S) {α : Type} (i : Int32) (v : Int32) (f : xH → Option α) : xwb h (a + 3) i v f = if bIn i 700 = true then f (oh 8 h a (uA S 2 i.toNatClampNeg v.toInt8.toInt32)) else none := by
  have z := ow_8_2 h a S i v f
  rw [show oh 8 h a S = h from H] at z
  exact z
theorem hg_8_3 {h : xH} {a : Nat} {S : gS} (H : isB 8 h a S) {α : Type} (f : Value → Option α) : xgf h a 8 3 f = f (sR S 3) := by
  have z := og_8_3 h a S f
  rw [show oh 8 h a S = h from H] at z
  exact z
theorem hp_8_3 {h : xH} {a : Nat} {S : gS} (H : isB 8 h a S) (v : Value) : xput h a (.inr (8, (ofs 8 a S).set 3 v)) = oh 8 h a (uR S 3 v) := by
  have z := op_8_3 h a S v
  rw [show oh 8 h a S = h from H] at z
  exact z
theorem hg_8_4 {h : xH} {a : Nat} {S : gS} (H : isB 8 h a S) {α : Type} (f : Value → Option α) : xgf h a 8 4 f = f (sR S 4) := by
  have z := og_8_4 h a S f
  rw [show oh 8 h a S = h from H] at z
  exact z
theorem hp_8_4 {h : xH} {a : Nat} {S : gS} (H : isB 8 h a S) (v : Value) : xput h a (.inr (8, (ofs 8 a S).set 4 v)) = oh 8 h a (uR S 4 v) := by
  have z := op_8_4 h a S v
  rw [show oh 8 h a S = h from H] at z
  exact z
theorem hg_8_5 {h : xH} {a : Nat} {S : gS} (H : isB 8 h a S) {α : Type} (f : Value → Option α) : xgf h a 8 5 f = f (sR S 5) := by
  have z := og_8_5 h a S f
  rw [show oh 8 h a S = h from H] at z
  exact z
theorem hp_8_5 {h : xH} {a : Nat} {S : gS} (H : isB 8 h a S) (v : Value) : xput h a (.inr (8, (ofs 8 a S).set 5 v)) = oh 8 h a (uR S 5 v) := by
  have z := op_8_5 h a S v
  rw [show oh 8 h a S = h from H] at z
  exact z
theorem hg_8_6 {h : xH} {a : Nat} {S : gS} (H : isB 8 h a S) {α : Type} (f : Value → Option α) : xgf h a 8 6 f = f (sR S 6) := by
  have z := og_8_6 h a S f
  rw [show oh 8 h a S = h from H] at z
  exact z
theorem hp_8_6 {h : xH} {a : Nat} {S : gS} (H : isB 8 h a S) (v : Value) : xput h a (.inr (8, (ofs 8 a S).set 6 v)) = oh 8 h a (uR S 6 v) := by
  have z := op_8_6 h a S v
  rw [show oh 8 h a S = h from H] at z
  exact z
theorem hg_8_7 {h : xH} {a : Nat} {S : gS} (H : isB 8 h a S) {α : Type} (f : Value → Option α) : xgf h a 8 7 f = f (sR S 7) := by
  have z := og_8_7 h a S f
  rw [show oh 8 h a S = h from H] at z
  exact z
theorem hp_8_7 {h : xH} {a : Nat} {S : gS} (H : isB 8 h a S) (v : Value) : xput h a (.inr (8, (ofs 8 a S).set 7 v)) = oh 8 h a (uR S 7 v) := by
  have z := op_8_7 h a S v
  rw [show oh 8 h a S = h from H] at z
  exact z
theorem hg_8_8 {h : xH} {a : Nat} {S : gS} (H : isB 8 h a S) {α : Type} (f : Value → Option α) : xgf h a 8 8 f = f (.int (sI S 8)) := by
  have z := og_8_8 h a S f
  rw [show oh 8 h a S = h from H] at z
  exact z
theorem hp_8_8 {h : xH} {a : Nat} {S : gS} (H : isB 8 h a S) (v : Int32) : xput h a (.inr (8, (ofs 8 a S).set 8 (.int v))) = oh 8 h a (uI S 8 v) := by
  have z := op_8_8 h a S v
  rw [show oh 8 h a S = h from H] at z
  exact z
theorem hg_8_9 {h : xH} {a : Nat} {S : gS} (H : isB 8 h a S) {α : Type} (f : Value → Option α) : xgf h a 8 9 f = f (.int (sI S 9)) := by
  have z := og_8_9 h a S f
  rw [show oh 8 h a S = h from H] at z
  exact z
theorem hp_8_9 {h : xH} {a : Nat} {S : gS} (H : isB 8 h a S) (v : Int32) : xput h a (.inr (8, (ofs 8 a S).set 9 (.int v))) = oh 8 h a (uI S 9 v) := by
  have z := op_8_9 h a S v
  rw [show oh 8 h a S = h from H] at z
  exact z
theorem hg_8_10 {h : xH} {a : Nat} {S : gS} (H : isB 8 h a S) {α : Type} (f : Value → Option α) : xgf h a 8 10 f = f (.int (sI S 10)) := by
  have z := og_8_10 h a S f
  rw [show oh 8 h a S = h from H] at z
  exact z
theorem hp_8_10 {h : xH} {a : Nat} {S : gS} (H : isB 8 h a S) (v : Int32) : xput h a (.inr (8, (ofs 8 a S).set 10 (.int v))) = oh 8 h a (uI S 10 v) := by
  have z := op_8_10 h a S v
  rw [show oh 8 h a S = h from H] at z
  exact z
theorem hg_9_0 {h : xH} {a : Nat} {S : gS} (H : isB 9 h a S) {α : Type} (f : Value → Option α) : xgf h a 9 0 f = f (.ref (a + 1)) := by
  have z := og_9_0 h a S f
  rw [show oh 9 h a S = h from H] at z
  exact z
theorem hr_9_0 {h : xH} {a : Nat} {S : gS} (H : isB 9 h a S) {α : Type} (i : Int32) (f : Value → Option α) : xrd h (a + 1) i 0 1 f = if bIn i 8 = true then f (.int (sA S 0 i.toNatClampNeg)) else none := by
  have z := or_9_0 h a S i f
  rw [show oh 9 h a S = h from H] at z
  exact z
theorem hw_9_0 {h : xH} {a : Nat} {S : gS} (H : isB 9 h a S) {α : Type} (i : Int32) (v : Int32) (f : xH → Option α) : xwr h (a + 1) i 0 (.int v) f = if bIn i 8 = true then f (oh 9 h a (uA S 0 i.toNatClampNeg v)) else none := by
  have z := ow_9_0 h a S i v f
  rw [show oh 9 h a S = h from H] at z
  exact z
theorem hg_9_1 {h : xH} {a : Nat} {S : gS} (H : isB 9 h a S) {α : Type} (f : Value → Option α) : xgf h a 9 1 f = f (.ref (a + 2)) := by
  have z := og_9_1 h a S f
  rw [show oh 9 h a S = h from H] at z
  exact z
theorem hr_9_1 {h : xH} {a : Nat} {S : gS} (H : isB 9 h a S) {α : Type} (i : Int32) (f : Value → Option α) : xrd h (a + 2) i 2 2 f = if bIn i 64 = true then f (.long (sL S 1 i.toNatClampNeg)) else none := by
  have z := or_9_1 h a S i f
  rw [show oh 9 h a S = h from H] at z
  exact z
theorem hw_9_1 {h : xH} {a : Nat} {S : gS} (H : isB 9 h a S) {α : Type} (i : Int32) (v : Int64) (f : xH → Option α) : xwr h (a + 2) i 2 (.long v) f = if bIn i 64 = true then f (oh 9 h a (uL S 1 i.toNatClampNeg v)) else none := by
  have z := ow_9_1 h a S i v f
  rw [show oh 9 h a S = h from H] at z
  exact z
theorem hg_9_2 {h : xH} {a : Nat} {S : gS} (H : isB 9 h a S) {α : Type} (f : Value → Option α) : xgf h a 9 2 f = f (.long (sJ S 2)) := by
  have z := og_9_2 h a S f
  rw [show oh 9 h a S = h from H] at z
  exact z
theorem hp_9_2 {h : xH} {a : Nat} {S : gS} (H : isB 9 h a S) (v : Int64) : xput h a (.inr (9, (ofs 9 a S).set 2 (.long v))) = oh 9 h a (uJ S 2 v) := by
  have z := op_9_2 h a S v
  rw [show oh 9 h a S = h from H] at z
  exact z
theorem hg_9_3 {h : xH} {a : Nat} {S : gS} (H : isB 9 h a S) {α : Type} (f : Value → Option α) : xgf h a 9 3 f = f (.long (sJ S 3)) := by
  have z := og_9_3 h a S f
  rw [show oh 9 h a S = h from H] at z
  exact z
theorem hp_9_3 {h : xH} {a : Nat} {S : gS} (H : isB 9 h a S) (v : Int64) : xput h a (.inr (9, (ofs 9 a S).set 3 (.long v))) = oh 9 h a (uJ S 3 v) := by
  have z := op_9_3 h a S v
  rw [show oh 9 h a S = h from H] at z
  exact z
theorem hg_9_4 {h : xH} {a : Nat} {S : gS} (H : isB 9 h a S) {α : Type} (f : Value → Option α) : xgf h a 9 4 f = f (.int (sI S 4)) := by
  have z := og_9_4 h a S f
  rw [show oh 9 h a S = h from H] at z
  exact z
theorem hp_9_4 {h : xH} {a : Nat} {S : gS} (H : isB 9 h a S) (v : Int32) : xput h a (.inr (9, (ofs 9 a S).set 4 (.int v))) = oh 9 h a (uI S 4 v) := by
  have z := op_9_4 h a S v
  rw [show oh 9 h a S = h from H] at z
  exact z
theorem hg_9_5 {h : xH} {a : Nat} {S : gS} (H : isB 9 h a S) {α : Type} (f : Value → Option α) : xgf h a 9 5 f = f (sR S 5) := by
  have z := og_9_5 h a S f
  rw [show oh 9 h a S = h from H] at z
  exact z
theorem hp_9_5 {h : xH} {a : Nat} {S : gS} (H : isB 9 h a S) (v : Value) : xput h a (.inr (9, (ofs 9 a S).set 5 v)) = oh 9 h a (uR S 5 v) := by
  have z := op_9_5 h a S v
  rw [show oh 9 h a S = h from H] at z
  exact z
theorem hg_10_0 {h : xH} {a : Nat} {S : gS} (H : isB 10 h a S) {α : Type} (f : Value → Option α) : xgf h a 10 0 f = f (sR S 0) := by
  have z := og_10_0 h a S f
  rw [show oh 10 h a S = h from H] at z
  exact z
theorem hp_10_0 {h : xH} {a : Nat} {S : gS} (H : isB 10 h a S) (v : Value) : xput h a (.inr (10, (ofs 10 a S).set 0 v)) = oh 10 h a (uR S 0 v) := by
  have z := op_10_0 h a S v
  rw [show oh 10 h a S = h from H] at z
  exact z
theorem hg_10_1 {h : xH} {a : Nat} {S : gS} (H : isB 10 h a S) {α : Type} (f : Value → Option α) : xgf h a 10 1 f = f (sR S 1) := by
  have z := og_10_1 h a S f
  rw [show oh 10 h a S = h from H] at z
  exact z
theorem hp_10_1 {h : xH} {a : Nat} {S : gS} (H : isB 10 h a S) (v : Value) : xput h a (.inr (10, (ofs 10 a S).set 1 v)) = oh 10 h a (uR S 1 v) := by
  have z := op_10_1 h a S v
  rw [show oh 10 h a S = h from H] at z
  exact z
theorem hg_10_2 {h : xH} {a : Nat} {S : gS} (H : isB 10 h a S) {α : Type} (f : Value → Option α) : xgf h a 10 2 f = f (sR S 2) := by
  have z := og_10_2 h a S f
  rw [show oh 10 h a S = h from H] at z
  exact z
theorem hp_10_2 {h : xH} {a : Nat} {S : gS} (H : isB 10 h a S) (v : Value) : xput h a (.inr (10, (ofs 10 a S).set 2 v)) = oh 10 h a (uR S 2 v) := by
  have z := op_10_2 h a S v
  rw [show oh 10 h a S = h from H] at z
  exact z
theorem hg_10_3 {h : xH} {a : Nat} {S : gS} (H : isB 10 h a S) {α : Type} (f : Value → Option α) : xgf h a 10 3 f = f (sR S 3) := by
  have z := og_10_3 h a S f
  rw [show oh 10 h a S = h from H] at z
  exact z
theorem hp_10_3 {h : xH} {a : Nat} {S : gS} (H : isB 10 h a S) (v : Value) : xput h a (.inr (10, (ofs 10 a S).set 3 v)) = oh 10 h a (uR S 3 v) := by
  have z := op_10_3 h a S v
  rw [show oh 10 h a S = h from H] at z
  exact z
theorem hg_10_4 {h : xH} {a : Nat} {S : gS} (H : isB 10 h a S) {α : Type} (f : Value → Option α) : xgf h a 10 4 f = f (.int (sI S 4)) := by
  have z := og_10_4 h a S f
  rw [show oh 10 h a S = h from H] at z
  exact z
theorem hp_10_4 {h : xH} {a : Nat} {S : gS} (H : isB 10 h a S) (v : Int32) : xput h a (.inr (10, (ofs 10 a S).set 4 (.int v))) = oh 10 h a (uI S 4 v) := by
  have z := op_10_4 h a S v
  rw [show oh 10 h a S = h from H] at z
  exact z
theorem hg_11_0 {h : xH} {a : Nat} {S : gS} (H : isB 11 h a S) {α : Type} (f : Value → Option α) : xgf h a 11 0 f = f (.ref (a + 1)) := by
  have z := og_11_0 h a S f
  rw [show oh 11 h a S = h from H] at z
  exact z
theorem hr_11_0 {h : xH} {a : Nat} {S : gS} (H : isB 11 h a S) {α : Type} (i : Int32) (f : Value → Option α) : xrd h (a + 1) i 0 1 f = if bIn i 8 = true then f (.int (sA S 0 i.toNatClampNeg)) else none := by
  have z := or_11_0 h a S i f
  rw [show oh 11 h a S = h from H] at z
  exact z
theorem hw_11_0 {h : xH} {a : Nat} {S : gS} (H : isB 11 h a S) {α : Type} (i : Int32) (v : Int32) (f : xH → Option α) : xwr h (a + 1) i 0 (.int v) f = if bIn i 8 = true then f (oh 11 h a (uA S 0 i.toNatClampNeg v)) else none := by
  have z := ow_11_0 h a S i v f
  rw [show oh 11 h a S = h from H] at z
  exact z
theorem hg_11_1 {h : xH} {a : Nat} {S : gS} (H : isB 11 h a S) {α : Type} (f : Value → Option α) : xgf h a 11 1 f = f (.ref (a + 2)) := by
  have z := og_11_1 h a S f
  rw [show oh 11 h a S = h from H] at z
  exact z
theorem hr_11_1 {h : xH} {a : Nat} {S : gS} (H : isB 11 h a S) {α : Type} (i : Int32) (f : Value → Option α) : xrd h (a + 2) i 2 2 f = if bIn i 48 = true then f (.long (sL S 1 i.toNatClampNeg)) else none := by
  have z := or_11_1 h a S i f
  rw [show oh 11 h a S = h from H] at z
  exact z
theorem hw_11_1 {h : xH} {a : Nat} {S : gS} (H : isB 11 h a S) {α : Type} (i : Int32) (v : Int64) (f : xH → Option α) : xwr h (a + 2) i 2 (.long v) f = if bIn i 48 = true then f (oh 11 h a (uL S 1 i.toNatClampNeg v)) else none := by
  have z := ow_11_1 h a S i v f
  rw [show oh 11 h a S = h from H] at z
  exact z
theorem hg_11_2 {h : xH} {a : Nat} {S : gS} (H : isB 11 h a S) {α : Type} (f : Value → Option α) : xgf h a 11 2 f = f (.ref (a + 3)) := by
  have z := og_11_2 h a S f
  rw [show oh 11 h a S = h from H] at z
  exact z
theorem hr_11_2 {h : xH} {a : Nat} {S : gS} (H : isB 11 h a S) {α : Type} (i : Int32) (f : Value → Option α) : xrd h (a + 3) i 0 1 f = if bIn i 48 = true then f (.int (sA S 2 i.toNatClampNeg)) else none := by
  have z := or_11_2 h a S i f
  rw [show oh 11 h a S = h from H] at z
  exact z
theorem hw_11_2 {h : xH} {a : Nat} {S : gS} (H : isB 11 h a S) {α : Type} (i : Int32) (v : Int32) (f : xH → Option α) : xwr h (a + 3) i 0 (.int v) f = if bIn i 48 = true then f (oh 11 h a (uA S 2 i.toNatClampNeg v)) else none := by
  have z := ow_11_2 h a S i v f
  rw [show oh 11 h a S = h from H] at z
  exact z
theorem hg_11_3 {h : xH} {a : Nat} {S : gS} (H : isB 11 h a S) {α : Type} (f : Value → Option α) : xgf h a 11 3 f = f (.ref (a + 4)) := by
  have z := og_11_3 h a S f
  rw [show oh 11 h a S = h from H] at z
  exact z
theorem hr_11_3 {h : xH} {a : Nat} {S : gS} (H : isB 11 h a S) {α : Type} (i : Int32) (f : Value → Option α) : xrd h (a + 4) i 2 2 f = if bIn i 384 = true then f (.long (sL S 3 i.toNatClampNeg)) else none := by
  have z := or_11_3 h a S i f
  rw [show oh 11 h a S = h from H] at z
  exact z
theorem hw_11_3 {h : xH} {a : Nat} {S : gS} (H : isB 11 h a S) {α : Type} (i : Int32) (v : Int64) (f : xH → Option α) : xwr h (a + 4) i 2 (.long v) f = if bIn i 384 = true then f (oh 11 h a (uL S 3 i.toNatClampNeg v)) else none := by
  have z := ow_11_3 h a S i v f
  rw [show oh 11 h a S = h from H] at z
  exact z
theorem hg_11_4 {h : xH} {a : Nat} {S : gS} (H : isB 11 h a S) {α : Type} (f : Value → Option α) : xgf h a 11 4 f = f (.ref (a + 5)) := by
  have z := og_11_4 h a S f
  rw [show oh 11 h a S = h from H] at z
  exact z
theorem hr_11_4 {h : xH} {a : Nat} {S : gS} (H : isB 11 h a S) {α : Type} (i : Int32) (f : Value → Option α) : xrd h (a + 5) i 0 1 f = if bIn i 384 = true then f (.int (sA S 4 i.toNatClampNeg)) else none := by
  have z := or_11_4 h a S i f
  rw [show oh 11 h a S = h from H] at z
  exact z
theorem hw_11_4 {h : xH} {a : Nat} {S : gS} (H : isB 11 h a S) {α : Type} (i : Int32) (v : Int32) (f : xH → Option α) : xwr h (a + 5) i 0 (.int v) f = if bIn i 384 = true then f (oh 11 h a (uA S 4 i.toNatClampNeg v)) else none := by
  have z := ow_11_4 h a S i v f
  rw [show oh 11 h a S = h from H] at z
  exact z
theorem hg_11_5 {h : xH} {a : Nat} {S : gS} (H : isB 11 h a S) {α : Type} (f : Value → Option α) : xgf h a 11 5 f = f (.ref (a + 6)) := by
  have z := og_11_5 h a S f
  rw [show oh 11 h a S = h from H] at z
  exact z
theorem hr_11_5 {h : xH} {a : Nat} {S : gS} (H : isB 11 h a S) {α : Type} (i : Int32) (f : Value → Option α) : xrd h (a + 6) i 3 4 f = if bIn i 384 = true then f (.int (sA S 5 i.toNatClampNeg)) else none := by
  have z := or_11_5 h a S i f
  rw [show oh 11 h a S = h from H] at z
  exact z
theorem hw_11_5 {h : xH} {a : Nat} {S : gS} (H : isB 11 h a S) {α : Type} (i : Int32) (v : Int32) (f : xH → Option α) : xwb h (a + 6) i v f = if bIn i 384 = true then f (oh 11 h a (uA S 5 i.toNatClampNeg (v &&& 1))) else none := by
  have z := ow_11_5 h a S i v f
  rw [show oh 11 h a S = h from H] at z
  exact z
theorem hg_11_6 {h : xH} {a : Nat} {S : gS} (H : isB 11 h a S) {α : Type} (f : Value → Option α) : xgf h a 11 6 f = f (.int (sI S 6)) := by
  have z := og_11_6 h a S f
  rw [show oh 11 h a S = h from H] at z
  exact z
theorem hp_11_6 {h : xH} {a : Nat} {S : gS} (H : isB 11 h a S) (v : Int32) : xput h a (.inr (11, (ofs 11 a S).set 6 (.int v))) = oh 11 h a (uI S 6 v) := by
  have z := op_11_6 h a S v
  rw [show oh 11 h a S = h from H] at z
  exact z
theorem hg_11_7 {h : xH} {a : Nat} {S : gS} (H : isB 11 h a S) {α : Type} (f : Value → Option α) : xgf h a 11 7 f = f (.ref (a + 7)) := by
  have z := og_11_7 h a S f
  rw [show oh 11 h a S = h from H] at z
  exact z
theorem hr_11_7 {h : xH} {a : Nat} {S : gS} (H : isB 11 h a S) {α : Type} (i : Int32) (f : Value → Option α) : xrd h (a + 7) i 0 1 f = if bIn i 3 = true then f (.int (sA S 7 i.toNatClampNeg)) else none := by
  have z := or_11_7 h a S i f
  rw [show oh 11 h a S = h from H] at z
  exact z
theorem hw_11_7 {h : xH} {a : Nat} {S : gS} (H : isB 11 h a S) {α : Type} (i : Int32) (v : Int32) (f : xH → Option α) : xwr h (a + 7) i 0 (.int v) f = if bIn i 3 = true then f (oh 11 h a (uA S 7 i.toNatClampNeg v)) else none := by
  have z := ow_11_7 h a S i v f
  rw [show oh 11 h a S = h from H] at z
  exact z
theorem hg_11_8 {h : xH} {a : Nat} {S : gS} (H : isB 11 h a S) {α : Type} (f : Value → Option α) : xgf h a 11 8 f = f (.ref (a + 8)) := by
  have z := og_11_8 h a S f
  rw [show oh 11 h a S = h from H] at z
  exact z
theorem hr_11_8 {h : xH} {a : Nat} {S : gS} (H : isB 11 h a S) {α : Type} (i : Int32) (f : Value → Option α) : xrd h (a + 8) i 2 2 f = if bIn i 180 = true then f (.long (sL S 8 i.toNatClampNeg)) else none := by
  have z := or_11_8 h a S i f
  rw [show oh 11 h a S = h from H] at z
  exact z
theorem hw_11_8 {h : xH} {a : Nat} {S : gS} (H : isB 11 h a S) {α : Type} (i : Int32) (v : Int64) (f : xH → Option α) : xwr h (a + 8) i 2 (.long v) f = if bIn i 180 = true then f (oh 11 h a (uL S 8 i.toNatClampNeg v)) else none := by
  have z := ow_11_8 h a S i v f
  rw [show oh 11 h a S = h from H] at z
  exact z
theorem hg_11_9 {h : xH} {a : Nat} {S : gS} (H : isB 11 h a S) {α : Type} (f : Value → Option α) : xgf h a 11 9 f = f (.ref (a + 9)) := by
  have z := og_11_9 h a S f
  rw [show oh 11 h a S = h from H] at z
  exact z
theorem hr_11_9 {h : xH} {a : Nat} {S : gS} (H : isB 11 h a S) {α : Type} (i : Int32) (f : Value → Option α) : xrd h (a + 9) i 0 1 f = if bIn i 180 = true then f (.int (sA S 9 i.toNatClampNeg)) else none := by
  have z := or_11_9 h a S i f
  rw [show oh 11 h a S = h from H] at z
  exact z
theorem hw_11_9 {h : xH} {a : Nat} {S : gS} (H : isB 11 h a S) {α : Type} (i : Int32) (v : Int32) (f : xH → Option α) : xwr h (a + 9) i 0 (.int v) f = if bIn i 180 = true then f (oh 11 h a (uA S 9 i.toNatClampNeg v)) else none := by
  have z := ow_11_9 h a S i v f
  rw [show oh 11 h a S = h from H] at z
  exact z
theorem hg_11_10 {h : xH} {a : Nat} {S : gS} (H : isB 11 h a S) {α : Type} (f : Value → Option α) : xgf h a 11 10 f = f (.ref (a + 10)) := by
  have z := og_11_10 h a S f
  rw [show oh 11 h a S = h from H] at z
  exact z
theorem hr_11_10 {h : xH} {a : Nat} {S : gS} (H : isB 11 h a S) {α : Type} (i : Int32) (f : Value → Option α) : xrd h (a + 10) i 0 1 f = if bIn i 1440 = true then f (.int (sA S 10 i.toNatClampNeg)) else none := by
  have z := or_11_10 h a S i f
  rw [show oh 11 h a S = h from H] at z
  exact z
theorem hw_11_10 {h : xH} {a : Nat} {S : gS} (H : isB 11 h a S) {α : Type} (i : Int32) (v : Int32) (f : xH → Option α) : xwr h (a + 10) i 0 (.int v) f = if bIn i 1440 = true then f (oh 11 h a (uA S 10 i.toNatClampNeg v)) else none := by
  have z := ow_11_10 h a S i v f
  rw [show oh 11 h a S = h from H] at z
  exact z
theorem hg_11_11 {h : xH} {a : Nat} {S : gS} (H : isB 11 h a S) {α : Type} (f : Value → Option α) : xgf h a 11 11 f = f (.ref (a + 11)) := by
  have z := og_11_11 h a S f
  rw [show oh 11 h a S = h from H] at z
  exact z
theorem hr_11_11 {h : xH} {a : Nat} {S : gS} (H : isB 11 h a S) {α : Type} (i : Int32) (f : Value → Option α) : xrd h (a + 11) i 2 2 f = if bIn i 11520 = true then f (.long (sL S 11 i.toNatClampNeg)) else none := by
  have z := or_11_11 h a S i f
  rw [show oh 11 h a S = h from H] at z
  exact z
theorem hw_11_11 {h : xH} {a : Nat} {S : gS} (H : isB 11 h a S) {α : Type} (i : Int32) (v : Int64) (f : xH → Option α) : xwr h (a + 11) i 2 (.long v) f = if bIn i 11520 = true then f (oh 11 h a (uL S 11 i.toNatClampNeg v)) else none := by
  have z := ow_11_11 h a S i v f
  rw [show oh 11 h a S = h from H] at z
  exact z
theorem hg_11_12 {h : xH} {a : Nat} {S : gS} (H : isB 11 h a S) {α : Type} (f : Value → Option α) : xgf h a 11 12 f = f (.ref (a + 12)) := by
  have z := og_11_12 h a S f
  rw [show oh 11 h a S = h from H] at z
  exact z
theorem hr_11_12 {h : xH} {a : Nat} {S : gS} (H : isB 11 h a S) {α : Type} (i : Int32) (f : Value → Option α) : xrd h (a + 12) i 3 4 f = if bIn i 64 = true then f (.int (sA S 12 i.toNatClampNeg)) else none := by
  have z := or_11_12 h a S i f
  rw [show oh 11 h a S = h from H] at z
  exact z
theorem hw_11_12 {h : xH} {a : Nat} {S : gS} (H : isB 11 h a S) {α : Type} (i : Int32) (v : Int32) (f : xH → Option α) : xwb h (a + 12) i v f = if bIn i 64 = true then f (oh 11 h a (uA S 12 i.toNatClampNeg (v &&& 1))) else none := by
  have z := ow_11_12 h a S i v f
  rw [show oh 11 h a S = h from H] at z
  exact z
theorem hg_11_13 {h : xH} {a : Nat} {S : gS} (H : isB 11 h a S) {α : Type} (f : Value → Option α) : xgf h a 11 13 f = f (.ref (a + 13)) := by
  have z := og_11_13 h a S f
  rw [show oh 11 h a S = h from H] at z
  exact z
theorem hr_11_13 {h : xH} {a : Nat} {S : gS} (H : isB 11 h a S) {α : Type} (i : Int32) (f : Value → Option α) : xrd h (a + 13) i 0 1 f = if bIn i 64 = true then f (.int (sA S 13 i.toNatClampNeg)) else none := by
  have z := or_11_13 h a S i f
  rw [show oh 11 h a S = h from H] at z
  exact z
theorem hw_11_13 {h : xH} {a : Nat} {S : gS} (H : isB 11 h a S) {α : Type} (i : Int32) (v : Int32) (f : xH → Option α) : xwr h (a + 13) i 0 (.int v) f = if bIn i 64 = true then f (oh 11 h a (uA S 13 i.toNatClampNeg v)) else none := by
  have z := ow_11_13 h a S i v f
  rw [show oh 11 h a S = h from H] at z
  exact z
theorem hg_11_14 {h : xH} {a : Nat} {S : gS} (H : isB 11 h a S) {α : Type} (f : Value → Option α) : xgf h a 11 14 f = f (.ref (a + 14)) := by
  have z := og_11_14 h a S f
  rw [show oh 11 h a S = h from H] at z
  exact z
theorem hr_11_14 {h : xH} {a : Nat} {S : gS} (H : isB 11 h a S) {α : Type} (i : Int32) (f : Value → Option α) : xrd h (a + 14) i 0 1 f = if bIn i 44800 = true then f (.int (sA S 14 i.toNatClampNeg)) else none := by
  have z := or_11_14 h a S i f
  rw [show oh 11 h a S = h from H] at z
  exact z
theorem hw_11_14 {h : xH} {a : Nat} {S : gS} (H : isB 11 h a S) {α : Type} (i : Int32) (v : Int32) (f : xH → Option α) : xwr h (a + 14) i 0 (.int v) f = if bIn i 44800 = true then f (oh 11 h a (uA S 14 i.toNatClampNeg v)) else none := by
  have z := ow_11_14 h a S i v f
  rw [show oh 11 h a S = h from H] at z
  exact z
theorem hg_11_15 {h : xH} {a : Nat} {S : gS} (H : isB 11 h a S) {α : Type} (f : Value → Option α) : xgf h a 11 15 f = f (.ref (a + 15)) := by
  have z := og_11_15 h a S f
  rw [show oh 11 h a S = h from H] at z
  exact z
theorem hr_11_15 {h : xH} {a : Nat} {S : gS} (H : isB 11 h a S) {α : Type} (i : Int32) (f : Value → Option α) : xrd h (a + 15) i 0 1 f = if bIn i 700 = true then f (.int (sA S 15 i.toNatClampNeg)) else none := by
  have z := or_11_15 h a S i f
  rw [show oh 11 h a S = h from H] at z
  exact z
theorem hw_11_15 {h : xH} {a : Nat} {S : gS} (H : isB 11 h a S) {α : Type} (i : Int32) (v : Int32) (f : xH → Option α) : xwr h (a + 15) i 0 (.int v) f = if bIn i 700 = true then f (oh 11 h a (uA S 15 i.toNatClampNeg v)) else none := by
  have z := ow_11_15 h a S i v f
  rw [show oh 11 h a S = h from H] at z
  exact z
theorem hg_11_16 {h : xH} {a : Nat} {S : gS} (H : isB 11 h a S) {α : Type} (f : Value → Option α) : xgf h a 11 16 f = f (.int (sI S 16)) := by
  have z := og_11_16 h a S f
  rw [show oh 11 h a S = h from H] at z
  exact z
theorem hp_11_16 {h : xH} {a : Nat} {S : gS} (H : isB 11 h a S) (v : Int32) : xput h a (.inr (11, (ofs 11 a S).set 16 (.int v))) = oh 11 h a (uI S 16 v) := by
  have z := op_11_16 h a S v
  rw [show oh 11 h a S = h from H] at z
  exact z
theorem hg_11_17 {h : xH} {a : Nat} {S : gS} (H : isB 11 h a S) {α : Type} (f : Value → Option α) : xgf h a 11 17 f = f (.int (sI S 17)) := by
  have z := og_11_17 h a S f
  rw [show oh 11 h a S = h from H] at z
  exact z
theorem hp_11_17 {h : xH} {a : Nat} {S : gS} (H : isB 11 h a S) (v : Int32) : xput h a (.inr (11, (ofs 11 a S).set 17 (.int v))) = oh 11 h a (uI S 17 v) := by
  have z := op_11_17 h a S v
  rw [show oh 11 h a S = h from H] at z
  exact z
theorem hg_11_18 {h : xH} {a : Nat} {S : gS} (H : isB 11 h a S) {α : Type} (f : Value → Option α) : xgf h a 11 18 f = f (.int (sI S 18)) := by
  have z := og_11_18 h a S f
  rw [show oh 11 h a S = h from H] at z
  exact z
theorem hp_11_18 {h : xH} {a : Nat} {S : gS} (H : isB 11 h a S) (v : Int32) : xput h a (.inr (11, (ofs 11 a S).set 18 (.int v))) = oh 11 h a (uI S 18 v) := by
  have z := op_11_18 h a S v
  rw [show oh 11 h a S = h from H] at z
  exact z
theorem hg_11_19 {h : xH} {a : Nat} {S : gS} (H : isB 11 h a S) {α : Type} (f : Value → Option α) : xgf h a 11 19 f = f (.int (sI S 19)) := by
  have z := og_11_19 h a S f
  rw [show oh 11 h a S = h from H] at z
  exact z
theorem hp_11_19 {h : xH} {a : Nat} {S : gS} (H : isB 11 h a S) (v : Int32) : xput h a (.inr (11, (ofs 11 a S).set 19 (.int v))) = oh 11 h a (uI S 19 v) := by
  have z := op_11_19 h a S v
  rw [show oh 11 h a S = h from H] at z
  exact z
theorem hg_11_20 {h : xH} {a : Nat} {S : gS} (H : isB 11 h a S) {α : Type} (f : Value → Option α) : xgf h a 11 20 f = f (.int (sI S 20)) := by
  have z := og_11_20 h a S f
  rw [show oh 11 h a S = h from H] at z
  exact z
theorem hp_11_20 {h : xH} {a : Nat} {S : gS} (H : isB 11 h a S) (v : Int32) : xput h a (.inr (11, (ofs 11 a S).set 20 (.int v))) = oh 11 h a (uI S 20 v) := by
  have z := op_11_20 h a S v
  rw [show oh 11 h a S = h from H] at z
  exact z
theorem hg_11_21 {h : xH} {a : Nat} {S : gS} (H : isB 11 h a S) {α : Type} (f : Value → Option α) : xgf h a 11 21 f = f (.int (sI S 21)) := by
  have z := og_11_21 h a S f
  rw [show oh 11 h a S = h from H] at z
  exact z
theorem hp_11_21 {h : xH} {a : Nat} {S : gS} (H : isB 11 h a S) (v : Int32) : xput h a (.inr (11, (ofs 11 a S).set 21 (.int v))) = oh 11 h a (uI S 21 v) := by
  have z := op_11_21 h a S v
  rw [show oh 11 h a S = h from H] at z
  exact z
theorem hg_11_22 {h : xH} {a : Nat} {S : gS} (H : isB 11 h a S) {α : Type} (f : Value → Option α) : xgf h a 11 22 f = f (.long (sJ S 22)) := by
  have z := og_11_22 h a S f
  rw [show oh 11 h a S = h from H] at z
  exact z
theorem hp_11_22 {h : xH} {a : Nat} {S : gS} (H : isB 11 h a S) (v : Int64) : xput h a (.inr (11, (ofs 11 a S).set 22 (.long v))) = oh 11 h a (uJ S 22 v) := by
  have z := op_11_22 h a S v
  rw [show oh 11 h a S = h from H] at z
  exact z
theorem hg_11_23 {h : xH} {a : Nat} {S : gS} (H : isB 11 h a S) {α : Type} (f : Value → Option α) : xgf h a 11 23 f = f (.long (sJ S 23)) := by
  have z := og_11_23 h a S f
  rw [show oh 11 h a S = h from H] at z
  exact z
theorem hp_11_23 {h : xH} {a : Nat} {S : gS} (H : isB 11 h a S) (v : Int64) : xput h a (.inr (11, (ofs 11 a S).set 23 (.long v))) = oh 11 h a (uJ S 23 v) := by
  have z := op_11_23 h a S v
  rw [show oh 11 h a S = h from H] at z
  exact z
theorem hg_11_24 {h : xH} {a : Nat} {S : gS} (H : isB 11 h a S) {α : Type} (f : Value → Option α) : xgf h a 11 24 f = f (.int (sI S 24)) := by
  have z := og_11_24 h a S f
  rw [show oh 11 h a S = h from H] at z
  exact z
theorem hp_11_24 {h : xH} {a : Nat} {S : gS} (H : isB 11 h a S) (v : Int32) : xput h a (.inr (11, (ofs 11 a S).set 24 (.int v))) = oh 11 h a (uI S 24 v) := by
  have z := op_11_24 h a S v
  rw [show oh 11 h a S = h from H] at z
  exact z
theorem hg_11_25 {h : xH} {a : Nat} {S : gS} (H : isB 11 h a S) {α : Type} (f : Value → Option α) : xgf h a 11 25 f = f (.int (sI S 25)) := by
  have z := og_11_25 h a S f
  rw [show oh 11 h a S = h from H] at z
  exact z
theorem hp_11_25 {h : xH} {a : Nat} {S : gS} (H : isB 11 h a S) (v : Int32) : xput h a (.inr (11, (ofs 11 a S).set 25 (.int v))) = oh 11 h a (uI S 25 v) := by
  have z := op_11_25 h a S v
  rw [show oh 11 h a S = h from H] at z
  exact z
theorem hg_11_26 {h : xH} {a : Nat} {S : gS} (H : isB 11 h a S) {α : Type} (f : Value → Option α) : xgf h a 11 26 f = f (.int (sI S 26)) := by
  have z := og_11_26 h a S f
  rw [show oh 11 h a S = h from H] at z
  exact z
theorem hp_11_26 {h : xH} {a : Nat} {S : gS} (H : isB 11 h a S) (v : Int32) : xput h a (.inr (11, (ofs 11 a S).set 26 (.int v))) = oh 11 h a (uI S 26 v) := by
  have z := op_11_26 h a S v
  rw [show oh 11 h a S = h from H] at z
  exact z
theorem hg_11_27 {h : xH} {a : Nat} {S : gS} (H : isB 11 h a S) {α : Type} (f : Value → Option α) : xgf h a 11 27 f = f (.int (sI S 27)) := by
  have z := og_11_27 h a S f
  rw [show oh 11 h a S = h from H] at z
  exact z
theorem hp_11_27 {h : xH} {a : Nat} {S : gS} (H : isB 11 h a S) (v : Int32) : xput h a (.inr (11, (ofs 11 a S).set 27 (.int v))) = oh 11 h a (uI S 27 v) := by
  have z := op_11_27 h a S v
  rw [show oh 11 h a S = h from H] at z
  exact z
theorem hg_11_28 {h : xH} {a : Nat} {S : gS} (H : isB 11 h a S) {α : Type} (f : Value → Option α) : xgf h a 11 28 f = f (.ref (a + 16)) := by
  have z := og_11_28 h a S f
  rw [show oh 11 h a S = h from H] at z
  exact z
theorem hr_11_28 {h : xH} {a : Nat} {S : gS} (H : isB 11 h a S) {α : Type} (i : Int32) (f : Value → Option α) : xrd h (a + 16) i 0 1 f = if bIn i 700 = true then f (.int (sA S 28 i.toNatClampNeg)) else none := by
  have z := or_11_28 h a S i f
  rw [show oh 11 h a S = h from H] at z
  exact z
theorem hw_11_28 {h : xH} {a : Nat} {S : gS} (H : isB 11 h a S) {α : Type} (i : Int32) (v : Int32) (f : xH → Option α) : xwr h (a + 16) i 0 (.int v) f = if bIn i 700 = true then f (oh 11 h a (uA S 28 i.toNatClampNeg v)) else none := by
  have z := ow_11_28 h a S i v f
  rw [show oh 11 h a S = h from H] at z
  exact z
theorem hg_11_29 {h : xH} {a : Nat} {S : gS} (H : isB 11 h a S) {α : Type} (f : Value → Option α) : xgf h a 11 29 f = f (.int (sI S 29)) := by
  have z := og_11_29 h a S f
  rw [show oh 11 h a S = h from H] at z
  exact z
theorem hp_11_29 {h : xH} {a : Nat} {S : gS} (H : isB 11 h a S) (v : Int32) : xput h a (.inr (11, (ofs 11 a S).set 29 (.int v))) = oh 11 h a (uI S 29 v) := by
  have z := op_11_29 h a S v
  rw [show oh 11 h a S = h from H] at z
  exact z
theorem hg_11_30 {h : xH} {a : Nat} {S : gS} (H : isB 11 h a S) {α : Type} (f : Value → Option α) : xgf h a 11 30 f = f (.int (sI S 30)) := by
  have z := og_11_30 h a S f
  rw [show oh 11 h a S = h from H] at z
  exact z
theorem hp_11_30 {h : xH} {a : Nat} {S : gS} (H : isB 11 h a S) (v : Int32) : xput h a (.inr (11, (ofs 11 a S).set 30 (.int v))) = oh 11 h a (uI S 30 v) := by
  have z := op_11_30 h a S v
  rw [show oh 11 h a S = h from H] at z
  exact z
theorem hg_11_31 {h : xH} {a : Nat} {S : gS} (H : isB 11 h a S) {α : Type} (f : Value → Option α) : xgf h a 11 31 f = f (.int (sI S 31)) := by
  have z := og_11_31 h a S f
  rw [show oh 11 h a S = h from H] at z
  exact z
theorem hp_11_31 {h : xH} {a : Nat} {S : gS} (H : isB 11 h a S) (v : Int32) : xput h a (.inr (11, (ofs 11 a S).set 31 (.int v))) = oh 11 h a (uI S 31 v) := by
  have z := op_11_31 h a S v
  rw [show oh 11 h a S = h from H] at z
  exact z
theorem hg_11_32 {h : xH} {a : Nat} {S : gS} (H : isB 11 h a S) {α : Type} (f : Value → Option α) : xgf h a 11 32 f = f (.int (sI S 32)) := by
  have z := og_11_32 h a S f
  rw [show oh 11 h a S = h from H] at z
  exact z
theorem hp_11_32 {h : xH} {a : Nat} {S : gS} (H : isB 11 h a S) (v : Int32) : xput h a (.inr (11, (ofs 11 a S).set 32 (.int v))) = oh 11 h a (uI S 32 v) := by
  have z := op_11_32 h a S v
  rw [show oh 11 h a S = h from H] at z
  exact z
theorem hg_11_33 {h : xH} {a : Nat} {S : gS} (H : isB 11 h a S) {α : Type} (f : Value → Option α) : xgf h a 11 33 f = f (.long (sJ S 33)) := by
  have z := og_11_33 h a S f
  rw [show oh 11 h a S = h from H] at z
  exact z
theorem hp_11_33 {h : xH} {a : Nat} {S : gS} (H : isB 11 h a S) (v : Int64) : xput h a (.inr (11, (ofs 11 a S).set 33 (.long v))) = oh 11 h a (uJ S 33 v) := by
  have z := op_11_33 h a S v
  rw [show oh 11 h a S = h from H] at z
  exact z
theorem hg_11_34 {h : xH} {a : Nat} {S : gS} (H : isB 11 h a S) {α : Type} (f : Value → Option α) : xgf h a 11 34 f = f (.int (sI S 34)) := by
  have z := og_11_34 h a S f
  rw [show oh 11 h a S = h from H] at z
  exact z
theorem hp_11_34 {h : xH} {a : Nat} {S : gS} (H : isB 11 h a S) (v : Int32) : xput h a (.inr (11, (ofs 11 a S).set 34 (.int v))) = oh 11 h a (uI S 34 v) := by
  have z := op_11_34 h a S v
  rw [show oh 11 h a S = h from H] at z
  exact z
theorem hg_11_35 {h : xH} {a : Nat} {S : gS} (H : isB 11 h a S) {α : Type} (f : Value → Option α) : xgf h a 11 35 f = f (.int (sI S 35)) := by
  have z := og_11_35 h a S f
  rw [show oh 11 h a S = h from H] at z
  exact z
theorem hp_11_35 {h : xH} {a : Nat} {S : gS} (H : isB 11 h a S) (v : Int32) : xput h a (.inr (11, (ofs 11 a S).set 35 (.int v))) = oh 11 h a (uI S 35 v) := by
  have z := op_11_35 h a S v
  rw [show oh 11 h a S = h from H] at z
  exact z
theorem hg_11_36 {h : xH} {a : Nat} {S : gS} (H : isB 11 h a S) {α : Type} (f : Value → Option α) : xgf h a 11 36 f = f (.ref (a + 17)) := by
  have z := og_11_36 h a S f
  rw [show oh 11 h a S = h from H] at z
  exact z
theorem hr_11_36 {h : xH} {a : Nat} {S : gS} (H : isB 11 h a S) {α : Type} (i : Int32) (f : Value → Option α) : xrd h (a + 17) i 3 4 f = if bIn i 700 = true then f (.int (sA S 36 i.toNatClampNeg)) else none := by
  have z := or_11_36 h a S i f
  rw [show oh 11 h a S = h from H] at z
  exact z
theorem hw_11_36 {h : xH} {a : Nat} {S : gS} (H : isB 11 h a S) {α : Type} (i : Int32) (v : Int32) (f : xH → Option α) : xwb h (a + 17) i v f = if bIn i 700 = true then f (oh 11 h a (uA S 36 i.toNatClampNeg (v &&& 1))) else none := by
  have z := ow_11_36 h a S i v f
  rw [show oh 11 h a S = h from H] at z
  exact z
theorem hg_11_37 {h : xH} {a : Nat} {S : gS} (H : isB 11 h a S) {α : Type} (f : Value → Option α) : xgf h a 11 37 f = f (.ref (a + 18)) := by
  have z := og_11_37 h a S f
  rw [show oh 11 h a S = h from H] at z
  exact z
theorem hr_11_37 {h : xH} {a : Nat} {S : gS} (H : isB 11 h a S) {α : Type} (i : Int32) (f : Value → Option α) : xrd h (a + 18) i 2 2 f = if bIn i 700 = true then f (.long (sL S 37 i.toNatClampNeg)) else none := by
  have z := or_11_37 h a S i f
  rw [show oh 11 h a S = h from H] at z
  exact z
theorem hw_11_37 {h : xH} {a : Nat} {S : gS} (H : isB 11 h a S) {α : Type} (i : Int32) (v : Int64) (f : xH → Option α) : xwr h (a + 18) i 2 (.long v) f = if bIn i 700 = true then f (oh 11 h a (uL S 37 i.toNatClampNeg v)) else none := by
  have z := ow_11_37 h a S i v f
  rw [show oh 11 h a S = h from H] at z
  exact z
theorem hg_11_38 {h : xH} {a : Nat} {S : gS} (H : isB 11 h a S) {α : Type} (f : Value → Option α) : xgf h a 11 38 f = f (.ref (a + 19)) := by
  have z := og_11_38 h a S f
  rw [show oh 11 h a S = h from H] at z
  exact z
theorem hr_11_38 {h : xH} {a : Nat} {S : gS} (H : isB 11 h a S) {α : Type} (i : Int32) (f : Value → Option α) : xrd h (a + 19) i 0 1 f = if bIn i 700 = true then f (.int (sA S 38 i.toNatClampNeg)) else none := by
  have z := or_11_38 h a S i f
  rw [show oh 11 h a S = h from H] at z
  exact z
theorem hw_11_38 {h : xH} {a : Nat} {S : gS} (H : isB 11 h a S) {α : Type} (i : Int32) (v : Int32) (f : xH → Option α) : xwr h (a + 19) i 0 (.int v) f = if bIn i 700 = true then f (oh 11 h a (uA S 38 i.toNatClampNeg v)) else none := by
  have z := ow_11_38 h a S i v f
  rw [show oh 11 h a S = h from H] at z
  exact z
theorem hg_11_39 {h : xH} {a : Nat} {S : gS} (H : isB 11 h a S) {α : Type} (f : Value → Option α) : xgf h a 11 39 f = f (.ref (a + 20)) := by
  have z := og_11_39 h a S f
  rw [show oh 11 h a S = h from H] at z
  exact z
theorem hr_11_39 {h : xH} {a : Nat} {S : gS} (H : isB 11 h a S) {α : Type} (i : Int32) (f : Value → Option α) : xrd h (a + 20) i 2 2 f = if bIn i 700 = true then f (.long (sL S 39 i.toNatClampNeg)) else none := by
  have z := or_11_39 h a S i f
  rw [show oh 11 h a S = h from H] at z
  exact z
theorem hw_11_39 {h : xH} {a : Nat} {S : gS} (H : isB 11 h a S) {α : Type} (i : Int32) (v : Int64) (f : xH → Option α) : xwr h (a + 20) i 2 (.long v) f = if bIn i 700 = true then f (oh 11 h a (uL S 39 i.toNatClampNeg v)) else none := by
  have z := ow_11_39 h a S i v f
  rw [show oh 11 h a S = h from H] at z
  exact z
theorem hg_11_40 {h : xH} {a : Nat} {S : gS} (H : isB 11 h a S) {α : Type} (f : Value → Option α) : xgf h a 11 40 f = f (.ref (a + 21)) := by
  have z := og_11_40 h a S f
  rw [show oh 11 h a S = h from H] at z
  exact z
theorem hr_11_40 {h : xH} {a : Nat} {S : gS} (H : isB 11 h a S) {α : Type} (i : Int32) (f : Value → Option α) : xrd h (a + 21) i 0 1 f = if bIn i 700 = true then f (.int (sA S 40 i.toNatClampNeg)) else none := by
  have z := or_11_40 h a S i f
  rw [show oh 11 h a S = h from H] at z
  exact z
theorem hw_11_40 {h : xH} {a : Nat} {S : gS} (H : isB 11 h a S) {α : Type} (i : Int32) (v : Int32) (f : xH → Option α) : xwr h (a + 21) i 0 (.int v) f = if bIn i 700 = true then f (oh 11 h a (uA S 40 i.toNatClampNeg v)) else none := by
  have z := ow_11_40 h a S i v f
  rw [show oh 11 h a S = h from H] at z
  exact z
theorem hg_11_41 {h : xH} {a : Nat} {S : gS} (H : isB 11 h a S) {α : Type} (f : Value → Option α) : xgf h a 11 41 f = f (.ref (a + 22)) := by
  have z := og_11_41 h a S f
  rw [show oh 11 h a S = h from H] at z
  exact z
theorem hr_11_41 {h : xH} {a : Nat} {S : gS} (H : isB 11 h a S) {α : Type} (i : Int32) (f : Value → Option α) : xrd h (a + 22) i 0 1 f = if bIn i 700 = true then f (.int (sA S 41 i.toNatClampNeg)) else none := by
  have z := or_11_41 h a S i f
  rw [show oh 11 h a S = h from H] at z
  exact z
theorem hw_11_41 {h : xH} {a : Nat} {S : gS} (H : isB 11 h a S) {α : Type} (i : Int32) (v : Int32) (f : xH → Option α) : xwr h (a + 22) i 0 (.int v) f = if bIn i 700 = true then f (oh 11 h a (uA S 41 i.toNatClampNeg v)) else none := by
  have z := ow_11_41 h a S i v f
  rw [show oh 11 h a S = h from H] at z
  exact z
theorem hg_11_42 {h : xH} {a : Nat} {S : gS} (H : isB 11 h a S) {α : Type} (f : Value → Option α) : xgf h a 11 42 f = f (.int (sI S 42)) := by
  have z := og_11_42 h a S f
  rw [show oh 11 h a S = h from H] at z
  exact z
theorem hp_11_42 {h : xH} {a : Nat} {S : gS} (H : isB 11 h a S) (v : Int32) : xput h a (.inr (11, (ofs 11 a S).set 42 (.int v))) = oh 11 h a (uI S 42 v) := by
  have z := op_11_42 h a S v
  rw [show oh 11 h a S = h from H] at z
  exact z
theorem hg_11_43 {h : xH} {a : Nat} {S : gS} (H : isB 11 h a S) {α : Type} (f : Value → Option α) : xgf h a 11 43 f = f (.ref (a + 23)) := by
  have z := og_11_43 h a S f
  rw [show oh 11 h a S = h from H] at z
  exact z
theorem hr_11_43 {h : xH} {a : Nat} {S : gS} (H : isB 11 h a S) {α : Type} (i : Int32) (f : Value → Option α) : xrd h (a + 23) i 0 1 f = if bIn i 700 = true then f (.int (sA S 43 i.toNatClampNeg)) else none := by
  have z := or_11_43 h a S i f
  rw [show oh 11 h a S = h from H] at z
  exact z
theorem hw_11_43 {h : xH} {a : Nat} {S : gS} (H : isB 11 h a S) {α : Type} (i : Int32) (v : Int32) (f : xH → Option α) : xwr h (a + 23) i 0 (.int v) f = if bIn i 700 = true then f (oh 11 h a (uA S 43 i.toNatClampNeg v)) else none := by
  have z := ow_11_43 h a S i v f
  rw [show oh 11 h a S = h from H] at z
  exact z
theorem hg_11_44 {h : xH} {a : Nat} {S : gS} (H : isB 11 h a S) {α : Type} (f : Value → Option α) : xgf h a 11 44 f = f (.ref (a + 24)) := by
  have z := og_11_44 h a S f
  rw [show oh 11 h a S = h from H] at z
  exact z
theorem hr_11_44 {h : xH} {a : Nat} {S : gS} (H : isB 11 h a S) {α : Type} (i : Int32) (f : Value → Option α) : xrd h (a + 24) i 2 2 f = if bIn i 700 = true then f (.long (sL S 44 i.toNatClampNeg)) else none := by
  have z := or_11_44 h a S i f
  rw [show oh 11 h a S = h from H] at z
  exact z
theorem hw_11_44 {h : xH} {a : Nat} {S : gS} (H : isB 11 h a S) {α : Type} (i : Int32) (v : Int64) (f : xH → Option α) : xwr h (a + 24) i 2 (.long v) f = if bIn i 700 = true then f (oh 11 h a (uL S 44 i.toNatClampNeg v)) else none := by
  have z := ow_11_44 h a S i v f
  rw [show oh 11 h a S = h from H] at z
  exact z
theorem hg_11_45 {h : xH} {a : Nat} {S : gS} (H : isB 11 h a S) {α : Type} (f : Value → Option α) : xgf h a 11 45 f = f (.ref (a + 25)) := by
  have z := og_11_45 h a S f
  rw [show oh 11 h a S = h from H] at z
  exact z
theorem hr_11_45 {h : xH} {a : Nat} {S : gS} (H : isB 11 h a S) {α : Type} (i : Int32) (f : Value → Option α) : xrd h (a + 25) i 0 1 f = if bIn i 700 = true then f (.int (sA S 45 i.toNatClampNeg)) else none := by
  have z := or_11_45 h a S i f
  rw [show oh 11 h a S = h from H] at z
  exact z
theorem hw_11_45 {h : xH} {a : Nat} {S : gS} (H : isB 11 h a S) {α : Type} (i : Int32) (v : Int32) (f : xH → Option α) : xwr h (a + 25) i 0 (.int v) f = if bIn i 700 = true then f (oh 11 h a (uA S 45 i.toNatClampNeg v)) else none := by
  have z := ow_11_45 h a S i v f
  rw [show oh 11 h a S = h from H] at z
  exact z
theorem hg_11_46 {h : xH} {a : Nat} {S : gS} (H : isB 11 h a S) {α : Type} (f : Value → Option α) : xgf h a 11 46 f = f (.ref (a + 26)) := by
  have z := og_11_46 h a S f
  rw [show oh 11 h a S = h from H] at z
  exact z
theorem hr_11_46 {h : xH} {a : Nat} {S : gS} (H : isB 11 h a S) {α : Type} (i : Int32) (f : Value → Option α) : xrd h (a + 26) i 0 1 f = if bIn i 700 = true then f (.int (sA S 46 i.toNatClampNeg)) else none := by
  have z := or_11_46 h a S i f
  rw [show oh 11 h a S = h from H] at z
  exact z
theorem hw_11_46 {h : xH} {a : Nat} {S : gS} (H : isB 11 h a S) {α : Type} (i : Int32) (v : Int32) (f : xH → Option α) : xwr h (a + 26) i 0 (.int v) f = if bIn i 700 = true then f (oh 11 h a (uA S 46 i.toNatClampNeg v)) else none := by
  have z := ow_11_46 h a S i v f
  rw [show oh 11 h a S = h from H] at z
  exact z
theorem hg_11_47 {h : xH} {a : Nat} {S : gS} (H : isB 11 h a S) {α : Type} (f : Value → Option α) : xgf h a 11 47 f = f (.ref (a + 27)) := by
  have z := og_11_47 h a S f
  rw [show oh 11 h a S = h from H] at z
  exact z
theorem hr_11_47 {h : xH} {a : Nat} {S : gS} (H : isB 11 h a S) {α : Type} (i : Int32) (f : Value → Option α) : xrd h (a + 27) i 3 4 f = if bIn i 700 = true then f (.int (sA S 47 i.toNatClampNeg)) else none := by
  have z := or_11_47 h a S i f
  rw [show oh 11 h a S = h from H] at z
  exact z
theorem hw_11_47 {h : xH} {a : Nat} {S : gS} (H : isB 11 h a S) {α : Type} (i : Int32) (v : Int32) (f : xH → Option α) : xwb h (a + 27) i v f = if bIn i 700 = true then f (oh 11 h a (uA S 47 i.toNatClampNeg (v &&& 1))) else none := by
  have z := ow_11_47 h a S i v f
  rw [show oh 11 h a S = h from H] at z
  exact z
theorem hg_11_48 {h : xH} {a : Nat} {S : gS} (H : isB 11 h a S) {α : Type} (f : Value → Option α) : xgf h a 11 48 f = f (.ref (a + 28)) := by
  have z := og_11_48 h a S f
  rw [show oh 11 h a S = h from H] at z
  exact z
theorem hr_11_48 {h : xH} {a : Nat} {S : gS} (H : isB 11 h a S) {α : Type} (i : Int32) (f : Value → Option α) : xrd h (a + 28) i 0 1 f = if bIn i 700 = true then f (.int (sA S 48 i.toNatClampNeg)) else none := by
  have z := or_11_48 h a S i f
  rw [show oh 11 h a S = h from H] at z
  exact z
theorem hw_11_48 {h : xH} {a : Nat} {S : gS} (H : isB 11 h a S) {α : Type} (i : Int32) (v : Int32) (f : xH → Option α) : xwr h (a + 28) i 0 (.int v) f = if bIn i 700 = true then f (oh 11 h a (uA S 48 i.toNatClampNeg v)) else none := by
  have z := ow_11_48 h a S i v f
  rw [show oh 11 h a S = h from H] at z
  exact z
theorem hg_11_49 {h : xH} {a : Nat} {S : gS} (H : isB 11 h a S) {α : Type} (f : Value → Option α) : xgf h a 11 49 f = f (.int (sI S 49)) := by
  have z := og_11_49 h a S f
  rw [show oh 11 h a S = h from H] at z
  exact z
theorem hp_11_49 {h : xH} {a : Nat} {S : gS} (H : isB 11 h a S) (v : Int32) : xput h a (.inr (11, (ofs 11 a S).set 49 (.int v))) = oh 11 h a (uI S 49 v) := by
  have z := op_11_49 h a S v
  rw [show oh 11 h a S = h from H] at z
  exact z
theorem hg_11_50 {h : xH} {a : Nat} {S : gS} (H : isB 11 h a S) {α : Type} (f : Value → Option α) : xgf h a 11 50 f = f (.ref (a + 29)) := by
  have z := og_11_50 h a S f
  rw [show oh 11 h a S = h from H] at z
  exact z
theorem hr_11_50 {h : xH} {a : Nat} {S : gS} (H : isB 11 h a S) {α : Type} (i : Int32) (f : Value → Option α) : xrd h (a + 29) i 0 1 f = if bIn i 1400 = true then f (.int (sA S 50 i.toNatClampNeg)) else none := by
  have z := or_11_50 h a S i f
  rw [show oh 11 h a S = h from H] at z
  exact z
theorem hw_11_50 {h : xH} {a : Nat} {S : gS} (H : isB 11 h a S) {α : Type} (i : Int32) (v : Int32) (f : xH → Option α) : xwr h (a + 29) i 0 (.int v) f = if bIn i 1400 = true then f (oh 11 h a (uA S 50 i.toNatClampNeg v)) else none := by
  have z := ow_11_50 h a S i v f
  rw [show oh 11 h a S = h from H] at z
  exact z
theorem hg_11_51 {h : xH} {a : Nat} {S : gS} (H : isB 11 h a S) {α : Type} (f : Value → Option α) : xgf h a 11 51 f = f (.ref (a + 30)) := by
  have z := og_11_51 h a S f
  rw [show oh 11 h a S = h from H] at z
  exact z
theorem hr_11_51 {h : xH} {a : Nat} {S : gS} (H : isB 11 h a S) {α : Type} (i : Int32) (f : Value → Option α) : xrd h (a + 30) i 2 2 f = if bIn i 1400 = true then f (.long (sL S 51 i.toNatClampNeg)) else none := by
  have z := or_11_51 h a S i f
  rw [show oh 11 h a S = h from H] at z
  exact z
theorem hw_11_51 {h : xH} {a : Nat} {S : gS} (H : isB 11 h a S) {α : Type} (i : Int32) (v : Int64) (f : xH → Option α) : xwr h (a + 30) i 2 (.long v) f = if bIn i 1400 = true then f (oh 11 h a (uL S 51 i.toNatClampNeg v)) else none := by
  have z := ow_11_51 h a S i v f
  rw [show oh 11 h a S = h from H] at z
  exact z
theorem hg_11_52 {h : xH} {a : Nat} {S : gS} (H : isB 11 h a S) {α : Type} (f : Value → Option α) : xgf h a 11 52 f = f (.ref (a + 31)) := by
  have z := og_11_52 h a S f
  rw [show oh 11 h a S = h from H] at z
  exact z
theorem hr_11_52 {h : xH} {a : Nat} {S : gS} (H : isB 11 h a S) {α : Type} (i : Int32) (f : Value → Option α) : xrd h (a + 31) i 0 1 f = if bIn i 1400 = true then f (.int (sA S 52 i.toNatClampNeg)) else none := by
  have z := or_11_52 h a S i f
  rw [show oh 11 h a S = h from H] at z
  exact z
theorem hw_11_52 {h : xH} {a : Nat} {S : gS} (H : isB 11 h a S) {α : Type} (i : Int32) (v : Int32) (f : xH → Option α) : xwr h (a + 31) i 0 (.int v) f = if bIn i 1400 = true then f (oh 11 h a (uA S 52 i.toNatClampNeg v)) else none := by
  have z := ow_11_52 h a S i v f
  rw [show oh 11 h a S = h from H] at z
  exact z
theorem hg_11_53 {h : xH} {a : Nat} {S : gS} (H : isB 11 h a S) {α : Type} (f : Value → Option α) : xgf h a 11 53 f = f (.ref (a + 32)) := by
  have z := og_11_53 h a S f
  rw [show oh 11 h a S = h from H] at z
  exact z
theorem hr_11_53 {h : xH} {a : Nat} {S : gS} (H : isB 11 h a S) {α : Type} (i : Int32) (f : Value → Option α) : xrd h (a + 32) i 0 1 f = if bIn i 700 = true then f (.int (sA S 53 i.toNatClampNeg)) else none := by
  have z := or_11_53 h a S i f
  rw [show oh 11 h a S = h from H] at z
  exact z
theorem hw_11_53 {h : xH} {a : Nat} {S : gS} (H : isB 11 h a S) {α : Type} (i : Int32) (v : Int32) (f : xH → Option α) : xwr h (a + 32) i 0 (.int v) f = if bIn i 700 = true then f (oh 11 h a (uA S 53 i.toNatClampNeg v)) else none := by
  have z := ow_11_53 h a S i v f
  rw [show oh 11 h a S = h from H] at z
  exact z
theorem hg_11_54 {h : xH} {a : Nat} {S : gS} (H : isB 11 h a S) {α : Type} (f : Value → Option α) : xgf h a 11 54 f = f (.ref (a + 33)) := by
  have z := og_11_54 h a S f
  rw [show oh 11 h a S = h from H] at z
  exact z
theorem hr_11_54 {h : xH} {a : Nat} {S : gS} (H : isB 11 h a S) {α : Type} (i : Int32) (f : Value → Option α) : xrd h (a + 33) i 2 2 f = if bIn i 700 = true then f (.long (sL S 54 i.toNatClampNeg)) else none := by
  have z := or_11_54 h a S i f
  rw [show oh 11 h a S = h from H] at z
  exact z
theorem hw_11_54 {h : xH} {a : Nat} {S : gS} (H : isB 11 h a S) {α : Type} (i : Int32) (v : Int64) (f : xH → Option α) : xwr h (a + 33) i 2 (.long v) f = if bIn i 700 = true then f (oh 11 h a (uL S 54 i.toNatClampNeg v)) else none := by
  have z := ow_11_54 h a S i v f
  rw [show oh 11 h a S = h from H] at z
  exact z
theorem hg_11_55 {h : xH} {a : Nat} {S : gS} (H : isB 11 h a S) {α : Type} (f : Value → Option α) : xgf h a 11 55 f = f (.ref (a + 34)) := by
  have z := og_11_55 h a S f
  rw [show oh 11 h a S = h from H] at z
  exact z
theorem hr_11_55 {h : xH} {a : Nat} {S : gS} (H : isB 11 h a S) {α : Type} (i : Int32) (f : Value → Option α) : xrd h (a + 34) i 0 1 f = if bIn i 700 = true then f (.int (sA S 55 i.toNatClampNeg)) else none := by
  have z := or_11_55 h a S i f
  rw [show oh 11 h a S = h from H] at z
  exact z
theorem hw_11_55 {h : xH} {a : Nat} {S : gS} (H : isB 11 h a S) {α : Type} (i : Int32) (v : Int32) (f : xH → Option α) : xwr h (a + 34) i 0 (.int v) f = if bIn i 700 = true then f (oh 11 h a (uA S 55 i.toNatClampNeg v)) else none := by
  have z := ow_11_55 h a S i v f
  rw [show oh 11 h a S = h from H] at z
  exact z
theorem hg_11_56 {h : xH} {a : Nat} {S : gS} (H : isB 11 h a S) {α : Type} (f : Value → Option α) : xgf h a 11 56 f = f (.int (sI S 56)) := by
  have z := og_11_56 h a S f
  rw [show oh 11 h a S = h from H] at z
  exact z
theorem hp_11_56 {h : xH} {a : Nat} {S : gS} (H : isB 11 h a S) (v : Int32) : xput h a (.inr (11, (ofs 11 a S).set 56 (.int v))) = oh 11 h a (uI S 56 v) := by
  have z := op_11_56 h a S v
  rw [show oh 11 h a S = h from H] at z
  exact z
theorem hg_11_57 {h : xH} {a : Nat} {S : gS} (H : isB 11 h a S) {α : Type} (f : Value → Option α) : xgf h a 11 57 f = f (.int (sI S 57)) := by
  have z := og_11_57 h a S f
  rw [show oh 11 h a S = h from H] at z
  exact z
theorem hp_11_57 {h : xH} {a : Nat} {S : gS} (H : isB 11 h a S) (v : Int32) : xput h a (.inr (11, (ofs 11 a S).set 57 (.int v))) = oh 11 h a (uI S 57 v) := by
  have z := op_11_57 h a S v
  rw [show oh 11 h a S = h from H] at z
  exact z
theorem hg_11_58 {h : xH} {a : Nat} {S : gS} (H : isB 11 h a S) {α : Type} (f : Value → Option α) : xgf h a 11 58 f = f (.int (sI S 58)) := by
  have z := og_11_58 h a S f
  rw [show oh 11 h a S = h from H] at z
  exact z
theorem hp_11_58 {h : xH} {a : Nat} {S : gS} (H : isB 11 h a S) (v : Int32) : xput h a (.inr (11, (ofs 11 a S).set 58 (.int v))) = oh 11 h a (uI S 58 v) := by
  have z := op_11_58 h a S v
  rw [show oh 11 h a S = h from H] at z
  exact z
theorem hg_11_59 {h : xH} {a : Nat} {S : gS} (H : isB 11 h a S) {α : Type} (f : Value → Option α) : xgf h a 11 59 f = f (.ref (a + 35)) := by
  have z := og_11_59 h a S f
  rw [show oh 11 h a S = h from H] at z
  exact z
theorem hr_11_59 {h : xH} {a : Nat} {S : gS} (H : isB 11 h a S) {α : Type} (i : Int32) (f : Value → Option α) : xrd h (a + 35) i 2 2 f = if bIn i 60 = true then f (.long (sL S 59 i.toNatClampNeg)) else none := by
  have z := or_11_59 h a S i f
  rw [show oh 11 h a S = h from H] at z
  exact z
theorem hw_11_59 {h : xH} {a : Nat} {S : gS} (H : isB 11 h a S) {α : Type} (i : Int32) (v : Int64) (f : xH → Option α) : xwr h (a + 35) i 2 (.long v) f = if bIn i 60 = true then f (oh 11 h a (uL S 59 i.toNatClampNeg v)) else none := by
  have z := ow_11_59 h a S i v f
  rw [show oh 11 h a S = h from H] at z
  exact z
theorem hg_11_60 {h : xH} {a : Nat} {S : gS} (H : isB 11 h a S) {α : Type} (f : Value → Option α) : xgf h a 11 60 f = f (.int (sI S 60)) := by
  have z := og_11_60 h a S f
  rw [show oh 11 h a S = h from H] at z
  exact z
theorem hp_11_60 {h : xH} {a : Nat} {S : gS} (H : isB 11 h a S) (v : Int32) : xput h a (.inr (11, (ofs 11 a S).set 60 (.int v))) = oh 11 h a (uI S 60 v) := by
  have z := op_11_60 h a S v
  rw [show oh 11 h a S = h from H] at z
  exact z
theorem hg_11_61 {h : xH} {a : Nat} {S : gS} (H : isB 11 h a S) {α : Type} (f : Value → Option α) : xgf h a 11 61 f = f (.int (sI S 61)) := by
  have z := og_11_61 h a S f
  rw [show oh 11 h a S = h from H] at z
  exact z
theorem hp_11_61 {h : xH} {a : Nat} {S : gS} (H : isB 11 h a S) (v : Int32) : xput h a (.inr (11, (ofs 11 a S).set 61 (.int v))) = oh 11 h a (uI S 61 v) := by
  have z := op_11_61 h a S v
  rw [show oh 11 h a S = h from H] at z
  exact z
theorem hg_11_62 {h : xH} {a : Nat} {S : gS} (H : isB 11 h a S) {α : Type} (f : Value → Option α) : xgf h a 11 62 f = f (.int (sI S 62)) := by
  have z := og_11_62 h a S f
  rw [show oh 11 h a S = h from H] at z
  exact z
theorem hp_11_62 {h : xH} {a : Nat} {S : gS} (H : isB 11 h a S) (v : Int32) : xput h a (.inr (11, (ofs 11 a S).set 62 (.int v))) = oh 11 h a (uI S 62 v) := by
  have z := op_11_62 h a S v
  rw [show oh 11 h a S = h from H] at z
  exact z
theorem hg_11_63 {h : xH} {a : Nat} {S : gS} (H : isB 11 h a S) {α : Type} (f : Value → Option α) : xgf h a 11 63 f = f (.int (sI S 63)) := by
  have z := og_11_63 h a S f
  rw [show oh 11 h a S = h from H] at z
  exact z
theorem hp_11_63 {h : xH} {a : Nat} {S : gS} (H : isB 11 h a S) (v : Int32) : xput h a (.inr (11, (ofs 11 a S).set 63 (.int v))) = oh 11 h a (uI S 63 v) := by
  have z := op_11_63 h a S v
  rw [show oh 11 h a S = h from H] at z
  exact z
theorem hg_11_64 {h : xH} {a : Nat} {S : gS} (H : isB 11 h a S) {α : Type} (f : Value → Option α) : xgf h a 11 64 f = f (.ref (a + 36)) := by
  have z := og_11_64 h a S f
  rw [show oh 11 h a S = h from H] at z
  exact z
theorem hr_11_64 {h : xH} {a : Nat} {S : gS} (H : isB 11 h a S) {α : Type} (i : Int32) (f : Value → Option α) : xrd h (a + 36) i 0 1 f = if bIn i 180 = true then f (.int (sA S 64 i.toNatClampNeg)) else none := by
  have z := or_11_64 h a S i f
  rw [show oh 11 h a S = h from H] at z
  exact z
theorem hw_11_64 {h : xH} {a : Nat} {S : gS} (H : isB 11 h a S) {α : Type} (i : Int32) (v : Int32) (f : xH → Option α) : xwr h (a + 36) i 0 (.int v) f = if bIn i 180 = true then f (oh 11 h a (uA S 64 i.toNatClampNeg v)) else none := by
  have z := ow_11_64 h a S i v f
  rw [show oh 11 h a S = h from H] at z
  exact z
