/-! A BLOCK: an object and the arrays that were made with it, as typed functions by the numbers of its fields: ints, longs, ints of arrays, longs of arrays, references, references of arrays. -/
abbrev gS : Type := (Nat → Int32) × (Nat → Int64) × (Nat → Nat → Int32) × (Nat → Nat → Int64) × (Nat → Value) × (Nat → Nat → Value)
def sI (S : gS) : Nat → Int32 := S.1
def sJ (S : gS) : Nat → Int64 := S.2.1
def sA (S : gS) : Nat → Nat → Int32 := S.2.2.1
def sL (S : gS) : Nat → Nat → Int64 := S.2.2.2.1
def sR (S : gS) : Nat → Value := S.2.2.2.2.1
def sQ (S : gS) : Nat → Nat → Value := S.2.2.2.2.2
def uI (S : gS) (k : Nat) (v : Int32) : gS := (va_up S.1 k v, S.2.1, S.2.2.1, S.2.2.2.1, S.2.2.2.2.1, S.2.2.2.2.2)
def uJ (S : gS) (k : Nat) (v : Int64) : gS := (S.1, va_up S.2.1 k v, S.2.2.1, S.2.2.2.1, S.2.2.2.2.1, S.2.2.2.2.2)
def uA (S : gS) (k i : Nat) (v : Int32) : gS := (S.1, S.2.1, va_up S.2.2.1 k (va_up (S.2.2.1 k) i v), S.2.2.2.1, S.2.2.2.2.1, S.2.2.2.2.2)
def uL (S : gS) (k i : Nat) (v : Int64) : gS := (S.1, S.2.1, S.2.2.1, va_up S.2.2.2.1 k (va_up (S.2.2.2.1 k) i v), S.2.2.2.2.1, S.2.2.2.2.2)
def uR (S : gS) (k : Nat) (v : Value) : gS := (S.1, S.2.1, S.2.2.1, S.2.2.2.1, va_up S.2.2.2.2.1 k v, S.2.2.2.2.2)
def uQ (S : gS) (k i : Nat) (v : Value) : gS := (S.1, S.2.1, S.2.2.1, S.2.2.2.1, S.2.2.2.2.1, va_up S.2.2.2.2.2 k (va_up (S.2.2.2.2.2 k) i v))
theorem sJ_uI (S : gS) (k : Nat) (v : Int32) : sJ (uI S k v) = sJ S := rfl
theorem sA_uI (S : gS) (k : Nat) (v : Int32) : sA (uI S k v) = sA S := rfl
theorem sL_uI (S : gS) (k : Nat) (v : Int32) : sL (uI S k v) = sL S := rfl
theorem sR_uI (S : gS) (k : Nat) (v : Int32) : sR (uI S k v) = sR S := rfl
theorem sQ_uI (S : gS) (k : Nat) (v : Int32) : sQ (uI S k v) = sQ S := rfl
theorem sI_uI (S : gS) (k : Nat) (v : Int32) (q : Nat) : sI (uI S k v) q = if q = k then v else sI S q := rfl
theorem sI_uJ (S : gS) (k : Nat) (v : Int64) : sI (uJ S k v) = sI S := rfl
theorem sA_uJ (S : gS) (k : Nat) (v : Int64) : sA (uJ S k v) = sA S := rfl
theorem sL_uJ (S : gS) (k : Nat) (v : Int64) : sL (uJ S k v) = sL S := rfl
theorem sR_uJ (S : gS) (k : Nat) (v : Int64) : sR (uJ S k v) = sR S := rfl
theorem sQ_uJ (S : gS) (k : Nat) (v : Int64) : sQ (uJ S k v) = sQ S := rfl
theorem sJ_uJ (S : gS) (k : Nat) (v : Int64) (q : Nat) : sJ (uJ S k v) q = if q = k then v else sJ S q := rfl
theorem sI_uA (S : gS) (k i : Nat) (v : Int32) : sI (uA S k i v) = sI S := rfl
theorem sJ_uA (S : gS) (k i : Nat) (v : Int32) : sJ (uA S k i v) = sJ S := rfl
theorem sL_uA (S : gS) (k i : Nat) (v : Int32) : sL (uA S k i v) = sL S := rfl
theorem sR_uA (S : gS) (k i : Nat) (v : Int32) : sR (uA S k i v) = sR S := rfl
theorem sQ_uA (S : gS) (k i : Nat) (v : Int32) : sQ (uA S k i v) = sQ S := rfl
theorem sA_uA (S : gS) (k i : Nat) (v : Int32) (q j : Nat) : sA (uA S k i v) q j = if q = k ∧ j = i then v else sA S q j := by
  show va_up _ k (va_up _ i v) q j = _
  unfold va_up
  by_cases h1 : q = k
  · subst h1
    by_cases h2 : j = i <;> simp [h2, sA]
  · simp [h1, sA]
theorem sI_uL (S : gS) (k i : Nat) (v : Int64) : sI (uL S k i v) = sI S := rfl
theorem sJ_uL (S : gS) (k i : Nat) (v : Int64) : sJ (uL S k i v) = sJ S := rfl
theorem sA_uL (S : gS) (k i : Nat) (v : Int64) : sA (uL S k i v) = sA S := rfl
theorem sR_uL (S : gS) (k i : Nat) (v : Int64) : sR (uL S k i v) = sR S := rfl
theorem sQ_uL (S : gS) (k i : Nat) (v : Int64) : sQ (uL S k i v) = sQ S := rfl
theorem sL_uL (S : gS) (k i : Nat) (v : Int64) (q j : Nat) : sL (uL S k i v) q j = if q = k ∧ j = i then v else sL S q j := by
  show va_up _ k (va_up _ i v) q j = _
  unfold va_up
  by_cases h1 : q = k
  · subst h1
    by_cases h2 : j = i <;> simp [h2, sL]
  · simp [h1, sL]
theorem sI_uR (S : gS) (k : Nat) (v : Value) : sI (uR S k v) = sI S := rfl
theorem sJ_uR (S : gS) (k : Nat) (v : Value) : sJ (uR S k v) = sJ S := rfl
theorem sA_uR (S : gS) (k : Nat) (v : Value) : sA (uR S k v) = sA S := rfl
theorem sL_uR (S : gS) (k : Nat) (v : Value) : sL (uR S k v) = sL S := rfl
theorem sQ_uR (S : gS) (k : Nat) (v : Value) : sQ (uR S k v) = sQ S := rfl
theorem sR_uR (S : gS) (k : Nat) (v : Value) (q : Nat) : sR (uR S k v) q = if q = k then v else sR S q := rfl
theorem sI_uQ (S : gS) (k i : Nat) (v : Value) : sI (uQ S k i v) = sI S := rfl
theorem sJ_uQ (S : gS) (k i : Nat) (v : Value) : sJ (uQ S k i v) = sJ S := rfl
theorem sA_uQ (S : gS) (k i : Nat) (v : Value) : sA (uQ S k i v) = sA S := rfl
theorem sL_uQ (S : gS) (k i : Nat) (v : Value) : sL (uQ S k i v) = sL S := rfl
theorem sR_uQ (S : gS) (k i : Nat) (v : Value) : sR (uQ S k i v) = sR S := rfl
theorem sQ_uQ (S : gS) (k i : Nat) (v : Value) (q j : Nat) : sQ (uQ S k i v) q j = if q = k ∧ j = i then v else sQ S q j := by
  show va_up _ k (va_up _ i v) q j = _
  unfold va_up
  by_cases h1 : q = k
  · subst h1
    by_cases h2 : j = i <;> simp [h2, sQ]
  · simp [h1, sQ]
def o_nf (ci : Nat) : Nat := ([5, 5, 2, 7, 16, 4, 13, 3, 11, 6, 5, 65][ci]?).getD 0
def o_knd (ci k : Nat) : Nat := ((([[2, 2, 2, 0, 0], [1, 2, 2, 2, 0], [2, 0], [0, 2, 2, 2, 2, 2, 2], [3, 3, 2, 2, 0, 3, 3, 3, 0, 3, 3, 3, 0, 0, 0, 0], [2, 0, 0, 1], [3, 0, 0, 0, 0, 1, 1, 0, 0, 0, 0, 0, 0], [2, 0, 0], [2, 2, 2, 3, 3, 3, 3, 3, 0, 0, 0], [2, 2, 1, 1, 0, 3], [3, 3, 3, 3, 0], [2, 2, 2, 2, 2, 2, 0, 2, 2, 2, 2, 2, 2, 2, 2, 2, 0, 0, 0, 0, 0, 0, 1, 1, 0, 0, 0, 0, 2, 0, 0, 0, 0, 1, 0, 0, 2, 2, 2, 2, 2, 2, 0, 2, 2, 2, 2, 2, 2, 0, 2, 2, 2, 2, 2, 2, 0, 0, 0, 2, 0, 0, 0, 0, 2]] : List (List Nat))[ci]?).getD [])[k]?.getD 9
def o_len (ci k : Nat) : Nat := ((([[701, 701, 701, 0, 0], [0, 8, 8, 8, 0], [6, 0], [0, 8, 9, 9, 9, 8, 8], [0, 0, 700, 700, 0, 0, 0, 0, 0, 0, 0, 0, 0, 0, 0, 0], [48, 0, 0, 0], [0, 0, 0, 0, 0, 0, 0, 0, 0, 0, 0, 0, 0], [60, 0, 0], [8, 64, 700, 0, 0, 0, 0, 0, 0, 0, 0], [8, 64, 0, 0, 0, 0], [0, 0, 0, 0, 0], [8, 48, 48, 384, 384, 384, 0, 3, 180, 180, 1440, 11520, 64, 64, 44800, 700, 0, 0, 0, 0, 0, 0, 0, 0, 0, 0, 0, 0, 700, 0, 0, 0, 0, 0, 0, 0, 700, 700, 700, 700, 700, 700, 0, 700, 700, 700, 700, 700, 700, 0, 1400, 1400, 1400, 700, 700, 700, 0, 0, 0, 60, 0, 0, 0, 0, 180]] : List (List Nat))[ci]?).getD [])[k]?.getD 0
def o_tag (ci k : Nat) : Nat := ((([[0, 0, 2, 0, 0], [0, 2, 0, 4, 0], [7, 0], [0, 0, 0, 0, 4, 4, 4], [0, 0, 0, 0, 0, 0, 0, 0, 0, 0, 0, 0, 0, 0, 0, 0], [2, 0, 0, 0], [0, 0, 0, 0, 0, 0, 0, 0, 0, 0, 0, 0, 0], [9, 0, 0], [5, 6, 3, 0, 0, 0, 0, 0, 0, 0, 0], [0, 2, 0, 0, 0, 0], [0, 0, 0, 0, 0], [0, 2, 0, 2, 0, 4, 0, 0, 2, 0, 0, 2, 4, 0, 0, 0, 0, 0, 0, 0, 0, 0, 0, 0, 0, 0, 0, 0, 0, 0, 0, 0, 0, 0, 0, 0, 4, 2, 0, 2, 0, 0, 0, 0, 2, 0, 0, 4, 0, 0, 0, 2, 0, 0, 2, 0, 0, 0, 0, 2, 0, 0, 0, 0, 0]] : List (List Nat))[ci]?).getD [])[k]?.getD 0
def o_off (ci k : Nat) : Nat := ((([[1, 2, 3, 0, 0], [0, 1, 2, 3, 0], [1, 0], [0, 1, 2, 3, 4, 5, 6], [0, 0, 9, 10, 0, 0, 0, 0, 0, 0, 0, 0, 0, 0, 0, 0], [1, 0, 0, 0], [0, 0, 0, 0, 0, 0, 0, 0, 0, 0, 0, 0, 0], [1, 0, 0], [1, 2, 3, 0, 0, 0, 0, 0, 0, 0, 0], [1, 2, 0, 0, 0, 0], [0, 0, 0, 0, 0], [1, 2, 3, 4, 5, 6, 0, 7, 8, 9, 10, 11, 12, 13, 14, 15, 0, 0, 0, 0, 0, 0, 0, 0, 0, 0, 0, 0, 16, 0, 0, 0, 0, 0, 0, 0, 17, 18, 19, 20, 21, 22, 0, 23, 24, 25, 26, 27, 28, 0, 29, 30, 31, 32, 33, 34, 0, 0, 0, 35, 0, 0, 0, 0, 36]] : List (List Nat))[ci]?).getD [])[k]?.getD 0
def o_ats : List (List (Option Nat)) := [[none, some 0, some 1, some 2], [none, some 1, some 2, some 3], [none, some 0], [none, some 1, some 2, some 3, some 4, some 5, some 6], [none, none, none, none, none, none, none, none, none, some 2, some 3], [none, some 0], [none], [none, some 0], [none, some 0, some 1, some 2], [none, some 0, some 1], [none], [none, some 0, some 1, some 2, some 3, some 4, some 5, some 7, some 8, some 9, some 10, some 11, some 12, some 13, some 14, some 15, some 28, some 36, some 37, some 38, some 39, some 40, some 41, some 43, some 44, some 45, some 46, some 47, some 48, some 50, some 51, some 52, some 53, some 54, some 55, some 59, some 64]]
def o_at (ci o : Nat) : Option Nat := (((o_ats[ci]?).getD [])[o]?).getD none
theorem o_at_off : ∀ ci, ci < 12 → ∀ o, o < 40 → ∀ k, o_at ci o = some k → o_off ci k = o := by
  intro ci hci o ho k hk
  have hb : ∀ ci, ci < 12 → ∀ o, o < 40 → (match o_at ci o with | some k => decide (o_off ci k = o) | none => true) = true := by decide +kernel
  have h1 := hb ci hci o ho
  rw [hk] at h1
  exact of_decide_eq_true h1
def ofl (ci a : Nat) (S : gS) (k : Nat) : Value := if o_knd ci k = 2 then .ref (a + o_off ci k) else if o_knd ci k = 0 then .int (sI S k) else if o_knd ci k = 1 then .long (sJ S k) else sR S k
def ofs (ci a : Nat) (S : gS) : List Value := (List.range (o_nf ci)).map (ofl ci a S)
def oarr (ci : Nat) (S : gS) (k i : Nat) : Value := if o_tag ci k = 2 then .long (sL S k i) else if o_tag ci k < 5 then .int (sA S k i) else sQ S k i
def ocell (ci a : Nat) (S : gS) (q : Nat) : Option xE := if q = a then some (.inr (ci, ofs ci a S)) else if a < q then (match o_at ci (q - a) with | some k => some (.inl (o_tag ci k, o_len ci k, oarr ci S k)) | none => none) else none
/-- the heap h, with the block S of class ci at a -/
def oh (ci : Nat) (h : xH) (a : Nat) (S : gS) : xH := (fun q => match ocell ci a S q with | some e => some e | none => h.1 q, h.2)
theorem oh_at (ci : Nat) (h : xH) (a : Nat) (S : gS) : (oh ci h a S).1 a = some (.inr (ci, ofs ci a S)) := by
  simp [oh, ocell]
theorem oh_ar {ci : Nat} {h : xH} {a : Nat} {S : gS} {o k : Nat} (h0 : 0 < o) (hk : o_at ci o = some k) : (oh ci h a S).1 (a + o) = some (.inl (o_tag ci k, o_len ci k, oarr ci S k)) := by
  have h1 : a + o ≠ a := by omega
  have h2 : a < a + o := by omega
  have h3 : a + o - a = o := by omega
  simp only [oh, ocell]
  rw [if_neg h1, if_pos h2, h3, hk]
theorem oh_out {ci : Nat} {h : xH} {a : Nat} {S : gS} {q : Nat} (hq : ocell ci a S q = none) : (oh ci h a S).1 q = h.1 q := by
  simp only [oh]
  rw [hq]
theorem ofs_len (ci a : Nat) (S : gS) : (ofs ci a S).length = o_nf ci := by simp [ofs]
theorem ofs_at (ci a : Nat) (S : gS) {k : Nat} (hk : k < o_nf ci) : (ofs ci a S)[k]? = some (ofl ci a S k) := by
  unfold ofs
  rw [List.getElem?_map, List.getElem?_range hk]
  rfl
theorem xput_cong {h g : xH} {a : Nat} {e : xE} (h0 : ∀ q, q ≠ a → h.1 q = g.1 q) (h1 : g.1 a = some e) (h2 : h.2 = g.2) : xput h a e = g := by
  unfold xput
  obtain ⟨g1, g2⟩ := g
  refine Prod.ext ?_ ?_
  · funext q
    by_cases hq : q = a
    · subst hq
      show va_up h.1 q (some e) q = g1 q
      rw [va_up_self]
      exact h1.symm
    · show va_up h.1 a (some e) q = g1 q
      rw [va_up_ne _ _ hq]
      exact h0 q hq
  · exact h2
theorem o_gf {ci : Nat} (h : xH) (a : Nat) (S : gS) {α : Type} {k : Nat} (hk : k < o_nf ci) (f : Value → Option α) : xgf (oh ci h a S) a ci k f = f (ofl ci a S k) := by
  unfold xgf
  rw [oh_at]
  dsimp only
  rw [if_pos rfl, ofs_at ci a S hk]
theorem o_ob (ci : Nat) (h : xH) (a : Nat) (S : gS) {α : Type} (f : List Value → Option α) : xob (oh ci h a S) a ci f = f (ofs ci a S) := by
  unfold xob
  rw [oh_at]
  dsimp only
  rw [if_pos rfl]
theorem o_is (ci : Nat) (h : xH) (a : Nat) (S : gS) {α : Type} (f : Option α) : xis (oh ci h a S) a ci f = f := by
  unfold xis
  rw [oh_at]
  dsimp only
  rw [if_pos rfl]
theorem ofs_ext {ci a : Nat} {S : gS} {k : Nat} {v : Value} {S' : gS} (hk : k < o_nf ci) (h1 : ofl ci a S' k = v) (h2 : ∀ q, q ≠ k → ofl ci a S' q = ofl ci a S q) : (ofs ci a S).set k v = ofs ci a S' := by
  apply List.ext_getElem?
  intro q
  by_cases hq : q < o_nf ci
  · by_cases hqk : q = k
    · subst hqk
      rw [List.getElem?_set_self (by rw [ofs_len]; exact hk), ofs_at ci a S' hk, h1]
    · rw [List.getElem?_set_ne (Ne.symm hqk), ofs_at ci a S hq, ofs_at ci a S' hq, h2 q hqk]
  · rw [List.getElem?_eq_none (by rw [List.length_set, ofs_len]; omega), List.getElem?_eq_none (by rw [ofs_len]; omega)]
theorem oh_put {ci : Nat} {h : xH} {a : Nat} {S S' : gS} {k : Nat} {v : Value} (hk : k < o_nf ci) (h1 : ofl ci a S' k = v) (h2 : ∀ q, q ≠ k → ofl ci a S' q = ofl ci a S q) (h3 : ∀ q, oarr ci S' q = oarr ci S q) : xput (oh ci h a S) a (.inr (ci, (ofs ci a S).set k v)) = oh ci h a S' := by
  rw [ofs_ext hk h1 h2]
  refine xput_cong (fun q hq => ?_) (oh_at ci h a S') rfl
  simp only [oh, ocell, hq, if_false, h3]
theorem o_putI {ci : Nat} (h : xH) (a : Nat) (S : gS) {k : Nat} (v : Int32) (hk : k < o_nf ci ∧ o_knd ci k = 0) : xput (oh ci h a S) a (.inr (ci, (ofs ci a S).set k (.int v))) = oh ci h a (uI S k v) := by
  refine oh_put hk.1 ?_ (fun q hn => ?_) (fun q => rfl)
  · simp [ofl, hk.2, sI_uI]
  · simp only [ofl, sI_uI, sJ_uI, sR_uI, hn, if_false]
theorem o_putJ {ci : Nat} (h : xH) (a : Nat) (S : gS) {k : Nat} (v : Int64) (hk : k < o_nf ci ∧ o_knd ci k = 1) : xput (oh ci h a S) a (.inr (ci, (ofs ci a S).set k (.long v))) = oh ci h a (uJ S k v) := by
  refine oh_put hk.1 ?_ (fun q hn => ?_) (fun q => rfl)
  · simp [ofl, hk.2, sJ_uJ]
  · simp only [ofl, sI_uJ, sJ_uJ, sR_uJ, hn, if_false]
theorem o_putR {ci : Nat} (h : xH) (a : Nat) (S : gS) {k : Nat} (v : Value) (hk : k < o_nf ci ∧ o_knd ci k = 3) : xput (oh ci h a S) a (.inr (ci, (ofs ci a S).set k v)) = oh ci h a (uR S k v) := by
  refine oh_put hk.1 ?_ (fun q hn => ?_) (fun q => rfl)
  · simp [ofl, hk.2, sR_uR]
  · simp only [ofl, sI_uR, sJ_uR, sR_uR, hn, if_false]
theorem oh_put_ar {ci : Nat} {h : xH} {a : Nat} {S S' : gS} {o k : Nat} {z : Nat → Value} (hc : ci < 12) (ho : o < 40) (h0 : 0 < o) (hk : o_at ci o = some k) (hl : ∀ q, 40 ≤ q → o_at ci q = none) (h1 : oarr ci S' k = z) (h2 : ∀ q, q ≠ k → oarr ci S' q = oarr ci S q) (h3 : ∀ q, ofl ci a S' q = ofl ci a S q) : xput (oh ci h a S) (a + o) (.inl (o_tag ci k, o_len ci k, z)) = oh ci h a S' := by
  refine xput_cong (fun q hq => ?_) (by rw [oh_ar h0 hk, h1]) rfl
  have hf : ofs ci a S' = ofs ci a S := by
    unfold ofs
    apply List.map_congr_left
    intro q _
    exact h3 q
  simp only [oh, ocell, hf]
  by_cases hm : q = a
  · simp only [hm, if_true]
  · by_cases hb : a < q
    · simp only [hm, hb, if_false, if_true]
      cases hq2 : o_at ci (q - a) with
      | none => rfl
      | some k' =>
        have h40 : q - a < 40 := by
          rcases Nat.lt_or_ge (q - a) 40 with hx | hx
          · exact hx
          · rw [hl _ hx] at hq2; cases hq2
        have hne : k' ≠ k := by
          intro e
          subst e
          have e1 := o_at_off ci hc o ho k' hk
          have e2 := o_at_off ci hc (q - a) h40 k' hq2
          omega
        simp only [h2 _ hne]
    · simp only [hm, hb, if_false]
theorem o_at_40 {ci : Nat} (hc : ci < 12) : ∀ q, 40 ≤ q → o_at ci q = none := by
  intro q hq
  have hb : ∀ ci, ci < 12 → ((o_ats[ci]?).getD []).length ≤ 40 := by decide +kernel
  unfold o_at
  rw [List.getElem?_eq_none (Nat.le_trans (hb ci hc) hq)]
  rfl
def bIn (i : Int32) (n : Nat) : Bool := decide (xIn i n)
theorem bIn_t {i : Int32} {n : Nat} (h : xIn i n) : bIn i n = true := decide_eq_true h
theorem bIn_f {i : Int32} {n : Nat} (h : ¬ xIn i n) : ¬ bIn i n = true := fun q => h (of_decide_eq_true q)
theorem o_setA {ci : Nat} {h : xH} {a : Nat} {S : gS} {o k : Nat} (hc : ci < 12) (ho : o < 40) (h0 : 0 < o) (hk : o_at ci o = some k) (ht : o_tag ci k ≠ 2 ∧ o_tag ci k < 5) (i : Nat) (v : Int32) : xput (oh ci h a S) (a + o) (.inl (o_tag ci k, o_len ci k, updV (oarr ci S k) i (.int v))) = oh ci h a (uA S k i v) := by
  refine oh_put_ar hc ho h0 hk (o_at_40 hc) ?_ (fun q hq => ?_) (fun q => rfl)
  · funext q
    simp only [oarr, updV, sA_uA, ht.1, ht.2, if_false, if_true, true_and]
    by_cases hq : q = i <;> simp [hq]
  · funext j
    simp only [oarr, sA_uA, sL_uA, sQ_uA, hq, false_and, if_false]
theorem o_setL {ci : Nat} {h : xH} {a : Nat} {S : gS} {o k : Nat} (hc : ci < 12) (ho : o < 40) (h0 : 0 < o) (hk : o_at ci o = some k) (ht : o_tag ci k = 2) (i : Nat) (v : Int64) : xput (oh ci h a S) (a + o) (.inl (o_tag ci k, o_len ci k, updV (oarr ci S k) i (.long v))) = oh ci h a (uL S k i v) := by
  refine oh_put_ar hc ho h0 hk (o_at_40 hc) ?_ (fun q hq => ?_) (fun q => rfl)
  · funext q
    simp only [oarr, updV, sL_uL, ht, if_true, true_and]
    by_cases hq : q = i <;> simp [hq]
  · funext j
    simp only [oarr, sA_uL, sL_uL, sQ_uL, hq, false_and, if_false]
theorem o_setQ {ci : Nat} {h : xH} {a : Nat} {S : gS} {o k : Nat} (hc : ci < 12) (ho : o < 40) (h0 : 0 < o) (hk : o_at ci o = some k) (ht : o_tag ci k ≠ 2 ∧ ¬ o_tag ci k < 5) (i : Nat) (v : Value) : xput (oh ci h a S) (a + o) (.inl (o_tag ci k, o_len ci k, updV (oarr ci S k) i v)) = oh ci h a (uQ S k i v) := by
  refine oh_put_ar hc ho h0 hk (o_at_40 hc) ?_ (fun q hq => ?_) (fun q => rfl)
  · funext q
    simp only [oarr, updV, sQ_uQ, ht.1, ht.2, if_false, true_and]
  · funext j
    simp only [oarr, sA_uQ, sL_uQ, sQ_uQ, hq, false_and, if_false]
theorem o_rd {ci : Nat} {h : xH} {a : Nat} {S : gS} {α : Type} {o k : Nat} (h0 : 0 < o) (hk : o_at ci o = some k) (i : Int32) {t0 t1 : Nat} (ht : o_tag ci k = t0 ∨ o_tag ci k = t1) (f : Value → Option α) : xrd (oh ci h a S) (a + o) i t0 t1 f = if bIn i (o_len ci k) = true then f (oarr ci S k i.toNatClampNeg) else none := by
  unfold xrd xar
  rw [oh_ar h0 hk]
  dsimp only
  by_cases hin : xIn i (o_len ci k)
  · rw [if_pos ⟨ht, hin⟩, if_pos (bIn_t hin)]
  · rw [if_neg (fun q => hin q.2), if_neg (bIn_f hin)]
theorem o_rq {ci : Nat} {h : xH} {a : Nat} {S : gS} {α : Type} {o k : Nat} (h0 : 0 < o) (hk : o_at ci o = some k) (i : Int32) (ht : x_isq (o_tag ci k) = true) (f : Value → Option α) : xrq (oh ci h a S) (a + o) i f = if bIn i (o_len ci k) = true then f (oarr ci S k i.toNatClampNeg) else none := by
  unfold xrq xar
  rw [oh_ar h0 hk]
  dsimp only
  by_cases hin : xIn i (o_len ci k)
  · rw [if_pos ⟨ht, hin⟩, if_pos (bIn_t hin)]
  · rw [if_neg (fun q => hin q.2), if_neg (bIn_f hin)]
theorem o_wr {ci : Nat} {h : xH} {a : Nat} {S S' : gS} {α : Type} {o k : Nat} (h0 : 0 < o) (hk : o_at ci o = some k) (i : Int32) {t0 : Nat} (ht : o_tag ci k = t0) (v : Value) (f : xH → Option α) (hS : xput (oh ci h a S) (a + o) (.inl (t0, o_len ci k, updV (oarr ci S k) i.toNatClampNeg v)) = oh ci h a S') : xwr (oh ci h a S) (a + o) i t0 v f = if bIn i (o_len ci k) = true then f (oh ci h a S') else none := by
  unfold xwr xar
  rw [oh_ar h0 hk]
  dsimp only
  by_cases hin : xIn i (o_len ci k)
  · rw [if_pos ⟨ht, hin⟩, if_pos (bIn_t hin), hS]
  · rw [if_neg (fun q => hin q.2), if_neg (bIn_f hin)]
theorem narrow_b (v : Int32) : narrow .boolean (.int v) = .int (v &&& 1) := rfl
theorem narrow_B (v : Int32) : narrow .byte (.int v) = .int v.toInt8.toInt32 := rfl
theorem o_wz {ci : Nat} {h : xH} {a : Nat} {S : gS} {α : Type} {o k : Nat} (hc : ci < 12) (ho : o < 40) (h0 : 0 < o) (hk : o_at ci o = some k) (i x : Int32) (ht : o_tag ci k = 4) (f : xH → Option α) : xwb (oh ci h a S) (a + o) i x f = if bIn i (o_len ci k) = true then f (oh ci h a (uA S k i.toNatClampNeg (x &&& 1))) else none := by
  unfold xwb xar
  rw [oh_ar h0 hk]
  dsimp only
  have h4 := o_setA (h := h) (a := a) (S := S) hc ho h0 hk (by rw [ht]; decide) i.toNatClampNeg (x &&& 1)
  rw [ht] at h4
  rw [ht]
  by_cases hin : xIn i (o_len ci k)
  · rw [if_pos ⟨Or.inr rfl, hin⟩, if_pos (bIn_t hin), if_neg (by decide), narrow_b, h4]
  · rw [if_neg (fun q => hin q.2), if_neg (bIn_f hin)]
theorem o_wB {ci : Nat} {h : xH} {a : Nat} {S : gS} {α : Type} {o k : Nat} (hc : ci < 12) (ho : o < 40) (h0 : 0 < o) (hk : o_at ci o = some k) (i x : Int32) (ht : o_tag ci k = 3) (f : xH → Option α) : xwb (oh ci h a S) (a + o) i x f = if bIn i (o_len ci k) = true then f (oh ci h a (uA S k i.toNatClampNeg x.toInt8.toInt32)) else none := by
  unfold xwb xar
  rw [oh_ar h0 hk]
  dsimp only
  have h4 := o_setA (h := h) (a := a) (S := S) hc ho h0 hk (by rw [ht]; decide) i.toNatClampNeg x.toInt8.toInt32
  rw [ht] at h4
  rw [ht]
  by_cases hin : xIn i (o_len ci k)
  · rw [if_pos ⟨Or.inl rfl, hin⟩, if_pos (bIn_t hin), if_pos rfl, narrow_B, h4]
  · rw [if_neg (fun q => hin q.2), if_neg (bIn_f hin)]
theorem o_wqN {ci : Nat} {h : xH} {a : Nat} {S : gS} {α : Type} {o k : Nat} (hc : ci < 12) (ho : o < 40) (h0 : 0 < o) (hk : o_at ci o = some k) (i : Int32) (ht : x_isq (o_tag ci k) = true ∧ (o_tag ci k ≠ 2 ∧ ¬ o_tag ci k < 5)) (f : xH → Option α) : xwq (oh ci h a S) (a + o) i .null f = if bIn i (o_len ci k) = true then f (oh ci h a (uQ S k i.toNatClampNeg .null)) else none := by
  unfold xwq xar
  rw [oh_ar h0 hk]
  dsimp only
  by_cases hin : xIn i (o_len ci k)
  · rw [if_pos ⟨ht.1, hin⟩, if_pos (bIn_t hin), o_setQ hc ho h0 hk ht.2]
  · rw [if_neg (fun q => hin q.2), if_neg (bIn_f hin)]
theorem o_wqR {ci : Nat} {h : xH} {a : Nat} {S : gS} {α : Type} {o k : Nat} (hc : ci < 12) (ho : o < 40) (h0 : 0 < o) (hk : o_at ci o = some k) (i : Int32) (ht : x_isq (o_tag ci k) = true ∧ (o_tag ci k ≠ 2 ∧ ¬ o_tag ci k < 5)) (v : Nat) (f : xH → Option α) : xwq (oh ci h a S) (a + o) i (.ref v) f = if bIn i (o_len ci k) = true then xis (oh ci h a S) v (x_ac (o_tag ci k)) (f (oh ci h a (uQ S k i.toNatClampNeg (.ref v)))) else none := by
  unfold xwq xar
  rw [oh_ar h0 hk]
  dsimp only
  by_cases hin : xIn i (o_len ci k)
  · rw [if_pos ⟨ht.1, hin⟩, if_pos (bIn_t hin), o_setQ hc ho h0 hk ht.2]
  · rw [if_neg (fun q => hin q.2), if_neg (bIn_f hin)]
theorem ofs_len0 (a : Nat) (S : gS) : (ofs 0 a S).length = 5 := ofs_len 0 a S
theorem og_0_0 (h : xH) (a : Nat) (S : gS) {α : Type} (f : Value → Option α) : xgf (oh 0 h a S) a 0 0 f = f (.ref (a + 1)) := o_gf h a S (by decide) f
theorem or_0_0 (h : xH) (a : Nat) (S : gS) {α : Type} (i : Int32) (f : Value → Option α) : xrd (oh 0 h a S) (a + 1) i 0 1 f = if bIn i 701 = true then f (.int (sA S 0 i.toNatClampNeg)) else none := o_rd (o := 1) (k := 0) (by decide) rfl i (Or.inl rfl) f
theorem ow_0_0 (h : xH) (a : Nat) (S : gS) {α : Type} (i : Int32) (v : Int32) (f : xH → Option α) : xwr (oh 0 h a S) (a + 1) i 0 (.int v) f = if bIn i 701 = true then f (oh 0 h a (uA S 0 i.toNatClampNeg v)) else none := o_wr (o := 1) (k := 0) (by decide) rfl i rfl (.int v) f (o_setA (o := 1) (k := 0) (by decide) (by decide) (by decide) rfl (by decide) _ v)
theorem og_0_1 (h : xH) (a : Nat) (S : gS) {α : Type} (f : Value → Option α) : xgf (oh 0 h a S) a 0 1 f = f (.ref (a + 2)) := o_gf h a S (by decide) f
theorem or_0_1 (h : xH) (a : Nat) (S : gS) {α : Type} (i : Int32) (f : Value → Option α) : xrd (oh 0 h a S) (a + 2) i 0 1 f = if bIn i 701 = true then f (.int (sA S 1 i.toNatClampNeg)) else none := o_rd (o := 2) (k := 1) (by decide) rfl i (Or.inl rfl) f
theorem ow_0_1 (h : xH) (a : Nat) (S : gS) {α : Type} (i : Int32) (v : Int32) (f : xH → Option α) : xwr (oh 0 h a S) (a + 2) i 0 (.int v) f = if bIn i 701 = true then f (oh 0 h a (uA S 1 i.toNatClampNeg v)) else none := o_wr (o := 2) (k := 1) (by decide) rfl i rfl (.int v) f (o_setA (o := 2) (k := 1) (by decide) (by decide) (by decide) rfl (by decide) _ v)
theorem og_0_2 (h : xH) (a : Nat) (S : gS) {α : Type} (f : Value → Option α) : xgf (oh 0 h a S) a 0 2 f = f (.ref (a + 3)) := o_gf h a S (by decide) f
theorem or_0_2 (h : xH) (a : Nat) (S : gS) {α : Type} (i : Int32) (f : Value → Option α) : xrd (oh 0 h a S) (a + 3) i 2 2 f = if bIn i 701 = true then f (.long (sL S 2 i.toNatClampNeg)) else none := o_rd (o := 3) (k := 2) (by decide) rfl i (Or.inl rfl) f
theorem ow_0_2 (h : xH) (a : Nat) (S : gS) {α : Type} (i : Int32) (v : Int64) (f : xH → Option α) : xwr (oh 0 h a S) (a + 3) i 2 (.long v) f = if bIn i 701 = true then f (oh 0 h a (uL S 2 i.toNatClampNeg v)) else none := o_wr (o := 3) (k := 2) (by decide) rfl i rfl (.long v) f (o_setL (o := 3) (k := 2) (by decide) (by decide) (by decide) rfl rfl _ v)
theorem og_0_3 (h : xH) (a : Nat) (S : gS) {α : Type} (f : Value → Option α) : xgf (oh 0 h a S) a 0 3 f = f (.int (sI S 3)) := o_gf h a S (by decide) f
theorem op_0_3 (h : xH) (a : Nat) (S : gS) (v : Int32) : xput (oh 0 h a S) a (.inr (0, (ofs 0 a S).set 3 (.int v))) = oh 0 h a (uI S 3 v) := o_putI h a S v (by decide)
theorem og_0_4 (h : xH) (a : Nat) (S : gS) {α : Type} (f : Value → Option α) : xgf (oh 0 h a S) a 0 4 f = f (.int (sI S 4)) := o_gf h a S (by decide) f
theorem op_0_4 (h : xH) (a : Nat) (S : gS) (v : Int32) : xput (oh 0 h a S) a (.inr (0, (ofs 0 a S).set 4 (.int v))) = oh 0 h a (uI S 4 v) := o_putI h a S v (by decide)
theorem ofs_len1 (a : Nat) (S : gS) : (ofs 1 a S).length = 5 := ofs_len 1 a S
theorem og_1_0 (h : xH) (a : Nat) (S : gS) {α : Type} (f : Value → Option α) : xgf (oh 1 h a S) a 1 0 f = f (.long (sJ S 0)) := o_gf h a S (by decide) f
theorem op_1_0 (h : xH) (a : Nat) (S : gS) (v : Int64) : xput (oh 1 h a S) a (.inr (1, (ofs 1 a S).set 0 (.long v))) = oh 1 h a (uJ S 0 v) := o_putJ h a S v (by decide)
theorem og_1_1 (h : xH) (a : Nat) (S : gS) {α : Type} (f : Value → Option α) : xgf (oh 1 h a S) a 1 1 f = f (.ref (a + 1)) := o_gf h a S (by decide) f
theorem or_1_1 (h : xH) (a : Nat) (S : gS) {α : Type} (i : Int32) (f : Value → Option α) : xrd (oh 1 h a S) (a + 1) i 2 2 f = if bIn i 8 = true then f (.long (sL S 1 i.toNatClampNeg)) else none := o_rd (o := 1) (k := 1) (by decide) rfl i (Or.inl rfl) f
theorem ow_1_1 (h : xH) (a : Nat) (S : gS) {α : Type} (i : Int32) (v : Int64) (f : xH → Option α) : xwr (oh 1 h a S) (a + 1) i 2 (.long v) f = if bIn i 8 = true then f (oh 1 h a (uL S 1 i.toNatClampNeg v)) else none := o_wr (o := 1) (k := 1) (by decide) rfl i rfl (.long v) f (o_setL (o := 1) (k := 1) (by decide) (by decide) (by decide) rfl rfl _ v)
theorem og_1_2 (h : xH) (a : Nat) (S : gS) {α : Type} (f : Value → Option α) : xgf (oh 1 h a S) a 1 2 f = f (.ref (a + 2)) := o_gf h a S (by decide) f
theorem or_1_2 (h : xH) (a : Nat) (S : gS) {α : Type} (i : Int32) (f : Value → Option α) : xrd (oh 1 h a S) (a + 2) i 0 1 f = if bIn i 8 = true then f (.int (sA S 2 i.toNatClampNeg)) else none := o_rd (o := 2) (k := 2) (by decide) rfl i (Or.inl rfl) f
theorem ow_1_2 (h : xH) (a : Nat) (S : gS) {α : Type} (i : Int32) (v : Int32) (f : xH → Option α) : xwr (oh 1 h a S) (a + 2) i 0 (.int v) f = if bIn i 8 = true then f (oh 1 h a (uA S 2 i.toNatClampNeg v)) else none := o_wr (o := 2) (k := 2) (by decide) rfl i rfl (.int v) f (o_setA (o := 2) (k := 2) (by decide) (by decide) (by decide) rfl (by decide) _ v)
theorem og_1_3 (h : xH) (a : Nat) (S : gS) {α : Type} (f : Value → Option α) : xgf (oh 1 h a S) a 1 3 f = f (.ref (a + 3)) := o_gf h a S (by decide) f
theorem or_1_3 (h : xH) (a : Nat) (S : gS) {α : Type} (i : Int32) (f : Value → Option α) : xrd (oh 1 h a S) (a + 3) i 3 4 f = if bIn i 8 = true then f (.int (sA S 3 i.toNatClampNeg)) else none := o_rd (o := 3) (k := 3) (by decide) rfl i (Or.inr rfl) f
theorem ow_1_3 (h : xH) (a : Nat) (S : gS) {α : Type} (i : Int32) (v : Int32) (f : xH → Option α) : xwb (oh 1 h a S) (a + 3) i v f = if bIn i 8 = true then f (oh 1 h a (uA S 3 i.toNatClampNeg (v &&& 1))) else none := o_wz (o := 3) (k := 3) (by decide) (by decide) (by decide) rfl i v rfl f
theorem og_1_4 (h : xH) (a : Nat) (S : gS) {α : Type} (f : Value → Option α) : xgf (oh 1 h a S) a 1 4 f = f (.int (sI S 4)) := o_gf h a S (by decide) f
theorem op_1_4 (h : xH) (a : Nat) (S : gS) (v : Int32) : xput (oh 1 h a S) a (.inr (1, (ofs 1 a S).set 4 (.int v))) = oh 1 h a (uI S 4 v) := o_putI h a S v (by decide)
theorem ofs_len2 (a : Nat) (S : gS) : (ofs 2 a S).length = 2 := ofs_len 2 a S
theorem og_2_0 (h : xH) (a : Nat) (S : gS) {α : Type} (f : Value → Option α) : xgf (oh 2 h a S) a 2 0 f = f (.ref (a + 1)) := o_gf h a S (by decide) f
theorem or_2_0 (h : xH) (a : Nat) (S : gS) {α : Type} (i : Int32) (f : Value → Option α) : xrq (oh 2 h a S) (a + 1) i f = if bIn i 6 = true then f (sQ S 0 i.toNatClampNeg) else none := o_rq (o := 1) (k := 0) (by decide) rfl i (by decide) f
theorem ow_2_0 (h : xH) (a : Nat) (S : gS) {α : Type} (i : Int32) (v : Nat) (f : xH → Option α) : xwq (oh 2 h a S) (a + 1) i (.ref v) f = if bIn i 6 = true then xis (oh 2 h a S) v 1 (f (oh 2 h a (uQ S 0 i.toNatClampNeg (.ref v)))) else none := o_wqR (o := 1) (k := 0) (by decide) (by decide) (by decide) rfl i (by decide) v f
theorem on_2_0 (h : xH) (a : Nat) (S : gS) {α : Type} (i : Int32) (f : xH → Option α) : xwq (oh 2 h a S) (a + 1) i .null f = if bIn i 6 = true then f (oh 2 h a (uQ S 0 i.toNatClampNeg .null)) else none := o_wqN (o := 1) (k := 0) (by decide) (by decide) (by decide) rfl i (by decide) f
theorem og_2_1 (h : xH) (a : Nat) (S : gS) {α : Type} (f : Value → Option α) : xgf (oh 2 h a S) a 2 1 f = f (.int (sI S 1)) := o_gf h a S (by decide) f
theorem op_2_1 (h : xH) (a : Nat) (S : gS) (v : Int32) : xput (oh 2 h a S) a (.inr (2, (ofs 2 a S).set 1 (.int v))) = oh 2 h a (uI S 1 v) := o_putI h a S v (by decide)
theorem ofs_len3 (a : Nat) (S : gS) : (ofs 3 a S).length = 7 := ofs_len 3 a S
theorem og_3_0 (h : xH) (a : Nat) (S : gS) {α : Type} (f : Value → Option α) : xgf (oh 3 h a S) a 3 0 f = f (.int (sI S 0)) := o_gf h a S (by decide) f
theorem op_3_0 (h : xH) (a : Nat) (S : gS) (v : Int32) : xput (oh 3 h a S) a (.inr (3, (ofs 3 a S).set 0 (.int v))) = oh 3 h a (uI S 0 v) := o_putI h a S v (by decide)
theorem og_3_1 (h : xH) (a : Nat) (S : gS) {α : Type} (f : Value → Option α) : xgf (oh 3 h a S) a 3 1 f = f (.ref (a + 1)) := o_gf h a S (by decide) f
theorem or_3_1 (h : xH) (a : Nat) (S : gS) {α : Type} (i : Int32) (f : Value → Option α) : xrd (oh 3 h a S) (a + 1) i 0 1 f = if bIn i 8 = true then f (.int (sA S 1 i.toNatClampNeg)) else none := o_rd (o := 1) (k := 1) (by decide) rfl i (Or.inl rfl) f
theorem ow_3_1 (h : xH) (a : Nat) (S : gS) {α : Type} (i : Int32) (v : Int32) (f : xH → Option α) : xwr (oh 3 h a S) (a + 1) i 0 (.int v) f = if bIn i 8 = true then f (oh 3 h a (uA S 1 i.toNatClampNeg v)) else none := o_wr (o := 1) (k := 1) (by decide) rfl i rfl (.int v) f (o_setA (o := 1) (k := 1) (by decide) (by decide) (by decide) rfl (by decide) _ v)
theorem og_3_2 (h : xH) (a : Nat) (S : gS) {α : Type} (f : Value → Option α) : xgf (oh 3 h a S) a 3 2 f = f (.ref (a + 2)) := o_gf h a S (by decide) f
theorem or_3_2 (h : xH) (a : Nat) (S : gS) {α : Type} (i : Int32) (f : Value → Option α) : xrd (oh 3 h a S) (a + 2) i 0 1 f = if bIn i 9 = true then f (.int (sA S 2 i.toNatClampNeg)) else none := o_rd (o := 2) (k := 2) (by decide) rfl i (Or.inl rfl) f
theorem ow_3_2 (h : xH) (a : Nat) (S : gS) {α : Type} (i : Int32) (v : Int32) (f : xH → Option α) : xwr (oh 3 h a S) (a + 2) i 0 (.int v) f = if bIn i 9 = true then f (oh 3 h a (uA S 2 i.toNatClampNeg v)) else none := o_wr (o := 2) (k := 2) (by decide) rfl i rfl (.int v) f (o_setA (o := 2) (k := 2) (by decide) (by decide) (by decide) rfl (by decide) _ v)
theorem og_3_3 (h : xH) (a : Nat) (S : gS) {α : Type} (f : Value → Option α) : xgf (oh 3 h a S) a 3 3 f = f (.ref (a + 3)) := o_gf h a S (by decide) f
theorem or_3_3 (h : xH) (a : Nat) (S : gS) {α : Type} (i : Int32) (f : Value → Option α) : xrd (oh 3 h a S) (a + 3) i 0 1 f = if bIn i 9 = true then f (.int (sA S 3 i.toNatClampNeg)) else none := o_rd (o := 3) (k := 3) (by decide) rfl i (Or.inl rfl) f
theorem ow_3_3 (h : xH) (a : Nat) (S : gS) {α : Type} (i : Int32) (v : Int32) (f : xH → Option α) : xwr (oh 3 h a S) (a + 3) i 0 (.int v) f = if bIn i 9 = true then f (oh 3 h a (uA S 3 i.toNatClampNeg v)) else none := o_wr (o := 3) (k := 3) (by decide) rfl i rfl (.int v) f (o_setA (o := 3) (k := 3) (by decide) (by decide) (by decide) rfl (by decide) _ v)
theorem og_3_4 (h : xH) (a : Nat) (S : gS) {α : Type} (f : Value → Option α) : xgf (oh 3 h a S) a 3 4 f = f (.ref (a + 4)) := o_gf h a S (by decide) f
theorem or_3_4 (h : xH) (a : Nat) (S : gS) {α : Type} (i : Int32) (f : Value → Option α) : xrd (oh 3 h a S) (a + 4) i 3 4 f = if bIn i 9 = true then f (.int (sA S 4 i.toNatClampNeg)) else none := o_rd (o := 4) (k := 4) (by decide) rfl i (Or.inr rfl) f
theorem ow_3_4 (h : xH) (a : Nat) (S : gS) {α : Type} (i : Int32) (v : Int32) (f : xH → Option α) : xwb (oh 3 h a S) (a + 4) i v f = if bIn i 9 = true then f (oh 3 h a (uA S 4 i.toNatClampNeg (v &&& 1))) else none := o_wz (o := 4) (k := 4) (by decide) (by decide) (by decide) rfl i v rfl f
theorem og_3_5 (h : xH) (a : Nat) (S : gS) {α : Type} (f : Value → Option α) : xgf (oh 3 h a S) a 3 5 f = f (.ref (a + 5)) := o_gf h a S (by decide) f
theorem or_3_5 (h : xH) (a : Nat) (S : gS) {α : Type} (i : Int32) (f : Value → Option α) : xrd (oh 3 h a S) (a + 5) i 3 4 f = if bIn i 8 = true then f (.int (sA S 5 i.toNatClampNeg)) else none := o_rd (o := 5) (k := 5) (by decide) rfl i (Or.inr rfl) f
theorem ow_3_5 (h : xH) (a : Nat) (S : gS) {α : Type} (i : Int32) (v : Int32) (f : xH → Option α) : xwb (oh 3 h a S) (a + 5) i v f = if bIn i 8 = true then f (oh 3 h a (uA S 5 i.toNatClampNeg (v &&& 1))) else none := o_wz (o := 5) (k := 5) (by decide) (by decide) (by decide) rfl i v rfl f
theorem og_3_6 (h : xH) (a : Nat) (S : gS) {α : Type} (f : Value → Option α) : xgf (oh 3 h a S) a 3 6 f = f (.ref (a + 6)) := o_gf h a S (by decide) f
theorem or_3_6 (h : xH) (a : Nat) (S : gS) {α : Type} (i : Int32) (f : Value → Option α) : xrd (oh 3 h a S) (a + 6) i 3 4 f = if bIn i 8 = true then f (.int (sA S 6 i.toNatClampNeg)) else none := o_rd (o := 6) (k := 6) (by decide) rfl i (Or.inr rfl) f
theorem ow_3_6 (h : xH) (a : Nat) (S : gS) {α : Type} (i : Int32) (v : Int32) (f : xH → Option α) : xwb (oh 3 h a S) (a + 6) i v f = if bIn i 8 = true then f (oh 3 h a (uA S 6 i.toNatClampNeg (v &&& 1))) else none := o_wz (o := 6) (k := 6) (by decide) (by decide) (by decide) rfl i v rfl f
theorem ofs_len4 (a : Nat) (S : gS) : (ofs 4 a S).length = 16 := ofs_len 4 a S
theorem og_4_0 (h : xH) (a : Nat) (S : gS) {α : Type} (f : Value → Option α) : xgf (oh 4 h a S) a 4 0 f = f (sR S 0) := o_gf h a S (by decide) f
theorem op_4_0 (h : xH) (a : Nat) (S : gS) (v : Value) : xput (oh 4 h a S) a (.inr (4, (ofs 4 a S).set 0 v)) = oh 4 h a (uR S 0 v) := o_putR h a S v (by decide)
theorem og_4_1 (h : xH) (a : Nat) (S : gS) {α : Type} (f : Value → Option α) : xgf (oh 4 h a S) a 4 1 f = f (sR S 1) := o_gf h a S (by decide) f
theorem op_4_1 (h : xH) (a : Nat) (S : gS) (v : Value) : xput (oh 4 h a S) a (.inr (4, (ofs 4 a S).set 1 v)) = oh 4 h a (uR S 1 v) := o_putR h a S v (by decide)
theorem og_4_2 (h : xH) (a : Nat) (S : gS) {α : Type} (f : Value → Option α) : xgf (oh 4 h a S) a 4 2 f = f (.ref (a + 9)) := o_gf h a S (by decide) f
theorem or_4_2 (h : xH) (a : Nat) (S : gS) {α : Type} (i : Int32) (f : Value → Option α) : xrd (oh 4 h a S) (a + 9) i 0 1 f = if bIn i 700 = true then f (.int (sA S 2 i.toNatClampNeg)) else none := o_rd (o := 9) (k := 2) (by decide) rfl i (Or.inl rfl) f
theorem ow_4_2 (h : xH) (a : Nat) (S : gS) {α : Type} (i : Int32) (v : Int32) (f : xH → Option α) : xwr (oh 4 h a S) (a + 9) i 0 (.int v) f = if bIn i 700 = true then f (oh 4 h a (uA S 2 i.toNatClampNeg v)) else none := o_wr (o := 9) (k := 2) (by decide) rfl i rfl (.int v) f (o_setA (o := 9) (k := 2) (by decide) (by decide) (by decide) rfl (by decide) _ v)
theorem og_4_3 (h : xH) (a : Nat) (S : gS) {α : Type} (f : Value → Option α) : xgf (oh 4 h a S) a 4 3 f = f (.ref (a + 10)) := o_gf h a S (by decide) f
theorem or_4_3 (h : xH) (a : Nat) (S : gS) {α : Type} (i : Int32) (f : Value → Option α) : xrd (oh 4 h a S) (a + 10) i 0 1 f = if bIn i 700 = true then f (.int (sA S 3 i.toNatClampNeg)) else none := o_rd (o := 10) (k := 3) (by decide) rfl i (Or.inl rfl) f
theorem ow_4_3 (h : xH) (a : Nat) (S : gS) {α : Type} (i : Int32) (v : Int32) (f : xH → Option α) : xwr (oh 4 h a S) (a + 10) i 0 (.int v) f = if bIn i 700 = true then f (oh 4 h a (uA S 3 i.toNatClampNeg v)) else none := o_wr (o := 10) (k := 3) (by decide) rfl i rfl (.int v) f (o_setA (o := 10) (k := 3) (by decide) (by decide) (by decide) rfl (by decide) _ v)
theorem og_4_4 (h : xH) (a : Nat) (S : gS) {α : Type} (f : Value → Option α) : xgf (oh 4 h a S) a 4 4 f = f (.int (sI S 4)) := o_gf h a S (by decide) f
theorem op_4_4 (h : xH) (a : Nat) (S : gS) (v : Int32) : xput (oh 4 h a S) a (.inr (4, (ofs 4 a S).set 4 (.int v))) = oh 4 h a (uI S 4 v) := o_putI h a S v (by decide)
theorem og_4_5 (h : xH) (a : Nat) (S : gS) {α : Type} (f : Value → Option α) : xgf (oh 4 h a S) a 4 5 f = f (sR S 5) := o_gf h a S (by decide) f
theorem op_4_5 (h : xH) (a : Nat) (S : gS) (v : Value) : xput (oh 4 h a S) a (.inr (4, (ofs 4 a S).set 5 v)) = oh 4 h a (uR S 5 v) := o_putR h a S v (by decide)
theorem og_4_6 (h : xH) (a : Nat) (S : gS) {α : Type} (f : Value → Option α) : xgf (oh 4 h a S) a 4 6 f = f (sR S 6) := o_gf h a S (by decide) f
theorem op_4_6 (h : xH) (a : Nat) (S : gS) (v : Value) : xput (oh 4 h a S) a (.inr (4, (ofs 4 a S).set 6 v)) = oh 4 h a (uR S 6 v) := o_putR h a S v (by decide)
theorem og_4_7 (h : xH) (a : Nat) (S : gS) {α : Type} (f : Value → Option α) : xgf (oh 4 h a S) a 4 7 f = f (sR S 7) := o_gf h a S (by decide) f
theorem op_4_7 (h : xH) (a : Nat) (S : gS) (v : Value) : xput (oh 4 h a S) a (.inr (4, (ofs 4 a S).set 7 v)) = oh 4 h a (uR S 7 v) := o_putR h a S v (by decide)
theorem og_4_8 (h : xH) (a : Nat) (S : gS) {α : Type} (f : Value → Option α) : xgf (oh 4 h a S) a 4 8 f = f (.int (sI S 8)) := o_gf h a S (by decide) f
theorem op_4_8 (h : xH) (a : Nat) (S : gS) (v : Int32) : xput (oh 4 h a S) a (.inr (4, (ofs 4 a S).set 8 (.int v))) = oh 4 h a (uI S 8 v) := o_putI h a S v (by decide)
theorem og_4_9 (h : xH) (a : Nat) (S : gS) {α : Type} (f : Value → Option α) : xgf (oh 4 h a S) a 4 9 f = f (sR S 9) := o_gf h a S (by decide) f
theorem op_4_9 (h : xH) (a : Nat) (S : gS) (v : Value) : xput (oh 4 h a S) a (.inr (4, (ofs 4 a S).set 9 v)) = oh 4 h a (uR S 9 v) := o_putR h a S v (by decide)
theorem og_4_10 (h : xH) (a : Nat) (S : gS) {α : Type} (f : Value → Option α) : xgf (oh 4 h a S) a 4 10 f = f (sR S 10) := o_gf h a S (by decide) f
theorem op_4_10 (h : xH) (a : Nat) (S : gS) (v : Value) : xput (oh 4 h a S) a (.inr (4, (ofs 4 a S).set 10 v)) = oh 4 h a (uR S 10 v) := o_putR h a S v (by decide)
theorem og_4_11 (h : xH) (a : Nat) (S : gS) {α : Type} (f : Value → Option α) : xgf (oh 4 h a S) a 4 11 f = f (sR S 11) := o_gf h a S (by decide) f
theorem op_4_11 (h : xH) (a : Nat) (S : gS) (v : Value) : xput (oh 4 h a S) a (.inr (4, (ofs 4 a S).set 11 v)) = oh 4 h a (uR S 11 v) := o_putR h a S v (by decide)
theorem og_4_12 (h : xH) (a : Nat) (S : gS) {α : Type} (f : Value → Option α) : xgf (oh 4 h a S) a 4 12 f = f (.int (sI S 12)) := o_gf h a S (by decide) f
theorem op_4_12 (h : xH) (a : Nat) (S : gS) (v : Int32) : xput (oh 4 h a S) a (.inr (4, (ofs 4 a S).set 12 (.int v))) = oh 4 h a (uI S 12 v) := o_putI h a S v (by decide)
theorem og_4_13 (h : xH) (a : Nat) (S : gS) {α : Type} (f : Value → Option α) : xgf (oh 4 h a S) a 4 13 f = f (.int (sI S 13)) := o_gf h a S (by decide) f
theorem op_4_13 (h : xH) (a : Nat) (S : gS) (v : Int32) : xput (oh 4 h a S) a (.inr (4, (ofs 4 a S).set 13 (.int v))) = oh 4 h a (uI S 13 v) := o_putI h a S v (by decide)
theorem og_4_14 (h : xH) (a : Nat) (S : gS) {α : Type} (f : Value → Option α) : xgf (oh 4 h a S) a 4 14 f = f (.int (sI S 14)) := o_gf h a S (by decide) f
theorem op_4_14 (h : xH) (a : Nat) (S : gS) (v : Int32) : xput (oh 4 h a S) a (.inr (4, (ofs 4 a S).set 14 (.int v))) = oh 4 h a (uI S 14 v) := o_putI h a S v (by decide)
theorem og_4_15 (h : xH) (a : Nat) (S : gS) {α : Type} (f : Value → Option α) : xgf (oh 4 h a S) a 4 15 f = f (.int (sI S 15)) := o_gf h a S (by decide) f
theorem op_4_15 (h : xH) (a : Nat) (S : gS) (v : Int32) : xput (oh 4 h a S) a (.inr (4, (ofs 4 a S).set 15 (.int v))) = oh 4 h a (uI S 15 v) := o_putI h a S v (by decide)
theorem ofs_len5 (a : Nat) (S : gS) : (ofs 5 a S).length = 4 := ofs_len 5 a S
theorem og_5_0 (h : xH) (a : Nat) (S : gS) {α : Type} (f : Value → Option α) : xgf (oh 5 h a S) a 5 0 f = f (.ref (a + 1)) := o_gf h a S (by decide) f
theorem or_5_0 (h : xH) (a : Nat) (S : gS) {α : Type} (i : Int32) (f : Value → Option α) : xrd (oh 5 h a S) (a + 1) i 2 2 f = if bIn i 48 = true then f (.long (sL S 0 i.toNatClampNeg)) else none := o_rd (o := 1) (k := 0) (by decide) rfl i (Or.inl rfl) f
theorem ow_5_0 (h : xH) (a : Nat) (S : gS) {α : Type} (i : Int32) (v : Int64) (f : xH → Option α) : xwr (oh 5 h a S) (a + 1) i 2 (.long v) f = if bIn i 48 = true then f (oh 5 h a (uL S 0 i.toNatClampNeg v)) else none := o_wr (o := 1) (k := 0) (by decide) rfl i rfl (.long v) f (o_setL (o := 1) (k := 0) (by decide) (by decide) (by decide) rfl rfl _ v)
theorem og_5_1 (h : xH) (a : Nat) (S : gS) {α : Type} (f : Value → Option α) : xgf (oh 5 h a S) a 5 1 f = f (.int (sI S 1)) := o_gf h a S (by decide) f
theorem op_5_1 (h : xH) (a : Nat) (S : gS) (v : Int32) : xput (oh 5 h a S) a (.inr (5, (ofs 5 a S).set 1 (.int v))) = oh 5 h a (uI S 1 v) := o_putI h a S v (by decide)
theorem og_5_2 (h : xH) (a : Nat) (S : gS) {α : Type} (f : Value → Option α) : xgf (oh 5 h a S) a 5 2 f = f (.int (sI S 2)) := o_gf h a S (by decide) f
theorem op_5_2 (h : xH) (a : Nat) (S : gS) (v : Int32) : xput (oh 5 h a S) a (.inr (5, (ofs 5 a S).set 2 (.int v))) = oh 5 h a (uI S 2 v) := o_putI h a S v (by decide)
theorem og_5_3 (h : xH) (a : Nat) (S : gS) {α : Type} (f : Value → Option α) : xgf (oh 5 h a S) a 5 3 f = f (.long (sJ S 3)) := o_gf h a S (by decide) f
theorem op_5_3 (h : xH) (a : Nat) (S : gS) (v : Int64) : xput (oh 5 h a S) a (.inr (5, (ofs 5 a S).set 3 (.long v))) = oh 5 h a (uJ S 3 v) := o_putJ h a S v (by decide)
theorem ofs_len6 (a : Nat) (S : gS) : (ofs 6 a S).length = 13 := ofs_len 6 a S
theorem og_6_0 (h : xH) (a : Nat) (S : gS) {α : Type} (f : Value → Option α) : xgf (oh 6 h a S) a 6 0 f = f (sR S 0) := o_gf h a S (by decide) f
theorem op_6_0 (h : xH) (a : Nat) (S : gS) (v : Value) : xput (oh 6 h a S) a (.inr (6, (ofs 6 a S).set 0 v)) = oh 6 h a (uR S 0 v) := o_putR h a S v (by decide)
theorem og_6_1 (h : xH) (a : Nat) (S : gS) {α : Type} (f : Value → Option α) : xgf (oh 6 h a S) a 6 1 f = f (.int (sI S 1)) := o_gf h a S (by decide) f
theorem op_6_1 (h : xH) (a : Nat) (S : gS) (v : Int32) : xput (oh 6 h a S) a (.inr (6, (ofs 6 a S).set 1 (.int v))) = oh 6 h a (uI S 1 v) := o_putI h a S v (by decide)
theorem og_6_2 (h : xH) (a : Nat) (S : gS) {α : Type} (f : Value → Option α) : xgf (oh 6 h a S) a 6 2 f = f (.int (sI S 2)) := o_gf h a S (by decide) f
theorem op_6_2 (h : xH) (a : Nat) (S : gS) (v : Int32) : xput (oh 6 h a S) a (.inr (6, (ofs 6 a S).set 2 (.int v))) = oh 6 h a (uI S 2 v) := o_putI h a S v (by decide)
theorem og_6_3 (h : xH) (a : Nat) (S : gS) {α : Type} (f : Value → Option α) : xgf (oh 6 h a S) a 6 3 f = f (.int (sI S 3)) := o_gf h a S (by decide) f
theorem op_6_3 (h : xH) (a : Nat) (S : gS) (v : Int32) : xput (oh 6 h a S) a (.inr (6, (ofs 6 a S).set 3 (.int v))) = oh 6 h a (uI S 3 v) := o_putI h a S v (by decide)
theorem og_6_4 (h : xH) (a : Nat) (S : gS) {α : Type} (f : Value → Option α) : xgf (oh 6 h a S) a 6 4 f = f (.int (sI S 4)) := o_gf h a S (by decide) f
theorem op_6_4 (h : xH) (a : Nat) (S : gS) (v : Int32) : xput (oh 6 h a S) a (.inr (6, (ofs 6 a S).set 4 (.int v))) = oh 6 h a (uI S 4 v) := o_putI h a S v (by decide)
theorem og_6_5 (h : xH) (a : Nat) (S : gS) {α : Type} (f : Value → Option α) : xgf (oh 6 h a S) a 6 5 f = f (.long (sJ S 5)) := o_gf h a S (by decide) f
theorem op_6_5 (h : xH) (a : Nat) (S : gS) (v : Int64) : xput (oh 6 h a S) a (.inr (6, (ofs 6 a S).set 5 (.long v))) = oh 6 h a (uJ S 5 v) := o_putJ h a S v (by decide)
theorem og_6_6 (h : xH) (a : Nat) (S : gS) {α : Type} (f : Value → Option α) : xgf (oh 6 h a S) a 6 6 f = f (.long (sJ S 6)) := o_gf h a S (by decide) f
theorem op_6_6 (h : xH) (a : Nat) (S : gS) (v : Int64) : xput (oh 6 h a S) a (.inr (6, (ofs 6 a S).set 6 (.long v))) = oh 6 h a (uJ S 6 v) := o_putJ h a S v (by decide)
theorem og_6_7 (h : xH) (a : Nat) (S : gS) {α : Type} (f : Value → Option α) : xgf (oh 6 h a S) a 6 7 f = f (.int (sI S 7)) := o_gf h a S (by decide) f
theorem op_6_7 (h : xH) (a : Nat) (S : gS) (v : Int32) : xput (oh 6 h a S) a (.inr (6, (ofs 6 a S).set 7 (.int v))) = oh 6 h a (uI S 7 v) := o_putI h a S v (by decide)
theorem og_6_8 (h : xH) (a : Nat) (S : gS) {α : Type} (f : Value → Option α) : xgf (oh 6 h a S) a 6 8 f = f (.int (sI S 8)) := o_gf h a S (by decide) f
theorem op_6_8 (h : xH) (a : Nat) (S : gS) (v : Int32) : xput (oh 6 h a S) a (.inr (6, (ofs 6 a S).set 8 (.int v))) = oh 6 h a (uI S 8 v) := o_putI h a S v (by decide)
theorem og_6_9 (h : xH) (a : Nat) (S : gS) {α : Type} (f : Value → Option α) : xgf (oh 6 h a S) a 6 9 f = f (.int (sI S 9)) := o_gf h a S (by decide) f
theorem op_6_9 (h : xH) (a : Nat) (S : gS) (v : Int32) : xput (oh 6 h a S) a (.inr (6, (ofs 6 a S).set 9 (.int v))) = oh 6 h a (uI S 9 v) := o_putI h a S v (by decide)
theorem og_6_10 (h : xH) (a : Nat) (S : gS) {α : Type} (f : Value → Option α) : xgf (oh 6 h a S) a 6 10 f = f (.int (sI S 10)) := o_gf h a S (by decide) f
theorem op_6_10 (h : xH) (a : Nat) (S : gS) (v : Int32) : xput (oh 6 h a S) a (.inr (6, (ofs 6 a S).set 10 (.int v))) = oh 6 h a (uI S 10 v) := o_putI h a S v (by decide)
theorem og_6_11 (h : xH) (a : Nat) (S : gS) {α : Type} (f : Value → Option α) : xgf (oh 6 h a S) a 6 11 f = f (.int (sI S 11)) := o_gf h a S (by decide) f
theorem op_6_11 (h : xH) (a : Nat) (S : gS) (v : Int32) : xput (oh 6 h a S) a (.inr (6, (ofs 6 a S).set 11 (.int v))) = oh 6 h a (uI S 11 v) := o_putI h a S v (by decide)
theorem og_6_12 (h : xH) (a : Nat) (S : gS) {α : Type} (f : Value → Option α) : xgf (oh 6 h a S) a 6 12 f = f (.int (sI S 12)) := o_gf h a S (by decide) f
theorem op_6_12 (h : xH) (a : Nat) (S : gS) (v : Int32) : xput (oh 6 h a S) a (.inr (6, (ofs 6 a S).set 12 (.int v))) = oh 6 h a (uI S 12 v) := o_putI h a S v (by decide)
theorem ofs_len7 (a : Nat) (S : gS) : (ofs 7 a S).length = 3 := ofs_len 7 a S
theorem og_7_0 (h : xH) (a : Nat) (S : gS) {α : Type} (f : Value → Option α) : xgf (oh 7 h a S) a 7 0 f = f (.ref (a + 1)) := o_gf h a S (by decide) f
theorem or_7_0 (h : xH) (a : Nat) (S : gS) {α : Type} (i : Int32) (f : Value → Option α) : xrq (oh 7 h a S) (a + 1) i f = if bIn i 60 = true then f (sQ S 0 i.toNatClampNeg) else none := o_rq (o := 1) (k := 0) (by decide) rfl i (by decide) f
theorem ow_7_0 (h : xH) (a : Nat) (S : gS) {α : Type} (i : Int32) (v : Nat) (f : xH → Option α) : xwq (oh 7 h a S) (a + 1) i (.ref v) f = if bIn i 60 = true then xis (oh 7 h a S) v 9 (f (oh 7 h a (uQ S 0 i.toNatClampNeg (.ref v)))) else none := o_wqR (o := 1) (k := 0) (by decide) (by decide) (by decide) rfl i (by decide) v f
theorem on_7_0 (h : xH) (a : Nat) (S : gS) {α : Type} (i : Int32) (f : xH → Option α) : xwq (oh 7 h a S) (a + 1) i .null f = if bIn i 60 = true then f (oh 7 h a (uQ S 0 i.toNatClampNeg .null)) else none := o_wqN (o := 1) (k := 0) (by decide) (by decide) (by decide) rfl i (by decide) f
theorem og_7_1 (h : xH) (a : Nat) (S : gS) {α : Type} (f : Value → Option α) : xgf (oh 7 h a S) a 7 1 f = f (.int (sI S 1)) := o_gf h a S (by decide) f
theorem op_7_1 (h : xH) (a : Nat) (S : gS) (v : Int32) : xput (oh 7 h a S) a (.inr (7, (ofs 7 a S).set 1 (.int v))) = oh 7 h a (uI S 1 v) := o_putI h a S v (by decide)
theorem og_7_2 (h : xH) (a : Nat) (S : gS) {α : Type} (f : Value → Option α) : xgf (oh 7 h a S) a 7 2 f = f (.int (sI S 2)) := o_gf h a S (by decide) f
theorem op_7_2 (h : xH) (a : Nat) (S : gS) (v : Int32) : xput (oh 7 h a S) a (.inr (7, (ofs 7 a S).set 2 (.int v))) = oh 7 h a (uI S 2 v) := o_putI h a S v (by decide)
theorem ofs_len8 (a : Nat) (S : gS) : (ofs 8 a S).length = 11 := ofs_len 8 a S
theorem og_8_0 (h : xH) (a : Nat) (S : gS) {α : Type} (f : Value → Option α) : xgf (oh 8 h a S) a 8 0 f = f (.ref (a + 1)) := o_gf h a S (by decide) f
theorem or_8_0 (h : xH) (a : Nat) (S : gS) {α : Type} (i : Int32) (f : Value → Option α) : xrq (oh 8 h a S) (a + 1) i f = if bIn i 8 = true then f (sQ S 0 i.toNatClampNeg) else none := o_rq (o := 1) (k := 0) (by decide) rfl i (by decide) f
theorem ow_8_0 (h : xH) (a : Nat) (S : gS) {α : Type} (i : Int32) (v : Nat) (f : xH → Option α) : xwq (oh 8 h a S) (a + 1) i (.ref v) f = if bIn i 8 = true then xis (oh 8 h a S) v 2 (f (oh 8 h a (uQ S 0 i.toNatClampNeg (.ref v)))) else none := o_wqR (o := 1) (k := 0) (by decide) (by decide) (by decide) rfl i (by decide) v f
theorem on_8_0 (h : xH) (a : Nat) (S : gS) {α : Type} (i : Int32) (f : xH → Option α) : xwq (oh 8 h a S) (a + 1) i .null f = if bIn i 8 = true then f (oh 8 h a (uQ S 0 i.toNatClampNeg .null)) else none := o_wqN (o := 1) (k := 0) (by decide) (by decide) (by decide) rfl i (by decide) f
theorem og_8_1 (h : xH) (a : Nat) (S : gS) {α : Type} (f : Value → Option α) : xgf (oh 8 h a S) a 8 1 f = f (.ref (a + 2)) := o_gf h a S (by decide) f
theorem or_8_1 (h : xH) (a : Nat) (S : gS) {α : Type} (i : Int32) (f : Value → Option α) : xrq (oh 8 h a S) (a + 2) i f = if bIn i 64 = true then f (sQ S 1 i.toNatClampNeg) else none := o_rq (o := 2) (k := 1) (by decide) rfl i (by decide) f
theorem ow_8_1 (h : xH) (a : Nat) (S : gS) {α : Type} (i : Int32) (v : Nat) (f : xH → Option α) : xwq (oh 8 h a S) (a + 2) i (.ref v) f = if bIn i 64 = true then xis (oh 8 h a S) v 10 (f (oh 8 h a (uQ S 1 i.toNatClampNeg (.ref v)))) else none := o_wqR (o := 2) (k := 1) (by decide) (by decide) (by decide) rfl i (by decide) v f
theorem on_8_1 (h : xH) (a : Nat) (S : gS) {α : Type} (i : Int32) (f : xH → Option α) : xwq (oh 8 h a S) (a + 2) i .null f = if bIn i 64 = true then f (oh 8 h a (uQ S 1 i.toNatClampNeg .null)) else none := o_wqN (o := 2) (k := 1) (by decide) (by decide) (by decide) rfl i (by decide) f
theorem og_8_2 (h : xH) (a : Nat) (S : gS) {α : Type} (f : Value → Option α) : xgf (oh 8 h a S) a 8 2 f = f (.ref (a + 3)) := o_gf h a S (by decide) f
theorem or_8_2 (h : xH) (a : Nat) (S : gS) {α : Type} (i : Int32) (f : Value → Option α) : xrd (oh 8 h a S) (a + 3) i 3 4 f = if bIn i 700 = true then f (.int (sA S 2 i.toNatClampNeg)) else none := o_rd (o := 3) (k := 2) (by decide) rfl i (Or.inl rfl) f
theorem ow_8_2 (h : xH) (a : Nat) (S : gS) {α : Type} (i : Int32) (v : Int32) (f : xH → Option α) : xwb (oh 8 h a S) (a + 3) i v f = if bIn i 700 = true then f (oh 8 h a (uA S 2 i.toNatClampNeg v.toInt8.toInt32)) else none := o_wB (o := 3) (k := 2) (by decide) (by decide) (by decide) rfl i v rfl f
theorem og_8_3 (h : xH) (a : Nat) (S : gS) {α : Type} (f : Value → Option α) : xgf (oh 8 h a S) a 8 3 f = f (sR S 3) := o_gf h a S (by decide) f
theorem op_8_3 (h : xH) (a : Nat) (S : gS) (v : Value) : xput (oh 8 h a S) a (.inr (8, (ofs 8 a S).set 3 v)) = oh 8 h a (uR S 3 v) := o_putR h a S v (by decide)
theorem og_8_4 (h : xH) (a : Nat) (S : gS) {α : Type} (f : Value → Option α) : xgf (oh 8 h a S) a 8 4 f = f (sR S 4) := o_gf h a S (by decide) f
theorem op_8_4 (h : xH) (a : Nat) (S : gS) (v : Value) : xput (oh 8 h a S) a (.inr (8, (ofs 8 a S).set 4 v)) = oh 8 h a (uR S 4 v) := o_putR h a S v (by decide)
theorem og_8_5 (h : xH) (a : Nat) (S : gS) {α : Type} (f : Value → Option α) : xgf (oh 8 h a S) a 8 5 f = f (sR S 5) := o_gf h a S (by decide) f
theorem op_8_5 (h : xH) (a : Nat) (S : gS) (v : Value) : xput (oh 8 h a S) a (.inr (8, (ofs 8 a S).set 5 v)) = oh 8 h a (uR S 5 v) := o_putR h a S v (by decide)
theorem og_8_6 (h : xH) (a : Nat) (S : gS) {α : Type} (f : Value → Option α) : xgf (oh 8 h a S) a 8 6 f = f (sR S 6) := o_gf h a S (by decide) f
theorem op_8_6 (h : xH) (a : Nat) (S : gS) (v : Value) : xput (oh 8 h a S) a (.inr (8, (ofs 8 a S).set 6 v)) = oh 8 h a (uR S 6 v) := o_putR h a S v (by decide)
theorem og_8_7 (h : xH) (a : Nat) (S : gS) {α : Type} (f : Value → Option α) : xgf (oh 8 h a S) a 8 7 f = f (sR S 7) := o_gf h a S (by decide) f
theorem op_8_7 (h : xH) (a : Nat) (S : gS) (v : Value) : xput (oh 8 h a S) a (.inr (8, (ofs 8 a S).set 7 v)) = oh 8 h a (uR S 7 v) := o_putR h a S v (by decide)
theorem og_8_8 (h : xH) (a : Nat) (S : gS) {α : Type} (f : Value → Option α) : xgf (oh 8 h a S) a 8 8 f = f (.int (sI S 8)) := o_gf h a S (by decide) f
theorem op_8_8 (h : xH) (a : Nat) (S : gS) (v : Int32) : xput (oh 8 h a S) a (.inr (8, (ofs 8 a S).set 8 (.int v))) = oh 8 h a (uI S 8 v) := o_putI h a S v (by decide)
theorem og_8_9 (h : xH) (a : Nat) (S : gS) {α : Type} (f : Value → Option α) : xgf (oh 8 h a S) a 8 9 f = f (.int (sI S 9)) := o_gf h a S (by decide) f
theorem op_8_9 (h : xH) (a : Nat) (S : gS) (v : Int32) : xput (oh 8 h a S) a (.inr (8, (ofs 8 a S).set 9 (.int v))) = oh 8 h a (uI S 9 v) := o_putI h a S v (by decide)
theorem og_8_10 (h : xH) (a : Nat) (S : gS) {α : Type} (f : Value → Option α) : xgf (oh 8 h a S) a 8 10 f = f (.int (sI S 10)) := o_gf h a S (by decide) f
theorem op_8_10 (h : xH) (a : Nat) (S : gS) (v : Int32) : xput (oh 8 h a S) a (.inr (8, (ofs 8 a S).set 10 (.int v))) = oh 8 h a (uI S 10 v) := o_putI h a S v (by decide)
theorem ofs_len9 (a : Nat) (S : gS) : (ofs 9 a S).length = 6 := ofs_len 9 a S
theorem og_9_0 (h : xH) (a : Nat) (S : gS) {α : Type} (f : Value → Option α) : xgf (oh 9 h a S) a 9 0 f = f (.ref (a + 1)) := o_gf h a S (by decide) f
theorem or_9_0 (h : xH) (a : Nat) (S : gS) {α : Type} (i : Int32) (f : Value → Option α) : xrd (oh 9 h a S) (a + 1) i 0 1 f = if bIn i 8 = true then f (.int (sA S 0 i.toNatClampNeg)) else none := o_rd (o := 1) (k := 0) (by decide) rfl i (Or.inl rfl) f
theorem ow_9_0 (h : xH) (a : Nat) (S : gS) {α : Type} (i : Int32) (v : Int32) (f : xH → Option α) : xwr (oh 9 h a S) (a + 1) i 0 (.int v) f = if bIn i 8 = true then f (oh 9 h a (uA S 0 i.toNatClampNeg v)) else none := o_wr (o := 1) (k := 0) (by decide) rfl i rfl (.int v) f (o_setA (o := 1) (k := 0) (by decide) (by decide) (by decide) rfl (by decide) _ v)
theorem og_9_1 (h : xH) (a : Nat) (S : gS) {α : Type} (f : Value → Option α) : xgf (oh 9 h a S) a 9 1 f = f (.ref (a + 2)) := o_gf h a S (by decide) f
theorem or_9_1 (h : xH) (a : Nat) (S : gS) {α : Type} (i : Int32) (f : Value → Option α) : xrd (oh 9 h a S) (a + 2) i 2 2 f = if bIn i 64 = true then f (.long (sL S 1 i.toNatClampNeg)) else none := o_rd (o := 2) (k := 1) (by decide) rfl i (Or.inl rfl) f
theorem ow_9_1 (h : xH) (a : Nat) (S : gS) {α : Type} (i : Int32) (v : Int64) (f : xH → Option α) : xwr (oh 9 h a S) (a + 2) i 2 (.long v) f = if bIn i 64 = true then f (oh 9 h a (uL S 1 i.toNatClampNeg v)) else none := o_wr (o := 2) (k := 1) (by decide) rfl i rfl (.long v) f (o_setL (o := 2) (k := 1) (by decide) (by decide) (by decide) rfl rfl _ v)
theorem og_9_2 (h : xH) (a : Nat) (S : gS) {α : Type} (f : Value → Option α) : xgf (oh 9 h a S) a 9 2 f = f (.long (sJ S 2)) := o_gf h a S (by decide) f
theorem op_9_2 (h : xH) (a : Nat) (S : gS) (v : Int64) : xput (oh 9 h a S) a (.inr (9, (ofs 9 a S).set 2 (.long v))) = oh 9 h a (uJ S 2 v) := o_putJ h a S v (by decide)
theorem og_9_3 (h : xH) (a : Nat) (S : gS) {α : Type} (f : Value → Option α) : xgf (oh 9 h a S) a 9 3 f = f (.long (sJ S 3)) := o_gf h a S (by decide) f
theorem op_9_3 (h : xH) (a : Nat) (S : gS) (v : Int64) : xput (oh 9 h a S) a (.inr (9, (ofs 9 a S).set 3 (.long v))) = oh 9 h a (uJ S 3 v) := o_putJ h a S v (by decide)
theorem og_9_4 (h : xH) (a : Nat) (S : gS) {α : Type} (f : Value → Option α) : xgf (oh 9 h a S) a 9 4 f = f (.int (sI S 4)) := o_gf h a S (by decide) f
theorem op_9_4 (h : xH) (a : Nat) (S : gS) (v : Int32) : xput (oh 9 h a S) a (.inr (9, (ofs 9 a S).set 4 (.int v))) = oh 9 h a (uI S 4 v) := o_putI h a S v (by decide)
theorem og_9_5 (h : xH) (a : Nat) (S : gS) {α : Type} (f : Value → Option α) : xgf (oh 9 h a S) a 9 5 f = f (sR S 5) := o_gf h a S (by decide) f
theorem op_9_5 (h : xH) (a : Nat) (S : gS) (v : Value) : xput (oh 9 h a S) a (.inr (9, (ofs 9 a S).set 5 v)) = oh 9 h a (uR S 5 v) := o_putR h a S v (by decide)
theorem ofs_len10 (a : Nat) (S : gS) : (ofs 10 a S).length = 5 := ofs_len 10 a S
theorem og_10_0 (h : xH) (a : Nat) (S : gS) {α : Type} (f : Value → Option α) : xgf (oh 10 h a S) a 10 0 f = f (sR S 0) := o_gf h a S (by decide) f
theorem op_10_0 (h : xH) (a : Nat) (S : gS) (v : Value) : xput (oh 10 h a S) a (.inr (10, (ofs 10 a S).set 0 v)) = oh 10 h a (uR S 0 v) := o_putR h a S v (by decide)
theorem og_10_1 (h : xH) (a : Nat) (S : gS) {α : Type} (f : Value → Option α) : xgf (oh 10 h a S) a 10 1 f = f (sR S 1) := o_gf h a S (by decide) f
theorem op_10_1 (h : xH) (a : Nat) (S : gS) (v : Value) : xput (oh 10 h a S) a (.inr (10, (ofs 10 a S).set 1 v)) = oh 10 h a (uR S 1 v) := o_putR h a S v (by decide)
theorem og_10_2 (h : xH) (a : Nat) (S : gS) {α : Type} (f : Value → Option α) : xgf (oh 10 h a S) a 10 2 f = f (sR S 2) := o_gf h a S (by decide) f
theorem op_10_2 (h : xH) (a : Nat) (S : gS) (v : Value) : xput (oh 10 h a S) a (.inr (10, (ofs 10 a S).set 2 v)) = oh 10 h a (uR S 2 v) := o_putR h a S v (by decide)
theorem og_10_3 (h : xH) (a : Nat) (S : gS) {α : Type} (f : Value → Option α) : xgf (oh 10 h a S) a 10 3 f = f (sR S 3) := o_gf h a S (by decide) f
theorem op_10_3 (h : xH) (a : Nat) (S : gS) (v : Value) : xput (oh 10 h a S) a (.inr (10, (ofs 10 a S).set 3 v)) = oh 10 h a (uR S 3 v) := o_putR h a S v (by decide)
theorem og_10_4 (h : xH) (a : Nat) (S : gS) {α : Type} (f : Value → Option α) : xgf (oh 10 h a S) a 10 4 f = f (.int (sI S 4)) := o_gf h a S (by decide) f
theorem op_10_4 (h : xH) (a : Nat) (S : gS) (v : Int32) : xput (oh 10 h a S) a (.inr (10, (ofs 10 a S).set 4 (.int v))) = oh 10 h a (uI S 4 v) := o_putI h a S v (by decide)
theorem ofs_len11 (a : Nat) (S : gS) : (ofs 11 a S).length = 65 := ofs_len 11 a S
theorem og_11_0 (h : xH) (a : Nat) (S : gS) {α : Type} (f : Value → Option α) : xgf (oh 11 h a S) a 11 0 f = f (.ref (a + 1)) := o_gf h a S (by decide) f
theorem or_11_0 (h : xH) (a : Nat) (S : gS) {α : Type} (i : Int32) (f : Value → Option α) : xrd (oh 11 h a S) (a + 1) i 0 1 f = if bIn i 8 = true then f (.int (sA S 0 i.toNatClampNeg)) else none := o_rd (o := 1) (k := 0) (by decide) rfl i (Or.inl rfl) f
theorem ow_11_0 (h : xH) (a : Nat) (S : gS) {α : Type} (i : Int32) (v : Int32) (f : xH → Option α) : xwr (oh 11 h a S) (a + 1) i 0 (.int v) f = if bIn i 8 = true then f (oh 11 h a (uA S 0 i.toNatClampNeg v)) else none := o_wr (o := 1) (k := 0) (by decide) rfl i rfl (.int v) f (o_setA (o := 1) (k := 0) (by decide) (by decide) (by decide) rfl (by decide) _ v)
theorem og_11_1 (h : xH) (a : Nat) (S : gS) {α : Type} (f : Value → Option α) : xgf (oh 11 h a S) a 11 1 f = f (.ref (a + 2)) := o_gf h a S (by decide) f
theorem or_11_1 (h : xH) (a : Nat) (S : gS) {α : Type} (i : Int32) (f : Value → Option α) : xrd (oh 11 h a S) (a + 2) i 2 2 f = if bIn i 48 = true then f (.long (sL S 1 i.toNatClampNeg)) else none := o_rd (o := 2) (k := 1) (by decide) rfl i (Or.inl rfl) f
theorem ow_11_1 (h : xH) (a : Nat) (S : gS) {α : Type} (i : Int32) (v : Int64) (f : xH → Option α) : xwr (oh 11 h a S) (a + 2) i 2 (.long v) f = if bIn i 48 = true then f (oh 11 h a (uL S 1 i.toNatClampNeg v)) else none := o_wr (o := 2) (k := 1) (by decide) rfl i rfl (.long v) f (o_setL (o := 2) (k := 1) (by decide) (by decide) (by decide) rfl rfl _ v)
theorem og_11_2 (h : xH) (a : Nat) (S : gS) {α : Type} (f : Value → Option α) : xgf (oh 11 h a S) a 11 2 f = f (.ref (a + 3)) := o_gf h a S (by decide) f
theorem or_11_2 (h : xH) (a : Nat) (S : gS) {α : Type} (i : Int32) (f : Value → Option α) : xrd (oh 11 h a S) (a + 3) i 0 1 f = if bIn i 48 = true then f (.int (sA S 2 i.toNatClampNeg)) else none := o_rd (o := 3) (k := 2) (by decide) rfl i (Or.inl rfl) f
theorem ow_11_2 (h : xH) (a : Nat) (S : gS) {α : Type} (i : Int32) (v : Int32) (f : xH → Option α) : xwr (oh 11 h a S) (a + 3) i 0 (.int v) f = if bIn i 48 = true then f (oh 11 h a (uA S 2 i.toNatClampNeg v)) else none := o_wr (o := 3) (k := 2) (by decide) rfl i rfl (.int v) f (o_setA (o := 3) (k := 2) (by decide) (by decide) (by decide) rfl (by decide) _ v)
theorem og_11_3 (h : xH) (a : Nat) (S : gS) {α : Type} (f : Value → Option α) : xgf (oh 11 h a S) a 11 3 f = f (.ref (a + 4)) := o_gf h a S (by decide) f
theorem or_11_3 (h : xH) (a : Nat) (S : gS) {α : Type} (i : Int32) (f : Value → Option α) : xrd (oh 11 h a S) (a + 4) i 2 2 f = if bIn i 384 = true then f (.long (sL S 3 i.toNatClampNeg)) else none := o_rd (o := 4) (k := 3) (by decide) rfl i (Or.inl rfl) f
theorem ow_11_3 (h : xH) (a : Nat) (S : gS) {α : Type} (i : Int32) (v : Int64) (f : xH → Option α) : xwr (oh 11 h a S) (a + 4) i 2 (.long v) f = if bIn i 384 = true then f (oh 11 h a (uL S 3 i.toNatClampNeg v)) else none := o_wr (o := 4) (k := 3) (by decide) rfl i rfl (.long v) f (o_setL (o := 4) (k := 3) (by decide) (by decide) (by decide) rfl rfl _ v)
theorem og_11_4 (h : xH) (a : Nat) (S : gS) {α : Type} (f : Value → Option α) : xgf (oh 11 h a S) a 11 4 f = f (.ref (a + 5)) := o_gf h a S (by decide) f
theorem or_11_4 (h : xH) (a : Nat) (S : gS) {α : Type} (i : Int32) (f : Value → Option α) : xrd (oh 11 h a S) (a + 5) i 0 1 f = if bIn i 384 = true then f (.int (sA S 4 i.toNatClampNeg)) else none := o_rd (o := 5) (k := 4) (by decide) rfl i (Or.inl rfl) f
theorem ow_11_4 (h : xH) (a : Nat) (S : gS) {α : Type} (i : Int32) (v : Int32) (f : xH → Option α) : xwr (oh 11 h a S) (a + 5) i 0 (.int v) f = if bIn i 384 = true then f (oh 11 h a (uA S 4 i.toNatClampNeg v)) else none := o_wr (o := 5) (k := 4) (by decide) rfl i rfl (.int v) f (o_setA (o := 5) (k := 4) (by decide) (by decide) (by decide) rfl (by decide) _ v)
theorem og_11_5 (h : xH) (a : Nat) (S : gS) {α : Type} (f : Value → Option α) : xgf (oh 11 h a S) a 11 5 f = f (.ref (a + 6)) := o_gf h a S (by decide) f
theorem or_11_5 (h : xH) (a : Nat) (S : gS) {α : Type} (i : Int32) (f : Value → Option α) : xrd (oh 11 h a S) (a + 6) i 3 4 f = if bIn i 384 = true then f (.int (sA S 5 i.toNatClampNeg)) else none := o_rd (o := 6) (k := 5) (by decide) rfl i (Or.inr rfl) f
theorem ow_11_5 (h : xH) (a : Nat) (S : gS) {α : Type} (i : Int32) (v : Int32) (f : xH → Option α) : xwb (oh 11 h a S) (a + 6) i v f = if bIn i 384 = true then f (oh 11 h a (uA S 5 i.toNatClampNeg (v &&& 1))) else none := o_wz (o := 6) (k := 5) (by decide) (by decide) (by decide) rfl i v rfl f
theorem og_11_6 (h : xH) (a : Nat) (S : gS) {α : Type} (f : Value → Option α) : xgf (oh 11 h a S) a 11 6 f = f (.int (sI S 6)) := o_gf h a S (by decide) f
theorem op_11_6 (h : xH) (a : Nat) (S : gS) (v : Int32) : xput (oh 11 h a S) a (.inr (11, (ofs 11 a S).set 6 (.int v))) = oh 11 h a (uI S 6 v) := o_putI h a S v (by decide)
theorem og_11_7 (h : xH) (a : Nat) (S : gS) {α : Type} (f : Value → Option α) : xgf (oh 11 h a S) a 11 7 f = f (.ref (a + 7)) := o_gf h a S (by decide) f
theorem or_11_7 (h : xH) (a : Nat) (S : gS) {α : Type} (i : Int32) (f : Value → Option α) : xrd (oh 11 h a S) (a + 7) i 0 1 f = if bIn i 3 = true then f (.int (sA S 7 i.toNatClampNeg)) else none := o_rd (o := 7) (k := 7) (by decide) rfl i (Or.inl rfl) f
theorem ow_11_7 (h : xH) (a : Nat) (S : gS) {α : Type} (i : Int32) (v : Int32) (f : xH → Option α) : xwr (oh 11 h a S) (a + 7) i 0 (.int v) f = if bIn i 3 = true then f (oh 11 h a (uA S 7 i.toNatClampNeg v)) else none := o_wr (o := 7) (k := 7) (by decide) rfl i rfl (.int v) f (o_setA (o := 7) (k := 7) (by decide) (by decide) (by decide) rfl (by decide) _ v)
theorem og_11_8 (h : xH) (a : Nat) (S : gS) {α : Type} (f : Value → Option α) : xgf (oh 11 h a S) a 11 8 f = f (.ref (a + 8)) := o_gf h a S (by decide) f
theorem or_11_8 (h : xH) (a : Nat) (S : gS) {α : Type} (i : Int32) (f : Value → Option α) : xrd (oh 11 h a S) (a + 8) i 2 2 f = if bIn i 180 = true then f (.long (sL S 8 i.toNatClampNeg)) else none := o_rd (o := 8) (k := 8) (by decide) rfl i (Or.inl rfl) f
theorem ow_11_8 (h : xH) (a : Nat) (S : gS) {α : Type} (i : Int32) (v : Int64) (f : xH → Option α) : xwr (oh 11 h a S) (a + 8) i 2 (.long v) f = if bIn i 180 = true then f (oh 11 h a (uL S 8 i.toNatClampNeg v)) else none := o_wr (o := 8) (k := 8) (by decide) rfl i rfl (.long v) f (o_setL (o := 8) (k := 8) (by decide) (by decide) (by decide) rfl rfl _ v)
theorem og_11_9 (h : xH) (a : Nat) (S : gS) {α : Type} (f : Value → Option α) : xgf (oh 11 h a S) a 11 9 f = f (.ref (a + 9)) := o_gf h a S (by decide) f
theorem or_11_9 (h : xH) (a : Nat) (S : gS) {α : Type} (i : Int32) (f : Value → Option α) : xrd (oh 11 h a S) (a + 9) i 0 1 f = if bIn i 180 = true then f (.int (sA S 9 i.toNatClampNeg)) else none := o_rd (o := 9) (k := 9) (by decide) rfl i (Or.inl rfl) f
theorem ow_11_9 (h : xH) (a : Nat) (S : gS) {α : Type} (i : Int32) (v : Int32) (f : xH → Option α) : xwr (oh 11 h a S) (a + 9) i 0 (.int v) f = if bIn i 180 = true then f (oh 11 h a (uA S 9 i.toNatClampNeg v)) else none := o_wr (o := 9) (k := 9) (by decide) rfl i rfl (.int v) f (o_setA (o := 9) (k := 9) (by decide) (by decide) (by decide) rfl (by decide) _ v)
theorem og_11_10 (h : xH) (a : Nat) (S : gS) {α : Type} (f : Value → Option α) : xgf (oh 11 h a S) a 11 10 f = f (.ref (a + 10)) := o_gf h a S (by decide) f
theorem or_11_10 (h : xH) (a : Nat) (S : gS) {α : Type} (i : Int32) (f : Value → Option α) : xrd (oh 11 h a S) (a + 10) i 0 1 f = if bIn i 1440 = true then f (.int (sA S 10 i.toNatClampNeg)) else none := o_rd (o := 10) (k := 10) (by decide) rfl i (Or.inl rfl) f
theorem ow_11_10 (h : xH) (a : Nat) (S : gS) {α : Type} (i : Int32) (v : Int32) (f : xH → Option α) : xwr (oh 11 h a S) (a + 10) i 0 (.int v) f = if bIn i 1440 = true then f (oh 11 h a (uA S 10 i.toNatClampNeg v)) else none := o_wr (o := 10) (k := 10) (by decide) rfl i rfl (.int v) f (o_setA (o := 10) (k := 10) (by decide) (by decide) (by decide) rfl (by decide) _ v)
theorem og_11_11 (h : xH) (a : Nat) (S : gS) {α : Type} (f : Value → Option α) : xgf (oh 11 h a S) a 11 11 f = f (.ref (a + 11)) := o_gf h a S (by decide) f
theorem or_11_11 (h : xH) (a : Nat) (S : gS) {α : Type} (i : Int32) (f : Value → Option α) : xrd (oh 11 h a S) (a + 11) i 2 2 f = if bIn i 11520 = true then f (.long (sL S 11 i.toNatClampNeg)) else none := o_rd (o := 11) (k := 11) (by decide) rfl i (Or.inl rfl) f
theorem ow_11_11 (h : xH) (a : Nat) (S : gS) {α : Type} (i : Int32) (v : Int64) (f : xH → Option α) : xwr (oh 11 h a S) (a + 11) i 2 (.long v) f = if bIn i 11520 = true then f (oh 11 h a (uL S 11 i.toNatClampNeg v)) else none := o_wr (o := 11) (k := 11) (by decide) rfl i rfl (.long v) f (o_setL (o := 11) (k := 11) (by decide) (by decide) (by decide) rfl rfl _ v)
theorem og_11_12 (h : xH) (a : Nat) (S : gS) {α : Type} (f : Value → Option α) : xgf (oh 11 h a S) a 11 12 f = f (.ref (a + 12)) := o_gf h a S (by decide) f
theorem or_11_12 (h : xH) (a : Nat) (S : gS) {α : Type} (i : Int32) (f : Value → Option α) : xrd (oh 11 h a S) (a + 12) i 3 4 f = if bIn i 64 = true then f (.int (sA S 12 i.toNatClampNeg)) else none := o_rd (o := 12) (k := 12) (by decide) rfl i (Or.inr rfl) f
theorem ow_11_12 (h : xH) (a : Nat) (S : gS) {α : Type} (i : Int32) (v : Int32) (f : xH → Option α) : xwb (oh 11 h a S) (a + 12) i v f = if bIn i 64 = true then f (oh 11 h a (uA S 12 i.toNatClampNeg (v &&& 1))) else none := o_wz (o := 12) (k := 12) (by decide) (by decide) (by decide) rfl i v rfl f
theorem og_11_13 (h : xH) (a : Nat) (S : gS) {α : Type} (f : Value → Option α) : xgf (oh 11 h a S) a 11 13 f = f (.ref (a + 13)) := o_gf h a S (by decide) f
theorem or_11_13 (h : xH) (a : Nat) (S : gS) {α : Type} (i : Int32) (f : Value → Option α) : xrd (oh 11 h a S) (a + 13) i 0 1 f = if bIn i 64 = true then f (.int (sA S 13 i.toNatClampNeg)) else none := o_rd (o := 13) (k := 13) (by decide) rfl i (Or.inl rfl) f
theorem ow_11_13 (h : xH) (a : Nat) (S : gS) {α : Type} (i : Int32) (v : Int32) (f : xH → Option α) : xwr (oh 11 h a S) (a + 13) i 0 (.int v) f = if bIn i 64 = true then f (oh 11 h a (uA S 13 i.toNatClampNeg v)) else none := o_wr (o := 13) (k := 13) (by decide) rfl i rfl (.int v) f (o_setA (o := 13) (k := 13) (by decide) (by decide) (by decide) rfl (by decide) _ v)
theorem og_11_14 (h : xH) (a : Nat) (S : gS) {α : Type} (f : Value → Option α) : xgf (oh 11 h a S) a 11 14 f = f (.ref (a + 14)) := o_gf h a S (by decide) f
theorem or_11_14 (h : xH) (a : Nat) (S : gS) {α : Type} (i : Int32) (f : Value → Option α) : xrd (oh 11 h a S) (a + 14) i 0 1 f = if bIn i 44800 = true then f (.int (sA S 14 i.toNatClampNeg)) else none := o_rd (o := 14) (k := 14) (by decide) rfl i (Or.inl rfl) f
theorem ow_11_14 (h : xH) (a : Nat) (S : gS) {α : Type} (i : Int32) (v : Int32) (f : xH → Option α) : xwr (oh 11 h a S) (a + 14) i 0 (.int v) f = if bIn i 44800 = true then f (oh 11 h a (uA S 14 i.toNatClampNeg v)) else none := o_wr (o := 14) (k := 14) (by decide) rfl i rfl (.int v) f (o_setA (o := 14) (k := 14) (by decide) (by decide) (by decide) rfl (by decide) _ v)
theorem og_11_15 (h : xH) (a : Nat) (S : gS) {α : Type} (f : Value → Option α) : xgf (oh 11 h a S) a 11 15 f = f (.ref (a + 15)) := o_gf h a S (by decide) f
theorem or_11_15 (h : xH) (a : Nat) (S : gS) {α : Type} (i : Int32) (f : Value → Option α) : xrd (oh 11 h a S) (a + 15) i 0 1 f = if bIn i 700 = true then f (.int (sA S 15 i.toNatClampNeg)) else none := o_rd (o := 15) (k := 15) (by decide) rfl i (Or.inl rfl) f
theorem ow_11_15 (h : xH) (a : Nat) (S : gS) {α : Type} (i : Int32) (v : Int32) (f : xH → Option α) : xwr (oh 11 h a S) (a + 15) i 0 (.int v) f = if bIn i 700 = true then f (oh 11 h a (uA S 15 i.toNatClampNeg v)) else none := o_wr (o := 15) (k := 15) (by decide) rfl i rfl (.int v) f (o_setA (o := 15) (k := 15) (by decide) (by decide) (by decide) rfl (by decide) _ v)
theorem og_11_16 (h : xH) (a : Nat) (S : gS) {α : Type} (f : Value → Option α) : xgf (oh 11 h a S) a 11 16 f = f (.int (sI S 16)) := o_gf h a S (by decide) f
theorem op_11_16 (h : xH) (a : Nat) (S : gS) (v : Int32) : xput (oh 11 h a S) a (.inr (11, (ofs 11 a S).set 16 (.int v))) = oh 11 h a (uI S 16 v) := o_putI h a S v (by decide)
theorem og_11_17 (h : xH) (a : Nat) (S : gS) {α : Type} (f : Value → Option α) : xgf (oh 11 h a S) a 11 17 f = f (.int (sI S 17)) := o_gf h a S (by decide) f
theorem op_11_17 (h : xH) (a : Nat) (S : gS) (v : Int32) : xput (oh 11 h a S) a (.inr (11, (ofs 11 a S).set 17 (.int v))) = oh 11 h a (uI S 17 v) := o_putI h a S v (by decide)
theorem og_11_18 (h : xH) (a : Nat) (S : gS) {α : Type} (f : Value → Option α) : xgf (oh 11 h a S) a 11 18 f = f (.int (sI S 18)) := o_gf h a S (by decide) f
theorem op_11_18 (h : xH) (a : Nat) (S : gS) (v : Int32) : xput (oh 11 h a S) a (.inr (11, (ofs 11 a S).set 18 (.int v))) = oh 11 h a (uI S 18 v) := o_putI h a S v (by decide)
theorem og_11_19 (h : xH) (a : Nat) (S : gS) {α : Type} (f : Value → Option α) : xgf (oh 11 h a S) a 11 19 f = f (.int (sI S 19)) := o_gf h a S (by decide) f
theorem op_11_19 (h : xH) (a : Nat) (S : gS) (v : Int32) : xput (oh 11 h a S) a (.inr (11, (ofs 11 a S).set 19 (.int v))) = oh 11 h a (uI S 19 v) := o_putI h a S v (by decide)
theorem og_11_20 (h : xH) (a : Nat) (S : gS) {α : Type} (f : Value → Option α) : xgf (oh 11 h a S) a 11 20 f = f (.int (sI S 20)) := o_gf h a S (by decide) f
theorem op_11_20 (h : xH) (a : Nat) (S : gS) (v : Int32) : xput (oh 11 h a S) a (.inr (11, (ofs 11 a S).set 20 (.int v))) = oh 11 h a (uI S 20 v) := o_putI h a S v (by decide)
theorem og_11_21 (h : xH) (a : Nat) (S : gS) {α : Type} (f : Value → Option α) : xgf (oh 11 h a S) a 11 21 f = f (.int (sI S 21)) := o_gf h a S (by decide) f
theorem op_11_21 (h : xH) (a : Nat) (S : gS) (v : Int32) : xput (oh 11 h a S) a (.inr (11, (ofs 11 a S).set 21 (.int v))) = oh 11 h a (uI S 21 v) := o_putI h a S v (by decide)
theorem og_11_22 (h : xH) (a : Nat) (S : gS) {α : Type} (f : Value → Option α) : xgf (oh 11 h a S) a 11 22 f = f (.long (sJ S 22)) := o_gf h a S (by decide) f
theorem op_11_22 (h : xH) (a : Nat) (S : gS) (v : Int64) : xput (oh 11 h a S) a (.inr (11, (ofs 11 a S).set 22 (.long v))) = oh 11 h a (uJ S 22 v) := o_putJ h a S v (by decide)
theorem og_11_23 (h : xH) (a : Nat) (S : gS) {α : Type} (f : Value → Option α) : xgf (oh 11 h a S) a 11 23 f = f (.long (sJ S 23)) := o_gf h a S (by decide) f
theorem op_11_23 (h : xH) (a : Nat) (S : gS) (v : Int64) : xput (oh 11 h a S) a (.inr (11, (ofs 11 a S).set 23 (.long v))) = oh 11 h a (uJ S 23 v) := o_putJ h a S v (by decide)
theorem og_11_24 (h : xH) (a : Nat) (S : gS) {α : Type} (f : Value → Option α) : xgf (oh 11 h a S) a 11 24 f = f (.int (sI S 24)) := o_gf h a S (by decide) f
theorem op_11_24 (h : xH) (a : Nat) (S : gS) (v : Int32) : xput (oh 11 h a S) a (.inr (11, (ofs 11 a S).set 24 (.int v))) = oh 11 h a (uI S 24 v) := o_putI h a S v (by decide)
theorem og_11_25 (h : xH) (a : Nat) (S : gS) {α : Type} (f : Value → Option α) : xgf (oh 11 h a S) a 11 25 f = f (.int (sI S 25)) := o_gf h a S (by decide) f
theorem op_11_25 (h : xH) (a : Nat) (S : gS) (v : Int32) : xput (oh 11 h a S) a (.inr (11, (ofs 11 a S).set 25 (.int v))) = oh 11 h a (uI S 25 v) := o_putI h a S v (by decide)
theorem og_11_26 (h : xH) (a : Nat) (S : gS) {α : Type} (f : Value → Option α) : xgf (oh 11 h a S) a 11 26 f = f (.int (sI S 26)) := o_gf h a S (by decide) f
theorem op_11_26 (h : xH) (a : Nat) (S : gS) (v : Int32) : xput (oh 11 h a S) a (.inr (11, (ofs 11 a S).set 26 (.int v))) = oh 11 h a (uI S 26 v) := o_putI h a S v (by decide)
theorem og_11_27 (h : xH) (a : Nat) (S : gS) {α : Type} (f : Value → Option α) : xgf (oh 11 h a S) a 11 27 f = f (.int (sI S 27)) := o_gf h a S (by decide) f
theorem op_11_27 (h : xH) (a : Nat) (S : gS) (v : Int32) : xput (oh 11 h a S) a (.inr (11, (ofs 11 a S).set 27 (.int v))) = oh 11 h a (uI S 27 v) := o_putI h a S v (by decide)
theorem og_11_28 (h : xH) (a : Nat) (S : gS) {α : Type} (f : Value → Option α) : xgf (oh 11 h a S) a 11 28 f = f (.ref (a + 16)) := o_gf h a S (by decide) f
theorem or_11_28 (h : xH) (a : Nat) (S : gS) {α : Type} (i : Int32) (f : Value → Option α) : xrd (oh 11 h a S) (a + 16) i 0 1 f = if bIn i 700 = true then f (.int (sA S 28 i.toNatClampNeg)) else none := o_rd (o := 16) (k := 28) (by decide) rfl i (Or.inl rfl) f
theorem ow_11_28 (h : xH) (a : Nat) (S : gS) {α : Type} (i : Int32) (v : Int32) (f : xH → Option α) : xwr (oh 11 h a S) (a + 16) i 0 (.int v) f = if bIn i 700 = true then f (oh 11 h a (uA S 28 i.toNatClampNeg v)) else none := o_wr (o := 16) (k := 28) (by decide) rfl i rfl (.int v) f (o_setA (o := 16) (k := 28) (by decide) (by decide) (by decide) rfl (by decide) _ v)
theorem og_11_29 (h : xH) (a : Nat) (S : gS) {α : Type} (f : Value → Option α) : xgf (oh 11 h a S) a 11 29 f = f (.int (sI S 29)) := o_gf h a S (by decide) f
theorem op_11_29 (h : xH) (a : Nat) (S : gS) (v : Int32) : xput (oh 11 h a S) a (.inr (11, (ofs 11 a S).set 29 (.int v))) = oh 11 h a (uI S 29 v) := o_putI h a S v (by decide)
theorem og_11_30 (h : xH) (a : Nat) (S : gS) {α : Type} (f : Value → Option α) : xgf (oh 11 h a S) a 11 30 f = f (.int (sI S 30)) := o_gf h a S (by decide) f
theorem op_11_30 (h : xH) (a : Nat) (S : gS) (v : Int32) : xput (oh 11 h a S) a (.inr (11, (ofs 11 a S).set 30 (.int v))) = oh 11 h a (uI S 30 v) := o_putI h a S v (by decide)
theorem og_11_31 (h : xH) (a : Nat) (S : gS) {α : Type} (f : Value → Option α) : xgf (oh 11 h a S) a 11 31 f = f (.int (sI S 31)) := o_gf h a S (by decide) f
theorem op_11_31 (h : xH) (a : Nat) (S : gS) (v : Int32) : xput (oh 11 h a S) a (.inr (11, (ofs 11 a S).set 31 (.int v))) = oh 11 h a (uI S 31 v) := o_putI h a S v (by decide)
theorem og_11_32 (h : xH) (a : Nat) (S : gS) {α : Type} (f : Value → Option α) : xgf (oh 11 h a S) a 11 32 f = f (.int (sI S 32)) := o_gf h a S (by decide) f
theorem op_11_32 (h : xH) (a : Nat) (S : gS) (v : Int32) : xput (oh 11 h a S) a (.inr (11, (ofs 11 a S).set 32 (.int v))) = oh 11 h a (uI S 32 v) := o_putI h a S v (by decide)
theorem og_11_33 (h : xH) (a : Nat) (S : gS) {α : Type} (f : Value → Option α) : xgf (oh 11 h a S) a 11 33 f = f (.long (sJ S 33)) := o_gf h a S (by decide) f
theorem op_11_33 (h : xH) (a : Nat) (S : gS) (v : Int64) : xput (oh 11 h a S) a (.inr (11, (ofs 11 a S).set 33 (.long v))) = oh 11 h a (uJ S 33 v) := o_putJ h a S v (by decide)
theorem og_11_34 (h : xH) (a : Nat) (S : gS) {α : Type} (f : Value → Option α) : xgf (oh 11 h a S) a 11 34 f = f (.int (sI S 34)) := o_gf h a S (by decide) f
theorem op_11_34 (h : xH) (a : Nat) (S : gS) (v : Int32) : xput (oh 11 h a S) a (.inr (11, (ofs 11 a S).set 34 (.int v))) = oh 11 h a (uI S 34 v) := o_putI h a S v (by decide)
theorem og_11_35 (h : xH) (a : Nat) (S : gS) {α : Type} (f : Value → Option α) : xgf (oh 11 h a S) a 11 35 f = f (.int (sI S 35)) := o_gf h a S (by decide) f
theorem op_11_35 (h : xH) (a : Nat) (S : gS) (v : Int32) : xput (oh 11 h a S) a (.inr (11, (ofs 11 a S).set 35 (.int v))) = oh 11 h a (uI S 35 v) := o_putI h a S v (by decide)
theorem og_11_36 (h : xH) (a : Nat) (S : gS) {α : Type} (f : Value → Option α) : xgf (oh 11 h a S) a 11 36 f = f (.ref (a + 17)) := o_gf h a S (by decide) f
theorem or_11_36 (h : xH) (a : Nat) (S : gS) {α : Type} (i : Int32) (f : Value → Option α) : xrd (oh 11 h a S) (a + 17) i 3 4 f = if bIn i 700 = true then f (.int (sA S 36 i.toNatClampNeg)) else none := o_rd (o := 17) (k := 36) (by decide) rfl i (Or.inr rfl) f
theorem ow_11_36 (h : xH) (a : Nat) (S : gS) {α : Type} (i : Int32) (v : Int32) (f : xH → Option α) : xwb (oh 11 h a S) (a + 17) i v f = if bIn i 700 = true then f (oh 11 h a (uA S 36 i.toNatClampNeg (v &&& 1))) else none := o_wz (o := 17) (k := 36) (by decide) (by decide) (by decide) rfl i v rfl f
theorem og_11_37 (h : xH) (a : Nat) (S : gS) {α : Type} (f : Value → Option α) : xgf (oh 11 h a S) a 11 37 f = f (.ref (a + 18)) := o_gf h a S (by decide) f
theorem or_11_37 (h : xH) (a : Nat) (S : gS) {α : Type} (i : Int32) (f : Value → Option α) : xrd (oh 11 h a S) (a + 18) i 2 2 f = if bIn i 700 = true then f (.long (sL S 37 i.toNatClampNeg)) else none := o_rd (o := 18) (k := 37) (by decide) rfl i (Or.inl rfl) f
theorem ow_11_37 (h : xH) (a : Nat) (S : gS) {α : Type} (i : Int32) (v : Int64) (f : xH → Option α) : xwr (oh 11 h a S) (a + 18) i 2 (.long v) f = if bIn i 700 = true then f (oh 11 h a (uL S 37 i.toNatClampNeg v)) else none := o_wr (o := 18) (k := 37) (by decide) rfl i rfl (.long v) f (o_setL (o := 18) (k := 37) (by decide) (by decide) (by decide) rfl rfl _ v)
theorem og_11_38 (h : xH) (a : Nat) (S : gS) {α : Type} (f : Value → Option α) : xgf (oh 11 h a S) a 11 38 f = f (.ref (a + 19)) := o_gf h a S (by decide) f
theorem or_11_38 (h : xH) (a : Nat) (S : gS) {α : Type} (i : Int32) (f : Value → Option α) : xrd (oh 11 h a S) (a + 19) i 0 1 f = if bIn i 700 = true then f (.int (sA S 38 i.toNatClampNeg)) else none := o_rd (o := 19) (k := 38) (by decide) rfl i (Or.inl rfl) f
theorem ow_11_38 (h : xH) (a : Nat) (S : gS) {α : Type} (i : Int32) (v : Int32) (f : xH → Option α) : xwr (oh 11 h a S) (a + 19) i 0 (.int v) f = if bIn i 700 = true then f (oh 11 h a (uA S 38 i.toNatClampNeg v)) else none := o_wr (o := 19) (k := 38) (by decide) rfl i rfl (.int v) f (o_setA (o := 19) (k := 38) (by decide) (by decide) (by decide) rfl (by decide) _ v)
theorem og_11_39 (h : xH) (a : Nat) (S : gS) {α : Type} (f : Value → Option α) : xgf (oh 11 h a S) a 11 39 f = f (.ref (a + 20)) := o_gf h a S (by decide) f
theorem or_11_39 (h : xH) (a : Nat) (S : gS) {α : Type} (i : Int32) (f : Value → Option α) : xrd (oh 11 h a S) (a + 20) i 2 2 f = if bIn i 700 = true then f (.long (sL S 39 i.toNatClampNeg)) else none := o_rd (o := 20) (k := 39) (by decide) rfl i (Or.inl rfl) f
theorem ow_11_39 (h : xH) (a : Nat) (S : gS) {α : Type} (i : Int32) (v : Int64) (f : xH → Option α) : xwr (oh 11 h a S) (a + 20) i 2 (.long v) f = if bIn i 700 = true then f (oh 11 h a (uL S 39 i.toNatClampNeg v)) else none := o_wr (o := 20) (k := 39) (by decide) rfl i rfl (.long v) f (o_setL (o := 20) (k := 39) (by decide) (by decide) (by decide) rfl rfl _ v)
theorem og_11_40 (h : xH) (a : Nat) (S : gS) {α : Type} (f : Value → Option α) : xgf (oh 11 h a S) a 11 40 f = f (.ref (a + 21)) := o_gf h a S (by decide) f
theorem or_11_40 (h : xH) (a : Nat) (S : gS) {α : Type} (i : Int32) (f : Value → Option α) : xrd (oh 11 h a S) (a + 21) i 0 1 f = if bIn i 700 = true then f (.int (sA S 40 i.toNatClampNeg)) else none := o_rd (o := 21) (k := 40) (by decide) rfl i (Or.inl rfl) f
theorem ow_11_40 (h : xH) (a : Nat) (S : gS) {α : Type} (i : Int32) (v : Int32) (f : xH → Option α) : xwr (oh 11 h a S) (a + 21) i 0 (.int v) f = if bIn i 700 = true then f (oh 11 h a (uA S 40 i.toNatClampNeg v)) else none := o_wr (o := 21) (k := 40) (by decide) rfl i rfl (.int v) f (o_setA (o := 21) (k := 40) (by decide) (by decide) (by decide) rfl (by decide) _ v)
theorem og_11_41 (h : xH) (a : Nat) (S : gS) {α : Type} (f : Value → Option α) : xgf (oh 11 h a S) a 11 41 f = f (.ref (a + 22)) := o_gf h a S (by decide) f
theorem or_11_41 (h : xH) (a : Nat) (S : gS) {α : Type} (i : Int32) (f : Value → Option α) : xrd (oh 11 h a S) (a + 22) i 0 1 f = if bIn i 700 = true then f (.int (sA S 41 i.toNatClampNeg)) else none := o_rd (o := 22) (k := 41) (by decide) rfl i (Or.inl rfl) f
theorem ow_11_41 (h : xH) (a : Nat) (S : gS) {α : Type} (i : Int32) (v : Int32) (f : xH → Option α) : xwr (oh 11 h a S) (a + 22) i 0 (.int v) f = if bIn i 700 = true then f (oh 11 h a (uA S 41 i.toNatClampNeg v)) else none := o_wr (o := 22) (k := 41) (by decide) rfl i rfl (.int v) f (o_setA (o := 22) (k := 41) (by decide) (by decide) (by decide) rfl (by decide) _ v)
theorem og_11_42 (h : xH) (a : Nat) (S : gS) {α : Type} (f : Value → Option α) : xgf (oh 11 h a S) a 11 42 f = f (.int (sI S 42)) := o_gf h a S (by decide) f
theorem op_11_42 (h : xH) (a : Nat) (S : gS) (v : Int32) : xput (oh 11 h a S) a (.inr (11, (ofs 11 a S).set 42 (.int v))) = oh 11 h a (uI S 42 v) := o_putI h a S v (by decide)
theorem og_11_43 (h : xH) (a : Nat) (S : gS) {α : Type} (f : Value → Option α) : xgf (oh 11 h a S) a 11 43 f = f (.ref (a + 23)) := o_gf h a S (by decide) f
theorem or_11_43 (h : xH) (a : Nat) (S : gS) {α : Type} (i : Int32) (f : Value → Option α) : xrd (oh 11 h a S) (a + 23) i 0 1 f = if bIn i 700 = true then f (.int (sA S 43 i.toNatClampNeg)) else none := o_rd (o := 23) (k := 43) (by decide) rfl i (Or.inl rfl) f
theorem ow_11_43 (h : xH) (a : Nat) (S : gS) {α : Type} (i : Int32) (v : Int32) (f : xH → Option α) : xwr (oh 11 h a S) (a + 23) i 0 (.int v) f = if bIn i 700 = true then f (oh 11 h a (uA S 43 i.toNatClampNeg v)) else none := o_wr (o := 23) (k := 43) (by decide) rfl i rfl (.int v) f (o_setA (o := 23) (k := 43) (by decide) (by decide) (by decide) rfl (by decide) _ v)
theorem og_11_44 (h : xH) (a : Nat) (S : gS) {α : Type} (f : Value → Option α) : xgf (oh 11 h a S) a 11 44 f = f (.ref (a + 24)) := o_gf h a S (by decide) f
theorem or_11_44 (h : xH) (a : Nat) (S : gS) {α : Type} (i : Int32) (f : Value → Option α) : xrd (oh 11 h a S) (a + 24) i 2 2 f = if bIn i 700 = true then f (.long (sL S 44 i.toNatClampNeg)) else none := o_rd (o := 24) (k := 44) (by decide) rfl i (Or.inl rfl) f
theorem ow_11_44 (h : xH) (a : Nat) (S : gS) {α : Type} (i : Int32) (v : Int64) (f : xH → Option α) : xwr (oh 11 h a S) (a + 24) i 2 (.long v) f = if bIn i 700 = true then f (oh 11 h a (uL S 44 i.toNatClampNeg v)) else none := o_wr (o := 24) (k := 44) (by decide) rfl i rfl (.long v) f (o_setL (o := 24) (k := 44) (by decide) (by decide) (by decide) rfl rfl _ v)
theorem og_11_45 (h : xH) (a : Nat) (S : gS) {α : Type} (f : Value → Option α) : xgf (oh 11 h a S) a 11 45 f = f (.ref (a + 25)) := o_gf h a S (by decide) f
theorem or_11_45 (h : xH) (a : Nat) (S : gS) {α : Type} (i : Int32) (f : Value → Option α) : xrd (oh 11 h a S) (a + 25) i 0 1 f = if bIn i 700 = true then f (.int (sA S 45 i.toNatClampNeg)) else none := o_rd (o := 25) (k := 45) (by decide) rfl i (Or.inl rfl) f
theorem ow_11_45 (h : xH) (a : Nat) (S : gS) {α : Type} (i : Int32) (v : Int32) (f : xH → Option α) : xwr (oh 11 h a S) (a + 25) i 0 (.int v) f = if bIn i 700 = true then f (oh 11 h a (uA S 45 i.toNatClampNeg v)) else none := o_wr (o := 25) (k := 45) (by decide) rfl i rfl (.int v) f (o_setA (o := 25) (k := 45) (by decide) (by decide) (by decide) rfl (by decide) _ v)
theorem og_11_46 (h : xH) (a : Nat) (S : gS) {α : Type} (f : Value → Option α) : xgf (oh 11 h a S) a 11 46 f = f (.ref (a + 26)) := o_gf h a S (by decide) f
theorem or_11_46 (h : xH) (a : Nat) (S : gS) {α : Type} (i : Int32) (f : Value → Option α) : xrd (oh 11 h a S) (a + 26) i 0 1 f = if bIn i 700 = true then f (.int (sA S 46 i.toNatClampNeg)) else none := o_rd (o := 26) (k := 46) (by decide) rfl i (Or.inl rfl) f
theorem ow_11_46 (h : xH) (a : Nat) (S : gS) {α : Type} (i : Int32) (v : Int32) (f : xH → Option α) : xwr (oh 11 h a S) (a + 26) i 0 (.int v) f = if bIn i 700 = true then f (oh 11 h a (uA S 46 i.toNatClampNeg v)) else none := o_wr (o := 26) (k := 46) (by decide) rfl i rfl (.int v) f (o_setA (o := 26) (k := 46) (by decide) (by decide) (by decide) rfl (by decide) _ v)
theorem og_11_47 (h : xH) (a : Nat) (S : gS) {α : Type} (f : Value → Option α) : xgf (oh 11 h a S) a 11 47 f = f (.ref (a + 27)) := o_gf h a S (by decide) f
theorem or_11_47 (h : xH) (a : Nat) (S : gS) {α : Type} (i : Int32) (f : Value → Option α) : xrd (oh 11 h a S) (a + 27) i 3 4 f = if bIn i 700 = true then f (.int (sA S 47 i.toNatClampNeg)) else none := o_rd (o := 27) (k := 47) (by decide) rfl i (Or.inr rfl) f
theorem ow_11_47 (h : xH) (a : Nat) (S : gS) {α : Type} (i : Int32) (v : Int32) (f : xH → Option α) : xwb (oh 11 h a S) (a + 27) i v f = if bIn i 700 = true then f (oh 11 h a (uA S 47 i.toNatClampNeg (v &&& 1))) else none := o_wz (o := 27) (k := 47) (by decide) (by decide) (by decide) rfl i v rfl f
theorem og_11_48 (h : xH) (a : Nat) (S : gS) {α : Type} (f : Value → Option α) : xgf (oh 11 h a S) a 11 48 f = f (.ref (a + 28)) := o_gf h a S (by decide) f
theorem or_11_48 (h : xH) (a : Nat) (S : gS) {α : Type} (i : Int32) (f : Value → Option α) : xrd (oh 11 h a S) (a + 28) i 0 1 f = if bIn i 700 = true then f (.int (sA S 48 i.toNatClampNeg)) else none := o_rd (o := 28) (k := 48) (by decide) rfl i (Or.inl rfl) f
theorem ow_11_48 (h : xH) (a : Nat) (S : gS) {α : Type} (i : Int32) (v : Int32) (f : xH → Option α) : xwr (oh 11 h a S) (a + 28) i 0 (.int v) f = if bIn i 700 = true then f (oh 11 h a (uA S 48 i.toNatClampNeg v)) else none := o_wr (o := 28) (k := 48) (by decide) rfl i rfl (.int v) f (o_setA (o := 28) (k := 48) (by decide) (by decide) (by decide) rfl (by decide) _ v)
theorem og_11_49 (h : xH) (a : Nat) (S : gS) {α : Type} (f : Value → Option α) : xgf (oh 11 h a S) a 11 49 f = f (.int (sI S 49)) := o_gf h a S (by decide) f
theorem op_11_49 (h : xH) (a : Nat) (S : gS) (v : Int32) : xput (oh 11 h a S) a (.inr (11, (ofs 11 a S).set 49 (.int v))) = oh 11 h a (uI S 49 v) := o_putI h a S v (by decide)
theorem og_11_50 (h : xH) (a : Nat) (S : gS) {α : Type} (f : Value → Option α) : xgf (oh 11 h a S) a 11 50 f = f (.ref (a + 29)) := o_gf h a S (by decide) f
theorem or_11_50 (h : xH) (a : Nat) (S : gS) {α : Type} (i : Int32) (f : Value → Option α) : xrd (oh 11 h a S) (a + 29) i 0 1 f = if bIn i 1400 = true then f (.int (sA S 50 i.toNatClampNeg)) else none := o_rd (o := 29) (k := 50) (by decide) rfl i (Or.inl rfl) f
theorem ow_11_50 (h : xH) (a : Nat) (S : gS) {α : Type} (i : Int32) (v : Int32) (f : xH → Option α) : xwr (oh 11 h a S) (a + 29) i 0 (.int v) f = if bIn i 1400 = true then f (oh 11 h a (uA S 50 i.toNatClampNeg v)) else none := o_wr (o := 29) (k := 50) (by decide) rfl i rfl (.int v) f (o_setA (o := 29) (k := 50) (by decide) (by decide) (by decide) rfl (by decide) _ v)
theorem og_11_51 (h : xH) (a : Nat) (S : gS) {α : Type} (f : Value → Option α) : xgf (oh 11 h a S) a 11 51 f = f (.ref (a + 30)) := o_gf h a S (by decide) f
theorem or_11_51 (h : xH) (a : Nat) (S : gS) {α : Type} (i : Int32) (f : Value → Option α) : xrd (oh 11 h a S) (a + 30) i 2 2 f = if bIn i 1400 = true then f (.long (sL S 51 i.toNatClampNeg)) else none := o_rd (o := 30) (k := 51) (by decide) rfl i (Or.inl rfl) f
theorem ow_11_51 (h : xH) (a : Nat) (S : gS) {α : Type} (i : Int32) (v : Int64) (f : xH → Option α) : xwr (oh 11 h a S) (a + 30) i 2 (.long v) f = if bIn i 1400 = true then f (oh 11 h a (uL S 51 i.toNatClampNeg v)) else none := o_wr (o := 30) (k := 51) (by decide) rfl i rfl (.long v) f (o_setL (o := 30) (k := 51) (by decide) (by decide) (by decide) rfl rfl _ v)
theorem og_11_52 (h : xH) (a : Nat) (S : gS) {α : Type} (f : Value → Option α) : xgf (oh 11 h a S) a 11 52 f = f (.ref (a + 31)) := o_gf h a S (by decide) f
theorem or_11_52 (h : xH) (a : Nat) (S : gS) {α : Type} (i : Int32) (f : Value → Option α) : xrd (oh 11 h a S) (a + 31) i 0 1 f = if bIn i 1400 = true then f (.int (sA S 52 i.toNatClampNeg)) else none := o_rd (o := 31) (k := 52) (by decide) rfl i (Or.inl rfl) f
theorem ow_11_52 (h : xH) (a : Nat) (S : gS) {α : Type} (i : Int32) (v : Int32) (f : xH → Option α) : xwr (oh 11 h a S) (a + 31) i 0 (.int v) f = if bIn i 1400 = true then f (oh 11 h a (uA S 52 i.toNatClampNeg v)) else none := o_wr (o := 31) (k := 52) (by decide) rfl i rfl (.int v) f (o_setA (o := 31) (k := 52) (by decide) (by decide) (by decide) rfl (by decide) _ v)
theorem og_11_53 (h : xH) (a : Nat) (S : gS) {α : Type} (f : Value → Option α) : xgf (oh 11 h a S) a 11 53 f = f (.ref (a + 32)) := o_gf h a S (by decide) f
theorem or_11_53 (h : xH) (a : Nat) (S : gS) {α : Type} (i : Int32) (f : Value → Option α) : xrd (oh 11 h a S) (a + 32) i 0 1 f = if bIn i 700 = true then f (.int (sA S 53 i.toNatClampNeg)) else none := o_rd (o := 32) (k := 53) (by decide) rfl i (Or.inl rfl) f
theorem ow_11_53 (h : xH) (a : Nat) (S : gS) {α : Type} (i : Int32) (v : Int32) (f : xH → Option α) : xwr (oh 11 h a S) (a + 32) i 0 (.int v) f = if bIn i 700 = true then f (oh 11 h a (uA S 53 i.toNatClampNeg v)) else none := o_wr (o := 32) (k := 53) (by decide) rfl i rfl (.int v) f (o_setA (o := 32) (k := 53) (by decide) (by decide) (by decide) rfl (by decide) _ v)
theorem og_11_54 (h : xH) (a : Nat) (S : gS) {α : Type} (f : Value → Option α) : xgf (oh 11 h a S) a 11 54 f = f (.ref (a + 33)) := o_gf h a S (by decide) f
theorem or_11_54 (h : xH) (a : Nat) (S : gS) {α : Type} (i : Int32) (f : Value → Option α) : xrd (oh 11 h a S) (a + 33) i 2 2 f = if bIn i 700 = true then f (.long (sL S 54 i.toNatClampNeg)) else none := o_rd (o := 33) (k := 54) (by decide) rfl i (Or.inl rfl) f
theorem ow_11_54 (h : xH) (a : Nat) (S : gS) {α : Type} (i : Int32) (v : Int64) (f : xH → Option α) : xwr (oh 11 h a S) (a + 33) i 2 (.long v) f = if bIn i 700 = true then f (oh 11 h a (uL S 54 i.toNatClampNeg v)) else none := o_wr (o := 33) (k := 54) (by decide) rfl i rfl (.long v) f (o_setL (o := 33) (k := 54) (by decide) (by decide) (by decide) rfl rfl _ v)
theorem og_11_55 (h : xH) (a : Nat) (S : gS) {α : Type} (f : Value → Option α) : xgf (oh 11 h a S) a 11 55 f = f (.ref (a + 34)) := o_gf h a S (by decide) f
theorem or_11_55 (h : xH) (a : Nat) (S : gS) {α : Type} (i : Int32) (f : Value → Option α) : xrd (oh 11 h a S) (a + 34) i 0 1 f = if bIn i 700 = true then f (.int (sA S 55 i.toNatClampNeg)) else none := o_rd (o := 34) (k := 55) (by decide) rfl i (Or.inl rfl) f
theorem ow_11_55 (h : xH) (a : Nat) (S : gS) {α : Type} (i : Int32) (v : Int32) (f : xH → Option α) : xwr (oh 11 h a S) (a + 34) i 0 (.int v) f = if bIn i 700 = true then f (oh 11 h a (uA S 55 i.toNatClampNeg v)) else none := o_wr (o := 34) (k := 55) (by decide) rfl i rfl (.int v) f (o_setA (o := 34) (k := 55) (by decide) (by decide) (by decide) rfl (by decide) _ v)
theorem og_11_56 (h : xH) (a : Nat) (S : gS) {α : Type} (f : Value → Option α) : xgf (oh 11 h a S) a 11 56 f = f (.int (sI S 56)) := o_gf h a S (by decide) f
theorem op_11_56 (h : xH) (a : Nat) (S : gS) (v : Int32) : xput (oh 11 h a S) a (.inr (11, (ofs 11 a S).set 56 (.int v))) = oh 11 h a (uI S 56 v) := o_putI h a S v (by decide)
theorem og_11_57 (h : xH) (a : Nat) (S : gS) {α : Type} (f : Value → Option α) : xgf (oh 11 h a S) a 11 57 f = f (.int (sI S 57)) := o_gf h a S (by decide) f
theorem op_11_57 (h : xH) (a : Nat) (S : gS) (v : Int32) : xput (oh 11 h a S) a (.inr (11, (ofs 11 a S).set 57 (.int v))) = oh 11 h a (uI S 57 v) := o_putI h a S v (by decide)
theorem og_11_58 (h : xH) (a : Nat) (S : gS) {α : Type} (f : Value → Option α) : xgf (oh 11 h a S) a 11 58 f = f (.int (sI S 58)) := o_gf h a S (by decide) f
theorem op_11_58 (h : xH) (a : Nat) (S : gS) (v : Int32) : xput (oh 11 h a S) a (.inr (11, (ofs 11 a S).set 58 (.int v))) = oh 11 h a (uI S 58 v) := o_putI h a S v (by decide)
theorem og_11_59 (h : xH) (a : Nat) (S : gS) {α : Type} (f : Value → Option α) : xgf (oh 11 h a S) a 11 59 f = f (.ref (a + 35)) := o_gf h a S (by decide) f
theorem or_11_59 (h : xH) (a : Nat) (S : gS) {α : Type} (i : Int32) (f : Value → Option α) : xrd (oh 11 h a S) (a + 35) i 2 2 f = if bIn i 60 = true then f (.long (sL S 59 i.toNatClampNeg)) else none := o_rd (o := 35) (k := 59) (by decide) rfl i (Or.inl rfl) f
theorem ow_11_59 (h : xH) (a : Nat) (S : gS) {α : Type} (i : Int32) (v : Int64) (f : xH → Option α) : xwr (oh 11 h a S) (a + 35) i 2 (.long v) f = if bIn i 60 = true then f (oh 11 h a (uL S 59 i.toNatClampNeg v)) else none := o_wr (o := 35) (k := 59) (by decide) rfl i rfl (.long v) f (o_setL (o := 35) (k := 59) (by decide) (by decide) (by decide) rfl rfl _ v)
theorem og_11_60 (h : xH) (a : Nat) (S : gS) {α : Type} (f : Value → Option α) : xgf (oh 11 h a S) a 11 60 f = f (.int (sI S 60)) := o_gf h a S (by decide) f
theorem op_11_60 (h : xH) (a : Nat) (S : gS) (v : Int32) : xput (oh 11 h a S) a (.inr (11, (ofs 11 a S).set 60 (.int v))) = oh 11 h a (uI S 60 v) := o_putI h a S v (by decide)
theorem og_11_61 (h : xH) (a : Nat) (S : gS) {α : Type} (f : Value → Option α) : xgf (oh 11 h a S) a 11 61 f = f (.int (sI S 61)) := o_gf h a S (by decide) f
theorem op_11_61 (h : xH) (a : Nat) (S : gS) (v : Int32) : xput (oh 11 h a S) a (.inr (11, (ofs 11 a S).set 61 (.int v))) = oh 11 h a (uI S 61 v) := o_putI h a S v (by decide)
theorem og_11_62 (h : xH) (a : Nat) (S : gS) {α : Type} (f : Value → Option α) : xgf (oh 11 h a S) a 11 62 f = f (.int (sI S 62)) := o_gf h a S (by decide) f
theorem op_11_62 (h : xH) (a : Nat) (S : gS) (v : Int32) : xput (oh 11 h a S) a (.inr (11, (ofs 11 a S).set 62 (.int v))) = oh 11 h a (uI S 62 v) := o_putI h a S v (by decide)
theorem og_11_63 (h : xH) (a : Nat) (S : gS) {α : Type} (f : Value → Option α) : xgf (oh 11 h a S) a 11 63 f = f (.int (sI S 63)) := o_gf h a S (by decide) f
theorem op_11_63 (h : xH) (a : Nat) (S : gS) (v : Int32) : xput (oh 11 h a S) a (.inr (11, (ofs 11 a S).set 63 (.int v))) = oh 11 h a (uI S 63 v) := o_putI h a S v (by decide)
theorem og_11_64 (h : xH) (a : Nat) (S : gS) {α : Type} (f : Value → Option α) : xgf (oh 11 h a S) a 11 64 f = f (.ref (a + 36)) := o_gf h a S (by decide) f
theorem or_11_64 (h : xH) (a : Nat) (S : gS) {α : Type} (i : Int32) (f : Value → Option α) : xrd (oh 11 h a S) (a + 36) i 0 1 f = if bIn i 180 = true then f (.int (sA S 64 i.toNatClampNeg)) else none := o_rd (o := 36) (k := 64) (by decide) rfl i (Or.inl rfl) f
theorem ow_11_64 (h : xH) (a : Nat) (S : gS) {α : Type} (i : Int32) (v : Int32) (f : xH → Option α) : xwr (oh 11 h a S) (a + 36) i 0 (.int v) f = if bIn i 180 = true then f (oh 11 h a (uA S 64 i.toNatClampNeg v)) else none := o_wr (o := 36) (k := 64) (by decide) rfl i rfl (.int v) f (o_setA (o := 36) (k := 64) (by decide) (by decide) (by decide) rfl (by decide) _ v)
