/-! Objects as they are made: an object at a, and the cells that were made behind it. -/
def PB (h : xH) (a c : Nat) (fs : List Value) (L : List (xE × Nat)) : xH := (fun q => if q = a then some (.inr (c, fs)) else if a < q ∧ q ≤ a + L.length then (L[q - a - 1]?).map Prod.fst else h.1 q, h.2.1, a + 1 + L.length, h.2.2.2 + (L.map Prod.snd).sum)
theorem PB_0 {h : xH} {a c : Nat} {fs : List Value} (H : h.1 a = some (.inr (c, fs))) (ha : h.2.2.1 = a + 1) : h = PB h a c fs [] := by
  refine Prod.ext ?_ (Prod.ext rfl (Prod.ext ha rfl))
  funext q
  show h.1 q = if q = a then _ else if a < q ∧ q ≤ a + 0 then _ else h.1 q
  by_cases e : q = a
  · rw [if_pos e, e, H]
  · rw [if_neg e, if_neg (by omega)]
theorem PB_nx (h : xH) (a c : Nat) (fs : List Value) (L : List (xE × Nat)) : (PB h a c fs L).2.2.1 = a + 1 + L.length := rfl
theorem PB_ob {α : Type} (h : xH) (a c : Nat) (fs : List Value) (L : List (xE × Nat)) (f : List Value → Option α) : xob (PB h a c fs L) a c f = f fs := by
  have : (PB h a c fs L).1 a = some (.inr (c, fs)) := if_pos rfl
  unfold xob
  rw [this]
  exact if_pos rfl
theorem PB_gf {α : Type} (h : xH) (a c : Nat) (fs : List Value) (L : List (xE × Nat)) (k : Nat) (f : Value → Option α) : xgf (PB h a c fs L) a c k f = match fs[k]? with | some v => f v | none => none := by
  have : (PB h a c fs L).1 a = some (.inr (c, fs)) := if_pos rfl
  unfold xgf
  rw [this]
  exact if_pos rfl
theorem PB_put (h : xH) (a c : Nat) (fs fs' : List Value) (L : List (xE × Nat)) : xput (PB h a c fs L) a (.inr (c, fs')) = PB h a c fs' L := by
  refine Prod.ext ?_ rfl
  funext q
  by_cases e : q = a
  · subst e
    show va_up _ q _ q = if q = q then _ else _
    rw [va_up_self, if_pos rfl]
  · show va_up _ a _ q = if q = a then _ else _
    rw [va_up_ne _ _ e, if_neg e]
    exact if_neg e
theorem PB_mk (h : xH) (a c : Nat) (fs : List Value) (L : List (xE × Nat)) (e : xE) (n : Nat) : xmk (PB h a c fs L) e n = PB h a c fs (L ++ [(e, n)]) := by
  refine Prod.ext ?_ (Prod.ext rfl (Prod.ext ?_ ?_))
  · funext q
    show va_up (PB h a c fs L).1 (a + 1 + L.length) (some e) q = if q = a then _ else if a < q ∧ q ≤ a + (L ++ [(e, n)]).length then _ else h.1 q
    rw [List.length_append, List.length_singleton]
    by_cases e1 : q = a + 1 + L.length
    · subst e1
      rw [va_up_self, if_neg (by omega), if_pos (by omega), show a + 1 + L.length - a - 1 = L.length by omega, List.getElem?_append_right (Nat.le_refl _), Nat.sub_self]
      rfl
    · rw [va_up_ne _ _ e1]
      show (if q = a then _ else if a < q ∧ q ≤ a + L.length then _ else h.1 q) = _
      by_cases e2 : q = a
      · rw [if_pos e2, if_pos e2]
      · rw [if_neg e2, if_neg e2]
        by_cases e3 : a < q ∧ q ≤ a + L.length
        · rw [if_pos e3, if_pos (by omega), List.getElem?_append_left (by omega)]
        · rw [if_neg e3, if_neg (by omega)]
  · show a + 1 + L.length + 1 = a + 1 + (L ++ [(e, n)]).length
    rw [List.length_append, List.length_singleton, Nat.add_assoc]
  · show h.2.2.2 + (L.map Prod.snd).sum + n = h.2.2.2 + ((L ++ [(e, n)]).map Prod.snd).sum
    rw [List.map_append, List.sum_append, Nat.add_assoc]
    rfl
/-- an object within another's cells -/
theorem PB_PB (h : xH) (a c : Nat) (fs : List Value) (L : List (xE × Nat)) (e : xE) (n c2 : Nat) (fs2 : List Value) (L2 : List (xE × Nat)) : PB (PB h a c fs (L ++ [(e, n)])) (a + 1 + L.length) c2 fs2 L2 = PB h a c fs (L ++ ((.inr (c2, fs2), n) :: L2)) := by
  refine Prod.ext ?_ (Prod.ext rfl (Prod.ext ?_ ?_))
  · funext q
    show (if q = a + 1 + L.length then some (Sum.inr (c2, fs2)) else if a + 1 + L.length < q ∧ q ≤ a + 1 + L.length + L2.length then (L2[q - (a + 1 + L.length) - 1]?).map Prod.fst else if q = a then some (Sum.inr (c, fs)) else if a < q ∧ q ≤ a + (L ++ [(e, n)]).length then ((L ++ [(e, n)])[q - a - 1]?).map Prod.fst else h.1 q) = if q = a then some (Sum.inr (c, fs)) else if a < q ∧ q ≤ a + (L ++ ((Sum.inr (c2, fs2), n) :: L2)).length then ((L ++ ((Sum.inr (c2, fs2), n) :: L2))[q - a - 1]?).map Prod.fst else h.1 q
    rw [List.length_append, List.length_append, List.length_singleton, List.length_cons]
    by_cases e1 : q = a + 1 + L.length
    · rw [if_pos e1, if_neg (by omega), if_pos (by omega), e1, show a + 1 + L.length - a - 1 = L.length by omega, List.getElem?_append_right (Nat.le_refl _), Nat.sub_self]
      rfl
    · rw [if_neg e1]
      by_cases e2 : a + 1 + L.length < q ∧ q ≤ a + 1 + L.length + L2.length
      · rw [if_pos e2, if_neg (by omega), if_pos (by omega), List.getElem?_append_right (by omega), show q - a - 1 - L.length = (q - (a + 1 + L.length) - 1) + 1 by omega, List.getElem?_cons_succ]
      · rw [if_neg e2]
        by_cases e3 : q = a
        · rw [if_pos e3, if_pos e3]
        · rw [if_neg e3, if_neg e3]
          by_cases e4 : a < q ∧ q ≤ a + L.length
          · rw [if_pos (by omega), if_pos (by omega), List.getElem?_append_left (by omega), List.getElem?_append_left (by omega)]
          · rw [if_neg (by omega), if_neg (by omega)]
  · show a + 1 + L.length + 1 + L2.length = a + 1 + (L ++ ((Sum.inr (c2, fs2), n) :: L2)).length
    rw [List.length_append, List.length_cons]
    omega
  · show h.2.2.2 + ((L ++ [(e, n)]).map Prod.snd).sum + (L2.map Prod.snd).sum = h.2.2.2 + ((L ++ ((Sum.inr (c2, fs2), n) :: L2)).map Prod.snd).sum
    rw [List.map_append, List.sum_append, List.map_append, List.sum_append]
    show h.2.2.2 + ((L.map Prod.snd).sum + (n + 0)) + (L2.map Prod.snd).sum = h.2.2.2 + ((L.map Prod.snd).sum + (n + (L2.map Prod.snd).sum))
    omega
def arE (ci : Nat) (S : gS) (o : Nat) : xE := match o_at ci o with
  | some k => .inl (o_tag ci k, o_len ci k, oarr ci S k)
  | none => .inr (99, [])
def ctg (ci : Nat) : Bool := (List.range (o_sz ci)).all (fun o => decide (o = 0) || (o_at ci o).isSome)
theorem ctg_o {ci : Nat} (h : ctg ci = true) : ∀ o, o < o_sz ci → 0 < o → (o_at ci o).isSome = true := fun o ho h0 => by
  have := List.all_eq_true.mp h o (List.mem_range.mpr ho)
  rw [Bool.or_eq_true, decide_eq_true_eq] at this
  rcases this with e | e
  · omega
  · exact e
/-- a block whose cells lie one behind the other -/
theorem PB_oh {h : xH} {a ci s : Nat} {S : gS} {fs : List Value} {L : List (xE × Nat)} (hc : ctg ci = true) (ha : h.2.2.1 = a + 1) (hf : fs = ofs ci a S) (hL : L.map Prod.fst = (List.range (o_sz ci - 1)).map (fun i => arE ci S (i + 1))) (hs : (L.map Prod.snd).sum = s) (h0 : 0 < o_sz ci) : PB h a ci fs L = oh ci (grow h (o_sz ci - 1) s) a S := by
  have hl : L.length = o_sz ci - 1 := by
    have := congrArg List.length hL
    rw [List.length_map, List.length_map, List.length_range] at this
    exact this
  refine oh_mk (Prod.ext rfl (Prod.ext ?_ ?_)) ?_ (fun o k ho hk => ?_) (fun q hq => ?_)
  · show a + 1 + L.length = h.2.2.1 + (o_sz ci - 1)
    omega
  · show h.2.2.2 + (L.map Prod.snd).sum = h.2.2.2 + s
    rw [hs]
  · rw [← hf]
    exact if_pos rfl
  · have hlt := o_at_lt hk
    show (if a + o = a then _ else if a < a + o ∧ a + o ≤ a + L.length then (L[a + o - a - 1]?).map Prod.fst else h.1 (a + o)) = _
    rw [if_neg (by omega), if_pos (by omega), ← List.getElem?_map, hL, List.getElem?_map, List.getElem?_range (by omega)]
    show some (arE ci S (a + o - a - 1 + 1)) = _
    rw [show a + o - a - 1 + 1 = o by omega]
    unfold arE
    rw [hk]
  · have hfar := ofp_far (ctg_o hc) hq
    show (if q = a then _ else if a < q ∧ q ≤ a + L.length then _ else h.1 q) = h.1 q
    rw [if_neg (by omega), if_neg (by omega)]
def bkL (ci a : Nat) (S : gS) (n s : Nat) : List (xE × Nat) := (.inr (ci, ofs ci a S), n) :: (List.range (o_sz ci - 1)).map (fun i => (arE ci S (i + 1), if i = 0 then s else 0))
theorem sum_0 : ∀ (m : Nat), ((List.range m).map (fun _ => 0)).sum = 0
  | 0 => rfl
  | m + 1 => by rw [List.range_succ, List.map_append, List.sum_append, sum_0 m]; rfl
theorem sum_if (m s : Nat) (h : 0 < m) : ((List.range m).map (fun i => if i = 0 then s else 0)).sum = s := by
  cases m with
  | zero => omega
  | succ m =>
    rw [List.range_succ_eq_map, List.map_cons, List.sum_cons, List.map_map]
    have : ((fun i => if i = 0 then s else 0) ∘ Nat.succ) = (fun _ => 0) := by
      funext i
      show (if Nat.succ i = 0 then s else 0) = 0
      rw [if_neg (Nat.succ_ne_zero i)]
    rw [this, sum_0, if_pos rfl, Nat.add_zero]
/-- a block made within another's cells -/
theorem PB_in {h : xH} {a c : Nat} {fs : List Value} {L : List (xE × Nat)} {e : xE} {n ci s : Nat} {S : gS} (hc : ctg ci = true) (h0 : 1 < o_sz ci) : oh ci (grow (PB h a c fs (L ++ [(e, n)])) (o_sz ci - 1) s) (a + 1 + L.length) S = PB h a c fs (L ++ bkL ci (a + 1 + L.length) S n s) := by
  rw [show bkL ci (a + 1 + L.length) S n s = (.inr (ci, ofs ci (a + 1 + L.length) S), n) :: (List.range (o_sz ci - 1)).map (fun i => (arE ci S (i + 1), if i = 0 then s else 0)) from rfl, ← PB_PB h a c fs L e n]
  refine (PB_oh hc ?_ rfl ?_ ?_ (by omega)).symm
  · show a + 1 + (L ++ [(e, n)]).length = _
    rw [List.length_append, List.length_singleton]
    omega
  · rw [List.map_map]
    rfl
  · rw [List.map_map]
    exact sum_if _ _ (by omega)
theorem bkL_len (ci a : Nat) (S : gS) (n s : Nat) (h0 : 0 < o_sz ci) : (bkL ci a S n s).length = o_sz ci := by
  unfold bkL
  rw [List.length_cons, List.length_map, List.length_range]
  omega
/-- what is made there is there -/
theorem PB_is {h : xH} {a c p : Nat} {fs : List Value} {L L1 L2 : List (xE × Nat)} {n ci s : Nat} {S : gS} (hc : ctg ci = true) (h0 : 0 < o_sz ci) (hL : L = L1 ++ (bkL ci p S n s ++ L2)) (hp : p = a + 1 + L1.length) : isB ci (PB h a c fs L) p S := by
  refine isB_of (fun q e he => ?_)
  have hl := bkL_len ci p S n s h0
  have hfp : ofp ci p q = true := by
    cases hq : ofp ci p q with
    | true => rfl
    | false =>
      rw [ofp_out hq] at he
      cases he
  obtain ⟨b1, b2⟩ := ofp_lt h0 hfp
  show (if q = a then _ else if a < q ∧ q ≤ a + L.length then (L[q - a - 1]?).map Prod.fst else h.1 q) = some e
  have hLl : L.length = L1.length + (o_sz ci + L2.length) := by
    rw [hL, List.length_append, List.length_append, hl]
  rw [if_neg (by omega), if_pos (by omega), hL, List.getElem?_append_right (by omega), List.getElem?_append_left (by rw [hl]; omega)]
  unfold bkL
  unfold ocell at he
  by_cases e1 : q = p
  · rw [if_pos e1] at he
    rw [show q - a - 1 - L1.length = 0 by omega]
    exact he
  · rw [if_neg e1, if_pos (by omega)] at he
    rw [show q - a - 1 - L1.length = (q - p - 1) + 1 by omega, List.getElem?_cons_succ, List.getElem?_map, List.getElem?_range (by omega)]
    show some (arE ci S (q - p - 1 + 1)) = some e
    rw [show q - p - 1 + 1 = q - p by omega]
    unfold arE
    cases hk : o_at ci (q - p) with
    | none =>
      rw [hk] at he
      cases he
    | some k =>
      rw [hk] at he
      exact he
theorem PB_lo {h : xH} {a c q : Nat} {fs : List Value} {L : List (xE × Nat)} (hq : q < a) : (PB h a c fs L).1 q = h.1 q := by
  show (if q = a then _ else if a < q ∧ q ≤ a + L.length then _ else h.1 q) = _
  rw [if_neg (by omega), if_neg (by omega)]
theorem PB_at {h : xH} {a c i : Nat} {fs : List Value} {L : List (xE × Nat)} (hi : i < L.length) : (PB h a c fs L).1 (a + 1 + i) = (L[i]?).map Prod.fst := by
  show (if a + 1 + i = a then _ else if a < a + 1 + i ∧ a + 1 + i ≤ a + L.length then (L[a + 1 + i - a - 1]?).map Prod.fst else h.1 _) = _
  rw [if_neg (by omega), if_pos (by omega), show a + 1 + i - a - 1 = i by omega]
