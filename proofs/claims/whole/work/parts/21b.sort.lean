/-! VALUES by their KEYS: two of one KEY. -/
section
variable {α : Type}
def kfL (L : List (Int64 × α)) (i : Nat) : Int64 := match L[i]? with
  | some x => x.1
  | none => 0
def insP (x : Int64 × α) (L : List (Int64 × α)) : Nat := insF (kfL L) x.1 L.length
def insL (x : Int64 × α) (L : List (Int64 × α)) : List (Int64 × α) := L.take (insP x L) ++ x :: L.drop (insP x L)
theorem insF_gt (f : Nat → Int64) (w : Int64) : ∀ (n i : Nat), insF f w n ≤ i → i < n → w < f i
  | 0, i, h1, h2 => by omega
  | n + 1, i, h1, h2 => by
    have e : insF f w (n + 1) = if w < f n then insF f w n else n + 1 := rfl
    rw [e] at h1
    split at h1
    · by_cases c : i = n
      · rw [c]
        assumption
      · exact insF_gt f w n i h1 (by omega)
    · omega
theorem insF_lo (f : Nat → Int64) (w : Int64) : ∀ (n : Nat), 0 < insF f w n → f (insF f w n - 1) ≤ w ∧ insF f w n ≤ n
  | 0, h => absurd h (Nat.lt_irrefl 0)
  | n + 1, h => by
    have e : insF f w (n + 1) = if w < f n then insF f w n else n + 1 := rfl
    rw [e] at h ⊢
    split at h
    · rw [if_pos (by assumption)]
      have := insF_lo f w n h
      exact ⟨this.1, by omega⟩
    · rename_i q
      rw [if_neg q]
      exact ⟨Int64.not_lt.mp q, Nat.le_refl _⟩
def srtd (L : List (Int64 × α)) : Prop := L.Pairwise (fun a b => a.1 ≤ b.1)
theorem insP_le (x : Int64 × α) (L : List (Int64 × α)) : insP x L ≤ L.length := by
  by_cases h : 0 < insP x L
  · exact (insF_lo (kfL L) x.1 L.length h).2
  · omega
theorem ins_hi {x : Int64 × α} {L : List (Int64 × α)} : ∀ y, y ∈ L.drop (insP x L) → x.1 < y.1 := by
  intro y hy
  obtain ⟨i, hi, e⟩ := List.getElem_of_mem hy
  rw [List.length_drop] at hi
  rw [List.getElem_drop] at e
  have h := insF_gt (kfL L) x.1 L.length (insP x L + i) (by unfold insP; omega) (by omega)
  unfold kfL at h
  rw [List.getElem?_eq_getElem (by omega)] at h
  have h : x.1 < (L[insP x L + i]'(by omega)).1 := h
  rw [e] at h
  exact h
theorem ins_lo {x : Int64 × α} {L : List (Int64 × α)} (hs : srtd L) : ∀ y, y ∈ L.take (insP x L) → y.1 ≤ x.1 := by
  intro y hy
  obtain ⟨i, hi, e⟩ := List.getElem_of_mem hy
  rw [List.length_take] at hi
  rw [List.getElem_take] at e
  have hp : 0 < insP x L := by omega
  have hle := insP_le x L
  have h : kfL L (insP x L - 1) ≤ x.1 := (insF_lo (kfL L) x.1 L.length hp).1
  have hlt : insP x L - 1 < L.length := by omega
  have ek : kfL L (insP x L - 1) = (L[insP x L - 1]'hlt).1 := by
    unfold kfL
    rw [List.getElem?_eq_getElem hlt]
  rw [ek] at h
  by_cases c : i = insP x L - 1
  · subst c
    rw [e] at h
    exact h
  · have h2 := (List.pairwise_iff_getElem.mp hs) i (insP x L - 1) (by omega) hlt (by omega)
    rw [e] at h2
    exact Int64.le_trans h2 h
theorem insL_s {x : Int64 × α} {L : List (Int64 × α)} (hs : srtd L) : srtd (insL x L) := by
  unfold srtd insL
  rw [List.pairwise_append]
  refine ⟨List.Pairwise.sublist (List.take_sublist _ _) hs, ?_, ?_⟩
  · rw [List.pairwise_cons]
    exact ⟨fun y hy => Int64.le_of_lt (ins_hi y hy), List.Pairwise.sublist (List.drop_sublist _ _) hs⟩
  · intro a ha b hb
    rcases List.mem_cons.mp hb with q | q
    · rw [q]
      exact ins_lo hs a ha
    · exact Int64.le_trans (ins_lo hs a ha) (Int64.le_of_lt (ins_hi b q))
def fk (k : Int64) (L : List (Int64 × α)) : List (Int64 × α) := L.filter (fun a => decide (a.1 = k))
theorem fk_app (k : Int64) (A B : List (Int64 × α)) : fk k (A ++ B) = fk k A ++ fk k B := List.filter_append A B
theorem fk_cons (k : Int64) (x : Int64 × α) (B : List (Int64 × α)) : fk k (x :: B) = if x.1 = k then x :: fk k B else fk k B := by
  unfold fk
  rw [List.filter_cons]
  by_cases h : x.1 = k
  · rw [if_pos h, if_pos (decide_eq_true h)]
  · rw [if_neg h, if_neg (by rw [decide_eq_false h]; decide)]
theorem fk_nil {k : Int64} {L : List (Int64 × α)} (h : ∀ y, y ∈ L → ¬ y.1 = k) : fk k L = [] := by
  unfold fk
  rw [List.filter_eq_nil_iff]
  intro y hy
  rw [decide_eq_true_eq]
  exact h y hy
theorem fk_mem {k : Int64} {L : List (Int64 × α)} {y : Int64 × α} (h : y ∈ L) (hk : y.1 = k) : fk k L ≠ [] := by
  intro e
  have : y ∈ fk k L := List.mem_filter.mpr ⟨h, decide_eq_true hk⟩
  rw [e] at this
  cases this
theorem insL_f {x : Int64 × α} {L : List (Int64 × α)} (k : Int64) : fk k (insL x L) = fk k L ++ (if x.1 = k then [x] else []) := by
  have e : fk k L = fk k (L.take (insP x L)) ++ fk k (L.drop (insP x L)) := by
    rw [← fk_app, List.take_append_drop]
  unfold insL
  rw [fk_app, fk_cons, e]
  by_cases h : x.1 = k
  · have h2 : fk k (L.drop (insP x L)) = [] := fk_nil (fun y hy z => by
      have := ins_hi y hy
      rw [h, z] at this
      exact Int64.lt_irrefl this)
    rw [if_pos h, if_pos h, h2, List.append_nil]
  · rw [if_neg h, if_neg h, List.append_nil]
/-- all of them put in one after the other -/
def srt : List (Int64 × α) → List (Int64 × α) → List (Int64 × α)
  | [], A => A
  | x :: L, A => srt L (insL x A)
theorem srt_s : ∀ (L A : List (Int64 × α)), srtd A → srtd (srt L A)
  | [], A, h => h
  | x :: L, A, h => srt_s L _ (insL_s h)
theorem srt_f (k : Int64) : ∀ (L A : List (Int64 × α)), fk k (srt L A) = fk k A ++ fk k L
  | [], A => (List.append_nil _).symm
  | x :: L, A => by
    show fk k (srt L (insL x A)) = _
    rw [srt_f k L, insL_f, fk_cons, List.append_assoc]
    congr 1
    by_cases h : x.1 = k
    · rw [if_pos h, if_pos h]
      rfl
    · rw [if_neg h, if_neg h]
      rfl
/-- the first two neighbours of one KEY -/
def adj : List (Int64 × α) → Option ((Int64 × α) × (Int64 × α))
  | [] => none
  | [_] => none
  | x :: y :: L => if x.1 = y.1 then some (x, y) else adj (y :: L)
theorem adj_n : ∀ (L : List (Int64 × α)), srtd L → adj L = none → ∀ k, (fk k L).length ≤ 1
  | [], _, _, k => Nat.zero_le _
  | [x], _, _, k => by
    rw [fk_cons]
    split
    · exact Nat.le_refl 1
    · exact Nat.zero_le _
  | x :: y :: L, hs, h, k => by
    have h : (if x.1 = y.1 then some (x, y) else adj (y :: L)) = none := h
    split at h
    · cases h
    · rename_i hne
      have hs2 := List.pairwise_cons.mp hs
      have ih := adj_n (y :: L) hs2.2 h k
      rw [fk_cons]
      split
      · rename_i hk
        have : fk k (y :: L) = [] := fk_nil (fun z hz q => by
          have h1 := hs2.1 y List.mem_cons_self
          have h2 : y.1 ≤ z.1 := by
            rcases List.mem_cons.mp hz with e | e
            · rw [e]
              exact Int64.le_refl _
            · exact (List.pairwise_cons.mp hs2.2).1 z e
          rw [q, ← hk] at h2
          exact hne (Int64.le_antisymm h1 h2))
        rw [this]
        exact Nat.le_refl 1
      · exact ih
theorem adj_y : ∀ (L : List (Int64 × α)) (x y : Int64 × α), srtd L → adj L = some (x, y) → (∃ r, fk x.1 L = x :: y :: r) ∧ ∀ k, 2 ≤ (fk k L).length → x.1 ≤ k
  | [], x, y, _, h => by cases h
  | [a], x, y, _, h => by cases h
  | a :: b :: L, x, y, hs, h => by
    have h : (if a.1 = b.1 then some (a, b) else adj (b :: L)) = some (x, y) := h
    have hs2 := List.pairwise_cons.mp hs
    split at h
    · rename_i he
      have h := Option.some.inj h
      obtain ⟨e1, e2⟩ := Prod.mk.inj h
      subst e1
      subst e2
      refine ⟨⟨fk a.1 L, ?_⟩, fun k hk => ?_⟩
      · rw [fk_cons, if_pos rfl, fk_cons, if_pos he.symm]
      · by_cases c : a.1 ≤ k
        · exact c
        · exfalso
          have : fk k (a :: b :: L) = [] := fk_nil (fun z hz q => by
            have : a.1 ≤ z.1 := by
              rcases List.mem_cons.mp hz with e | e
              · rw [e]
                exact Int64.le_refl _
              · exact hs2.1 z e
            rw [q] at this
            exact c this)
          rw [this] at hk
          exact absurd hk (by simp)
    · rename_i hne
      obtain ⟨⟨r, hr⟩, hm⟩ := adj_y (b :: L) x y hs2.2 h
      have hax : ¬ a.1 = x.1 := by
        intro q
        have hx : x ∈ fk x.1 (b :: L) := by
          rw [hr]
          exact List.mem_cons_self
        have hxm := (List.mem_filter.mp hx).1
        have h1 := hs2.1 b List.mem_cons_self
        have h2 : b.1 ≤ x.1 := by
          rcases List.mem_cons.mp hxm with e | e
          · rw [e]
            exact Int64.le_refl _
          · exact (List.pairwise_cons.mp hs2.2).1 x e
        rw [← q] at h2
        exact hne (Int64.le_antisymm h1 h2)
      refine ⟨⟨r, ?_⟩, fun k hk => ?_⟩
      · rw [fk_cons, if_neg hax]
        exact hr
      · rw [fk_cons] at hk
        split at hk
        · rename_i e
          exfalso
          have : fk k (b :: L) = [] := fk_nil (fun z hz q => by
            have h1 := hs2.1 b List.mem_cons_self
            have h2 : b.1 ≤ z.1 := by
              rcases List.mem_cons.mp hz with e | e
              · rw [e]
                exact Int64.le_refl _
              · exact (List.pairwise_cons.mp hs2.2).1 z e
            rw [q, ← e] at h2
            exact hne (Int64.le_antisymm h1 h2))
          rw [this] at hk
          exact absurd hk (by simp)
        · exact hm k hk
/-- the reference looks for two of one KEY -/
def rdQ (x : Int64 × α) : Option (Int64 × α) → Option ((Int64 × α) × (Int64 × α)) → Option ((Int64 × α) × (Int64 × α))
  | none, st => st
  | some y, none => some (x, y)
  | some y, some f => if f.1.1 ≤ x.1 then some f else some (x, y)
def rdp : List (Int64 × α) → Option ((Int64 × α) × (Int64 × α)) → Option ((Int64 × α) × (Int64 × α))
  | [], st => st
  | x :: L, st => rdp L (rdQ x (L.find? (fun y => decide (y.1 = x.1))) st)
def rdI (W P : List (Int64 × α)) : Option ((Int64 × α) × (Int64 × α)) → Prop
  | none => ∀ z, z ∈ P → (fk z.1 W).length ≤ 1
  | some f => (∃ r, fk f.1.1 W = f.1 :: f.2 :: r) ∧ ∀ z, z ∈ P → 2 ≤ (fk z.1 W).length → f.1.1 ≤ z.1
theorem find_f {k : Int64} : ∀ (L : List (Int64 × α)), L.find? (fun y => decide (y.1 = k)) = (fk k L).head?
  | [] => rfl
  | x :: L => by
    rw [fk_cons, List.find?_cons]
    by_cases h : x.1 = k
    · rw [if_pos h]
      simp [h]
    · rw [if_neg h]
      simp only [h, decide_false]
      exact find_f L
theorem rdp_i : ∀ (L P W : List (Int64 × α)) (st : Option ((Int64 × α) × (Int64 × α))), W = P ++ L → rdI W P st → rdI W W (rdp L st)
  | [], P, W, st, e, h => by
    rw [List.append_nil] at e
    subst e
    exact h
  | x :: L, P, W, st, e, h => by
    have e2 : W = (P ++ [x]) ++ L := by
      rw [e, List.append_assoc]
      rfl
    refine rdp_i L (P ++ [x]) W _ e2 ?_
    have ef : fk x.1 W = fk x.1 P ++ x :: fk x.1 L := by
      rw [e, fk_app, fk_cons, if_pos rfl]
    have hin : ∀ z, z ∈ P ++ [x] → z ∈ P ∨ z = x := fun z hz => by
      rcases List.mem_append.mp hz with q | q
      · exact Or.inl q
      · exact Or.inr (List.mem_singleton.mp q)
    have hP : fk x.1 P ≠ [] → ∃ z, z ∈ P ∧ z.1 = x.1 := by
      intro q
      cases hc : fk x.1 P with
      | nil => exact absurd hc q
      | cons z r =>
        have : z ∈ fk x.1 P := by
          rw [hc]
          exact List.mem_cons_self
        have := List.mem_filter.mp this
        exact ⟨z, this.1, of_decide_eq_true this.2⟩
    rw [find_f]
    cases hl : fk x.1 L with
    | nil =>
      show rdI W (P ++ [x]) st
      cases st with
      | none =>
        intro z hz
        rcases hin z hz with q | q
        · exact h z q
        · subst q
          by_cases c : fk z.1 P = []
          · rw [ef, hl, c]
            exact Nat.le_refl 1
          · obtain ⟨y, y1, y2⟩ := hP c
            have := h y y1
            rw [y2] at this
            exact this
      | some f =>
        refine ⟨h.1, fun z hz h2 => ?_⟩
        rcases hin z hz with q | q
        · exact h.2 z q h2
        · subst q
          by_cases c : fk z.1 P = []
          · rw [ef, hl, c] at h2
            exact absurd h2 (by simp)
          · obtain ⟨y, y1, y2⟩ := hP c
            have := h.2 y y1 (by rw [y2]; exact h2)
            rw [y2] at this
            exact this
    | cons y r =>
      have h2x : 2 ≤ (fk x.1 W).length := by
        rw [ef, hl, List.length_append, List.length_cons, List.length_cons]
        omega
      show rdI W (P ++ [x]) (rdQ x (some y) st)
      cases st with
      | none =>
        have c : fk x.1 P = [] := by
          by_cases c : fk x.1 P = []
          · exact c
          · exfalso
            obtain ⟨z, z1, z2⟩ := hP c
            have := h z z1
            rw [z2] at this
            omega
        refine ⟨⟨r, by rw [ef, c, hl]; rfl⟩, fun z hz hz2 => ?_⟩
        rcases hin z hz with q | q
        · have := h z q
          omega
        · rw [q]
          exact Int64.le_refl _
      | some f =>
        show rdI W (P ++ [x]) (if f.1.1 ≤ x.1 then some f else some (x, y))
        by_cases hf : f.1.1 ≤ x.1
        · rw [if_pos hf]
          refine ⟨h.1, fun z hz hz2 => ?_⟩
          rcases hin z hz with q | q
          · exact h.2 z q hz2
          · rw [q]
            exact hf
        · rw [if_neg hf]
          have c : fk x.1 P = [] := by
            by_cases c : fk x.1 P = []
            · exact c
            · exfalso
              obtain ⟨z, z1, z2⟩ := hP c
              have := h.2 z z1 (by rw [z2]; exact h2x)
              rw [z2] at this
              exact hf this
          refine ⟨⟨r, by rw [ef, c, hl]; rfl⟩, fun z hz hz2 => ?_⟩
          rcases hin z hz with q | q
          · have := h.2 z q hz2
            exact Int64.le_trans (Int64.le_of_lt (Int64.not_le.mp hf)) this
          · rw [q]
            exact Int64.le_refl _
/-- both find the same two -/
theorem dup_same (L : List (Int64 × α)) : adj (srt L []) = rdp L none := by
  have hs : srtd (srt L []) := srt_s L [] List.Pairwise.nil
  have hf : ∀ k, fk k (srt L []) = fk k L := fun k => by
    rw [srt_f k L []]
    rfl
  have hr := rdp_i L [] L none rfl (fun z hz => absurd hz List.not_mem_nil)
  cases ha : adj (srt L []) with
  | none =>
    have h1 := adj_n _ hs ha
    cases hq : rdp L none with
    | none => rfl
    | some f =>
      exfalso
      rw [hq] at hr
      obtain ⟨⟨r, e⟩, _⟩ := hr
      have := h1 f.1.1
      rw [hf, e] at this
      simp at this
  | some xy =>
    obtain ⟨x, y⟩ := xy
    obtain ⟨⟨r, e1⟩, m1⟩ := adj_y _ x y hs ha
    rw [hf] at e1
    cases hq : rdp L none with
    | none =>
      exfalso
      rw [hq] at hr
      have hx : x ∈ L := by
        have : x ∈ fk x.1 L := by
          rw [e1]
          exact List.mem_cons_self
        exact (List.mem_filter.mp this).1
      have := hr x hx
      rw [e1] at this
      simp at this
    | some f =>
      rw [hq] at hr
      obtain ⟨⟨r2, e2⟩, m2⟩ := hr
      have hx : x ∈ L := by
        have : x ∈ fk x.1 L := by
          rw [e1]
          exact List.mem_cons_self
        exact (List.mem_filter.mp this).1
      have a1 := m2 x hx (by rw [e1]; simp)
      have a2 := m1 f.1.1 (by rw [hf, e2]; simp)
      have ek : f.1.1 = x.1 := Int64.le_antisymm a1 a2
      rw [ek, e1] at e2
      have e3 := List.cons.inj e2
      have e4 := List.cons.inj e3.2
      rw [e3.1, e4.1]
end
