/-! What holds of all that a text tells. -/
def eP (P : aT → Prop) : eR → Prop
  | .inl _ => True
  | .inr (_, B) => ∀ x, x ∈ B → P x
/-- what can stand in the acts of a text -/
def actP (p : pP) (P : aT → Prop) : Prop := P (nI 6, 0, 0) ∧ (∀ c, P (opA c)) ∧ (∀ i, p.1 i = nI 2 → P (nI 1, p.2.2 i, p.2.1 i)) ∧ (∀ i, P (nI 2, 0, p.2.1 i)) ∧ (∀ i, pNm p i = true → P (nI 3, p.2.2 i, p.2.1 i)) ∧ (∀ i, pNm p i = true → P (nI 4, p.2.2 i, p.2.1 i)) ∧ ∀ i, pNm p i = true → P (nI 5, p.2.2 i, p.2.1 i)
theorem eP.pre {P : aT → Prop} {L : List aT} {e : eR} (hL : ∀ x, x ∈ L → P x) (h : eP P e) : eP P (ePre L e) := by
  cases e with
  | inl q => trivial
  | inr z =>
    intro x hx
    rcases List.mem_append.mp hx with q | q
    · exact hL x q
    · exact h x q
theorem eP.post {P : aT → Prop} {L : List aT} {e : eR} (hL : ∀ x, x ∈ L → P x) (h : eP P e) : eP P (ePost L e) := by
  cases e with
  | inl q => trivial
  | inr z =>
    intro x hx
    rcases List.mem_append.mp hx with q | q
    · exact h x q
    · exact hL x q
theorem eP.clo {p : pP} {c : Int32} {P : aT → Prop} {L : List aT} {e : eR} (hL : ∀ x, x ∈ L → P x) (h : eP P e) : eP P (eClo p c L e) := by
  cases e with
  | inl q => trivial
  | inr z =>
    show eP P (if p.1 z.1 = c then .inr (z.1 + 1, z.2 ++ L) else .inl z.1)
    split
    · intro x hx
      rcases List.mem_append.mp hx with q | q
      · exact h x q
      · exact hL x q
    · trivial
theorem one_P {P : aT → Prop} {a : aT} (h : P a) : ∀ x, x ∈ [a] → P x := fun x hx => by rw [List.mem_singleton.mp hx]; exact h
theorem opL_PP {p : pP} {P : aT → Prop} (hp : actP p P) (w : Option Int32) : ∀ x, x ∈ opL w → P x := by
  cases w with
  | none => exact fun x hx => absurd hx List.not_mem_nil
  | some c => exact one_P (hp.2.1 c)
theorem tl_P {p : pP} {P : aT → Prop} (hp : actP p P) {g : Nat → eR} (hg : ∀ i, eP P (g i)) : ∀ (f j : Nat) (w : Option Int32), eP P (tlF p g f j w)
  | 0, j, w => trivial
  | f + 1, j, w => by
    unfold tlF
    split
    · have h := hg (j + 1)
      split
      · trivial
      · rename_i q B e
        rw [e] at h
        exact (tl_P hp hg f q _).pre fun x hx => by
          rcases List.mem_append.mp hx with q | q
          · exact opL_PP hp w x q
          · exact h x q
    · split
      · have h := hg (j + 1)
        split
        · trivial
        · rename_i q B e
          rw [e] at h
          exact (tl_P hp hg f q _).pre fun x hx => by
            rcases List.mem_append.mp hx with q | q
            · exact h x q
            · exact one_P (hp.2.1 _) x q
      · exact opL_PP hp w
theorem sm_P {p : pP} {P : aT → Prop} (hp : actP p P) {g : Nat → eR} (hg : ∀ i, eP P (g i)) (i : Nat) : eP P (smF p g i) := by
  unfold smF
  have h := hg i
  split
  · trivial
  · rename_i q B e
    rw [e] at h
    exact (tl_P hp hg 701 q none).pre h
theorem fcG_P {p : pP} {P : aT → Prop} (hp : actP p P) {r : Option (Nat → eR)} (hr : ∀ g, r = some g → ∀ i, eP P (g i)) (i : Nat) : eP P (fcG p r i) := by
  obtain ⟨p1, p2, p3, p4, p5, p6, p7⟩ := hp
  unfold fcG
  split
  · split
    · trivial
    · rename_i g
      exact (hr g rfl (i + 1)).post (one_P p1)
  · split
    · split
      · trivial
      · rename_i g
        exact (sm_P ⟨p1, p2, p3, p4, p5, p6, p7⟩ (hr g rfl) (i + 1)).clo (fun x hx => absurd hx List.not_mem_nil)
    · split
      · rename_i h
        exact one_P (p3 i h)
      · split
        · exact one_P (p4 i)
        · split
          · split
            · rename_i h
              exact one_P (p7 _ h)
            · trivial
          · split
            · rename_i h
              split
              · split
                · trivial
                · rename_i g
                  exact (sm_P ⟨p1, p2, p3, p4, p5, p6, p7⟩ (hr g rfl) (i + 2)).clo (one_P (p6 i h))
              · exact one_P (p5 i h)
            · trivial
theorem fcF_P {p : pP} {P : aT → Prop} (hp : actP p P) : ∀ (r i : Nat), eP P (fcF p r i)
  | 0, i => fcG_P hp (fun g e => by cases e) i
  | r + 1, i => fcG_P hp (fun g e => by cases e; exact fcF_P hp r) i
theorem exF_P {p : pP} {P : aT → Prop} (hp : actP p P) (i : Nat) : eP P (exF p i) := sm_P hp (fcF_P hp 20) i
/-- of a RULE, a MOVE, a text: places up to n -/
def ruP (P : aT → Prop) (n : Nat) (r : rT) : Prop := r.1 ≤ 2 ∧ r.2.2.1 ≤ n ∧ r.2.2.2.1 ≤ n ∧ (∀ x, x ∈ r.2.2.2.2.2 → P x) ∧ (r.2.2.2.2.1 = true → r.1 = 1 ∧ ∃ a, r.2.2.2.2.2 = [a] ∧ a.1 = nI 3)
theorem jsB_1 {p : pP} {i : Nat} {B : List aT} (h : jsB p i B = true) : ∃ a, B = [a] ∧ a.1 = nI 3 := by
  match B, h with
  | [], h => cases h
  | [a], h =>
    have h2 : (decide (a.1 = nI 3) && decide (nI a.2.2 = nI (p.2.1 i))) = true := h
    rw [Bool.and_eq_true, decide_eq_true_eq] at h2
    exact ⟨a, rfl, h2.1⟩
  | a :: b :: B, h => cases h
def moP (P : aT → Prop) (n : Nat) (m : mT) : Prop := m.2.2.1 ≤ n ∧ m.2.2.2.2.1 ≤ n ∧ ∀ r, r ∈ m.2.2.2.2.2 → ruP P n r
theorem ruF_P {p : pP} {P : aT → Prop} {n : Nat} (hp : actP p P) (hn : ∀ i, p.2.1 i ≤ n) (i : Nat) {j : Nat} {r : rT} (e : ruF p i = .inr (j, r)) : ruP P n r := by
  unfold ruF at e
  split at e
  · split at e
    · split at e
      · have e := Sum.inr.inj e
        rw [← (Prod.mk.inj e).2]
        exact ⟨Nat.le_refl _, hn _, Nat.zero_le _, fun x hx => absurd hx List.not_mem_nil, fun z => by cases z⟩
      · cases e
    · cases e
  · split at e
    · split at e
      · have h := exF_P hp (i + 2)
        split at e
        · cases e
        · rename_i j B e2
          rw [e2] at h
          split at e
          · have e := Sum.inr.inj e
            rw [← (Prod.mk.inj e).2]
            refine ⟨?_, hn _, hn _, h, fun z => ?_⟩
            · show (if pWd p i 7038329 = true then 0 else 1) ≤ 2
              split <;> omega
            · have z2 : (!pWd p i 7038329 && jsB p (i + 2) B) = true := z
              rw [Bool.and_eq_true, Bool.not_eq_true'] at z2
              refine ⟨?_, jsB_1 z2.2⟩
              show (if pWd p i 7038329 = true then 0 else 1) = 1
              rw [z2.1]
              rfl
          · cases e
      · cases e
    · cases e
theorem rlF_P {p : pP} {P : aT → Prop} {n : Nat} (hp : actP p P) (hn : ∀ i, p.2.1 i ≤ n) : ∀ (f i : Nat) {j : Nat} {L : List rT}, rlF p f i = .inr (j, L) → ∀ r, r ∈ L → ruP P n r
  | 0, i, j, L, e => by cases e
  | f + 1, i, j, L, e => by
    unfold rlF at e
    split at e
    · have e := Sum.inr.inj e
      rw [← (Prod.mk.inj e).2]
      exact fun x hx => absurd hx List.not_mem_nil
    · split at e
      · cases e
      · rename_i q r e2
        split at e
        · cases e
        · rename_i z L2 e3
          have e := Sum.inr.inj e
          rw [← (Prod.mk.inj e).2]
          intro x hx
          rcases List.mem_cons.mp hx with q | q
          · rw [q]
            exact ruF_P hp hn i e2
          · exact rlF_P hp hn f _ e3 x q
theorem mvF_P {p : pP} {P : aT → Prop} {n : Nat} (hp : actP p P) (hn : ∀ i, p.2.1 i ≤ n) (i : Nat) {j : Nat} {m : mT} (e : mvF p i = .inr (j, m)) : moP P n m := by
  unfold mvF at e
  split at e
  · split at e
    · split at e
      · have e := Sum.inr.inj e
        rw [← (Prod.mk.inj e).2]
        exact ⟨hn _, Nat.zero_le _, fun x hx => absurd hx List.not_mem_nil⟩
      · cases e
    · cases e
  · split at e
    · split at e
      · split at e
        · split at e
          · split at e
            · split at e
              · cases e
              · rename_i q L e2
                have e := Sum.inr.inj e
                rw [← (Prod.mk.inj e).2]
                exact ⟨hn _, hn _, rlF_P hp hn _ _ e2⟩
            · cases e
          · cases e
        · cases e
      · cases e
    · cases e
theorem txF_P {p : pP} {P : aT → Prop} {n : Nat} (hp : actP p P) (hn : ∀ i, p.2.1 i ≤ n) : ∀ (f i : Nat) {L : List mT}, txF p f i = .inr L → ∀ m, m ∈ L → moP P n m
  | 0, i, L, e => by cases e
  | f + 1, i, L, e => by
    unfold txF at e
    split at e
    · rw [← Sum.inr.inj e]
      exact fun x hx => absurd hx List.not_mem_nil
    · split at e
      · cases e
      · rename_i q m e2
        split at e
        · cases e
        · rename_i L2 e3
          rw [← Sum.inr.inj e]
          intro x hx
          rcases List.mem_cons.mp hx with q | q
          · rw [q]
            exact mvF_P hp hn i e2
          · exact txF_P hp hn f _ e3 x q
/-- an act's place -/
def atP (n : Nat) (x : aT) : Prop := x.2.2 ≤ n
theorem actP_at {t : Nat → Int32} {n : Nat} : actP (pcs t n) (atP n) :=
  ⟨Nat.zero_le _, fun _ => Nat.zero_le _, fun i _ => pcs_A t n i, fun i => pcs_A t n i, fun i _ => pcs_A t n i, fun i _ => pcs_A t n i, fun i _ => pcs_A t n i⟩
theorem teF_P {t : Nat → Int32} {n : Nat} {P : aT → Prop} (hp : actP (pcs t n) P) {L : List mT} (e : teF (pcs t n) = .inr L) : ∀ m, m ∈ L → moP P n m := txF_P hp (pcs_A t n) 701 0 e
/-- where a RULE's acts, a MOVE's RULES stand -/
theorem acR_app (X Y : List rT) : acR (X ++ Y) = acR X ++ acR Y := by
  unfold acR
  rw [List.map_append, List.flatten_append]
theorem ruM_app (X Y : List mT) : ruM (X ++ Y) = ruM X ++ ruM Y := by
  unfold ruM
  rw [List.map_append, List.flatten_append]
theorem get_lt {α : Type} {L : List α} {q : Nat} {x : α} (h : L[q]? = some x) : q < L.length := by
  rcases Nat.lt_or_ge q L.length with z | z
  · exact z
  · rw [List.getElem?_eq_none z] at h
    cases h
theorem cut_at {α : Type} : ∀ {L : List α} {q : Nat} {x : α}, L[q]? = some x → L = L.take q ++ x :: L.drop (q + 1)
  | [], q, x, h => by cases h
  | y :: L, 0, x, h => by
    have : y = x := Option.some.inj h
    rw [this]
    rfl
  | y :: L, q + 1, x, h => by
    have h2 : L[q]? = some x := h
    have ih := cut_at h2
    show y :: L = y :: (L.take q ++ x :: L.drop (q + 1))
    rw [← ih]
theorem take_s {α : Type} {L : List α} {q : Nat} {x : α} (h : L[q]? = some x) : L.take (q + 1) = L.take q ++ [x] := by
  rw [List.take_add_one, h]
  rfl
theorem acR_get {R : List rT} {q i : Nat} {r : rT} {a : aT} (h : R[q]? = some r) (ha : r.2.2.2.2.2[i]? = some a) : (acR R)[(acR (R.take q)).length + i]? = some a := by
  have e := cut_at h
  have e2 : acR R = acR (R.take q) ++ (r.2.2.2.2.2 ++ acR (R.drop (q + 1))) := by
    conv => lhs; rw [e]
    rw [acR_app]
    rfl
  rw [e2, List.getElem?_append_right (by omega), Nat.add_sub_cancel_left, List.getElem?_append_left (get_lt ha)]
  exact ha
theorem ruM_get {L : List mT} {k i : Nat} {m : mT} {r : rT} (h : L[k]? = some m) (hr : m.2.2.2.2.2[i]? = some r) : (ruM L)[(ruM (L.take k)).length + i]? = some r := by
  have e := cut_at h
  have e2 : ruM L = ruM (L.take k) ++ (m.2.2.2.2.2 ++ ruM (L.drop (k + 1))) := by
    conv => lhs; rw [e]
    rw [ruM_app]
    rfl
  rw [e2, List.getElem?_append_right (by omega), Nat.add_sub_cancel_left, List.getElem?_append_left (get_lt hr)]
  exact hr
theorem acR_s {R : List rT} {q : Nat} {r : rT} (h : R[q]? = some r) : (acR (R.take (q + 1))).length = (acR (R.take q)).length + r.2.2.2.2.2.length := by
  rw [take_s h, acR_app, List.length_append]
  show _ + (r.2.2.2.2.2 ++ []).length = _
  rw [List.append_nil]
theorem ruM_s {L : List mT} {q : Nat} {m : mT} (h : L[q]? = some m) : (ruM (L.take (q + 1))).length = (ruM (L.take q)).length + m.2.2.2.2.2.length := by
  rw [take_s h, ruM_app, List.length_append]
  show _ + (m.2.2.2.2.2 ++ []).length = _
  rw [List.append_nil]
theorem isT.first {S : gS} {L : List mT} (h : isT S L) {k : Nat} (hk : k ≤ L.length) : sA S 41 k = nI (ruM (L.take k)).length := by
  by_cases e : k = L.length
  · subst e
    rw [List.take_length]
    exact h.2.2.2.1
  · have hl : k < L.length := by omega
    exact (h.2.2.1 k L[k] (List.getElem?_eq_getElem hl)).2
theorem isT.act1 {S : gS} {L : List mT} (h : isT S L) {q : Nat} (hq : q ≤ (ruM L).length) : sA S 48 q = nI (acR ((ruM L).take q)).length := by
  by_cases e : q = (ruM L).length
  · subst e
    rw [List.take_length]
    exact h.2.2.2.2.2.2.1
  · have hl : q < (ruM L).length := by omega
    exact (h.2.2.2.2.2.1 q (ruM L)[q] (List.getElem?_eq_getElem hl)).2
theorem acR_le {R : List rT} (q : Nat) : (acR (R.take q)).length ≤ (acR R).length := by
  conv => rhs; rw [← List.take_append_drop q R]
  rw [acR_app, List.length_append]
  omega
theorem ruM_le {L : List mT} (q : Nat) : (ruM (L.take q)).length ≤ (ruM L).length := by
  conv => rhs; rw [← List.take_append_drop q L]
  rw [ruM_app, List.length_append]
  omega
