/-! Heaps that grow: what is old stays. -/
def kp (n : Nat) (h h' : xH) : Prop := ∀ q, q < n → h'.1 q = h.1 q
def below (ci a n : Nat) : Prop := ∀ q, ofp ci a q = true → q < n
theorem kp.rfl {n : Nat} {h : xH} : kp n h h := fun _ _ => Eq.refl _
theorem kp.trans {n : Nat} {h h' h'' : xH} (h1 : kp n h h') (h2 : kp n h' h'') : kp n h h'' := fun q hq => (h2 q hq).trans (h1 q hq)
theorem kp.le {n m : Nat} {h h' : xH} (h1 : kp n h h') (hm : m ≤ n) : kp m h h' := fun q hq => h1 q (by omega)
theorem below.le {ci a n m : Nat} (h : below ci a n) (hm : n ≤ m) : below ci a m := fun q hq => by
  have := h q hq
  omega
theorem isB.at {ci a q : Nat} {h : xH} {S : gS} (H : isB ci h a S) (hq : ofp ci a q = true) : ∃ e, ocell ci a S q = some e ∧ h.1 q = some e := by
  obtain ⟨e, he⟩ := ofp_in (S := S) hq
  refine ⟨e, he, ?_⟩
  have h1 : (oh ci h a S).1 q = h.1 q := by rw [H]
  rw [← h1]
  show (match ocell ci a S q with | some e => some e | none => h.1 q) = some e
  rw [he]
theorem isB.any {ci a : Nat} {h h' : xH} {S : gS} (H : isB ci h a S) (hk : ∀ q, ofp ci a q = true → h'.1 q = h.1 q) : isB ci h' a S := by
  refine Prod.ext ?_ rfl
  funext q
  cases hq : ofp ci a q with
  | true =>
    obtain ⟨e, e1, e2⟩ := H.at hq
    show (match ocell ci a S q with | some e => some e | none => h'.1 q) = h'.1 q
    rw [e1, hk q hq, e2]
  | false => exact oh_same hq
theorem isB.kp {ci a n : Nat} {h h' : xH} {S : gS} (H : isB ci h a S) (hk : kp n h h') (hb : below ci a n) : isB ci h' a S := H.any fun q hq => hk q (hb q hq)
theorem ofp_ge {ci a q : Nat} (h : ofp ci a q = true) : a ≤ q := by
  unfold ofp at h
  rw [Bool.or_eq_true, decide_eq_true_eq, Bool.and_eq_true, decide_eq_true_eq] at h
  rcases h with h | h
  · omega
  · omega
theorem ofp_lo {ci a q : Nat} (h : q < a) : ofp ci a q = false := by
  cases hq : ofp ci a q with
  | false => rfl
  | true =>
    have := ofp_ge hq
    omega
theorem below.out {ci a n q : Nat} (h : below ci a n) (hq : n ≤ q) : ofp ci a q = false := by
  cases hc : ofp ci a q with
  | false => rfl
  | true =>
    have := h q hc
    omega
theorem below.dj {ci a n ci2 a2 : Nat} (h : below ci a n) (ha : n ≤ a2) : dj ci a ci2 a2 := fun q hq => ofp_lo (by
  have := h q hq
  omega)
theorem xmk_oh {ci Q n : Nat} {h : xH} {S : gS} {e : xE} (hq : ofp ci Q h.2.2.1 = false) : xmk (oh ci h Q S) e n = oh ci (xmk h e n) Q S := by
  refine Prod.ext ?_ rfl
  funext q
  by_cases c : q = h.2.2.1
  · subst c
    rw [oh_same hq]
    show va_up (oh ci h Q S).1 h.2.2.1 (some e) h.2.2.1 = va_up h.1 h.2.2.1 (some e) h.2.2.1
    rw [va_up_self, va_up_self]
  · show va_up (oh ci h Q S).1 h.2.2.1 (some e) q = (oh ci (xmk h e n) Q S).1 q
    rw [va_up_ne _ _ c]
    show (match ocell ci Q S q with | some e => some e | none => h.1 q) = (match ocell ci Q S q with | some e => some e | none => va_up h.1 h.2.2.1 (some e) q)
    rw [va_up_ne _ _ c]
theorem xput_oh {ci Q w : Nat} {h : xH} {S : gS} {e : xE} (hq : ofp ci Q w = false) : xput (oh ci h Q S) w e = oh ci (xput h w e) Q S := by
  refine Prod.ext ?_ rfl
  funext q
  by_cases c : q = w
  · subst c
    rw [oh_same hq]
    show va_up (oh ci h Q S).1 q (some e) q = va_up h.1 q (some e) q
    rw [va_up_self, va_up_self]
  · show va_up (oh ci h Q S).1 w (some e) q = (oh ci (xput h w e) Q S).1 q
    rw [va_up_ne _ _ c]
    show (match ocell ci Q S q with | some e => some e | none => h.1 q) = (match ocell ci Q S q with | some e => some e | none => va_up h.1 w (some e) q)
    rw [va_up_ne _ _ c]
theorem grow_oh {ci Q n s : Nat} {h : xH} {S : gS} : grow (oh ci h Q S) n s = oh ci (grow h n s) Q S := rfl
/-- a lone array of Moves -/
def laQ (h : xH) (a n : Nat) (f : Nat → Value) : Prop := h.1 a = some (.inl (8, n, f))
theorem laQ.frame {h : xH} {a n ci b : Nat} {f : Nat → Value} {S : gS} (H : laQ h a n f) (ho : ofp ci b a = false) : laQ (oh ci h b S) a n f := (oh_same ho).trans H
theorem laQ.rd {α : Type} {h : xH} {a n i : Nat} {f : Nat → Value} (H : laQ h a n f) (hi : i < n) (hn : n < 2147483648) (F : Value → Option α) : xrq h a (nI i) F = F (f i) := by
  unfold xrq xar
  rw [H]
  show (if x_isq 8 = true ∧ xIn (nI i) n then F (f (nI i).toNatClampNeg) else none) = _
  rw [if_pos ⟨by decide, nI_in hi hn⟩, nI_clamp (by omega)]
theorem laQ.ar {α : Type} {h : xH} {a n : Nat} {f : Nat → Value} (H : laQ h a n f) (F : Nat → Nat → (Nat → Value) → Option α) : xar h a F = F 8 n f := by
  unfold xar
  rw [H]
theorem xan8 : (8 < x_an) = True := eq_true (by decide)
theorem laQ.wr {α : Type} {h : xH} {a n i v : Nat} {f : Nat → Value} (H : laQ h a n f) (hi : i < n) (hn : n < 2147483648) (hv : ∀ X : Option α, xis h v 3 X = X) (F : xH → Option α) : xwq h a (nI i) (.ref v) F = F (xput h a (.inl (8, n, updV f i (.ref v)))) := by
  unfold xwq xar
  rw [H]
  show (if x_isq 8 = true ∧ xIn (nI i) n then xis h v (x_ac 8) (F (xput h a (.inl (8, n, updV f (nI i).toNatClampNeg (.ref v))))) else none) = _
  rw [if_pos ⟨by decide, nI_in hi hn⟩, nI_clamp (by omega)]
  exact hv _
