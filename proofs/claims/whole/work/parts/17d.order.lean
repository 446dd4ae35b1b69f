/-! Places within a text go up. -/
def actQ (p : pP) (i0 : Nat) (P : aT → Prop) : Prop := P (nI 6, 0, 0) ∧ (∀ c, P (opA c)) ∧ (∀ i, i0 ≤ i → P (nI 1, p.2.2 i, p.2.1 i)) ∧ (∀ i, i0 ≤ i → P (nI 2, 0, p.2.1 i)) ∧ (∀ i, i0 ≤ i → P (nI 3, p.2.2 i, p.2.1 i)) ∧ (∀ i, i0 ≤ i → P (nI 4, p.2.2 i, p.2.1 i)) ∧ ∀ i, i0 ≤ i → P (nI 5, p.2.2 i, p.2.1 i)
theorem opL_Q {p : pP} {i0 : Nat} {P : aT → Prop} (hp : actQ p i0 P) (w : Option Int32) : ∀ x, x ∈ opL w → P x := by
  cases w with
  | none => exact fun x hx => absurd hx List.not_mem_nil
  | some c => exact one_P (hp.2.1 c)
theorem tl_Q {p : pP} {i0 : Nat} {P : aT → Prop} (hp : actQ p i0 P) {g : Nat → eR} (h1 : ∀ i, oneM p i (g i)) (hg : ∀ i, i0 ≤ i → eP P (g i)) : ∀ (f j : Nat) (w : Option Int32), i0 ≤ j → eP P (tlF p g f j w)
  | 0, j, w, _ => trivial
  | f + 1, j, w, hj => by
    have h := hg (j + 1) (by omega)
    have h2 := h1 (j + 1)
    unfold tlF
    split
    · split
      · trivial
      · rename_i q B e
        rw [e] at h h2
        have := h2.1
        exact (tl_Q hp h1 hg f q _ (by omega)).pre fun x hx => by
          rcases List.mem_append.mp hx with q | q
          · exact opL_Q hp w x q
          · exact h x q
    · split
      · split
        · trivial
        · rename_i q B e
          rw [e] at h h2
          have := h2.1
          exact (tl_Q hp h1 hg f q _ (by omega)).pre fun x hx => by
            rcases List.mem_append.mp hx with q | q
            · exact h x q
            · exact one_P (hp.2.1 _) x q
      · exact opL_Q hp w
theorem sm_Q {p : pP} {i0 : Nat} {P : aT → Prop} (hp : actQ p i0 P) {g : Nat → eR} (h1 : ∀ i, oneM p i (g i)) (hg : ∀ i, i0 ≤ i → eP P (g i)) (i : Nat) (hi : i0 ≤ i) : eP P (smF p g i) := by
  have h := hg i hi
  have h2 := h1 i
  unfold smF
  split
  · trivial
  · rename_i q B e
    rw [e] at h h2
    have := h2.1
    exact (tl_Q hp h1 hg 701 q none (by omega)).pre h
theorem fcG_Q {p : pP} {i0 : Nat} {P : aT → Prop} (hp : actQ p i0 P) {r : Option (Nat → eR)} (h1 : ∀ g, r = some g → ∀ i, oneM p i (g i)) (hr : ∀ g, r = some g → ∀ i, i0 ≤ i → eP P (g i)) (i : Nat) (hi : i0 ≤ i) : eP P (fcG p r i) := by
  obtain ⟨p1, p2, p3, p4, p5, p6, p7⟩ := id hp
  unfold fcG
  split
  · split
    · trivial
    · rename_i g
      exact (hr g rfl (i + 1) (by omega)).post (one_P p1)
  · split
    · split
      · trivial
      · rename_i g
        exact (sm_Q hp (h1 g rfl) (hr g rfl) (i + 1) (by omega)).clo (fun x hx => absurd hx List.not_mem_nil)
    · split
      · exact one_P (p3 i hi)
      · split
        · exact one_P (p4 i hi)
        · split
          · split
            · exact one_P (p7 _ (by omega))
            · trivial
          · split
            · split
              · split
                · trivial
                · rename_i g
                  exact (sm_Q hp (h1 g rfl) (hr g rfl) (i + 2) (by omega)).clo (one_P (p6 i hi))
              · exact one_P (p5 i hi)
            · trivial
theorem fcF_Q {p : pP} {i0 : Nat} {P : aT → Prop} (hp : actQ p i0 P) : ∀ (r i : Nat), i0 ≤ i → eP P (fcF p r i)
  | 0, i, hi => fcG_Q hp (fun g e => by cases e) (fun g e => by cases e) i hi
  | r + 1, i, hi => fcG_Q hp (fun g e => by cases e; exact fcF_one r) (fun g e => by cases e; exact fcF_Q hp r) i hi
theorem exF_Q {p : pP} {i0 : Nat} {P : aT → Prop} (hp : actQ p i0 P) (i : Nat) (hi : i0 ≤ i) : eP P (exF p i) := sm_Q hp (fcF_one 20) (fcF_Q hp 20) i hi
/-- no place goes down -/
def pUp (p : pP) : Prop := ∀ i j, i ≤ j → p.2.1 i ≤ p.2.1 j
theorem pcs_up1 (t : Nat → Int32) (n i : Nat) : (pcs t n).2.1 i ≤ (pcs t n).2.1 (i + 1) := by
  have h1 := pcF_ok t (psF_le t n i)
  have h2 := pcF_ok t (psF_le t n (i + 1))
  have h3 : psF t n (i + 1) = (pcF t n (psF t n i)).1 := rfl
  show (pcF t n (psF t n i)).2.1 ≤ (pcF t n (psF t n (i + 1))).2.1
  have := h1.2.1
  have := h2.1
  omega
theorem pcs_pUp (t : Nat → Int32) (n : Nat) : pUp (pcs t n) := by
  intro i j hij
  have : ∀ k, (pcs t n).2.1 i ≤ (pcs t n).2.1 (i + k) := by
    intro k
    induction k with
    | zero => exact Nat.le_refl _
    | succ k ih => exact Nat.le_trans ih (pcs_up1 t n (i + k))
  have h := this (j - i)
  rw [show i + (j - i) = j by omega] at h
  exact h
theorem actQ_up {p : pP} (hu : pUp p) (i0 : Nat) : actQ p i0 (fun a => nmA a → p.2.1 i0 ≤ a.2.2) := by
  refine ⟨fun h => ?_, fun c h => absurd h (opA_no c), fun i hi h => hu i0 i hi, fun i hi h => hu i0 i hi, fun i hi _ => hu i0 i hi, fun i hi _ => hu i0 i hi, fun i hi _ => hu i0 i hi⟩
  exact absurd h (show ¬ (nI 6 = nI 3 ∨ nI 6 = nI 4 ∨ nI 6 = nI 5) by decide)
theorem actQ_7 {p : pP} (h7 : ∀ i, p.2.1 i ≤ 700) : actQ p 0 (fun a => a.2.2 ≤ 700) := ⟨Nat.zero_le _, fun _ => Nat.zero_le _, fun i _ => h7 i, fun i _ => h7 i, fun i _ => h7 i, fun i _ => h7 i, fun i _ => h7 i⟩
theorem ruF_G {p : pP} (hu : pUp p) (h7 : ∀ i, p.2.1 i ≤ 700) {i j : Nat} {r : rT} (e : ruF p i = .inr (j, r)) : rG r ∧ p.2.1 i ≤ r.2.2.1 ∧ i < j := by
  unfold ruF at e
  split at e
  · split at e
    · split at e
      · have e := Prod.mk.inj (Sum.inr.inj e)
        rw [← e.1, ← e.2]
        exact ⟨⟨Nat.le_refl _, (fun z => by cases z), fun z => absurd rfl z, fun a ha => absurd ha List.not_mem_nil, (fun z => by cases z)⟩, hu i (i + 1) (by omega), by omega⟩
      · cases e
    · cases e
  · split at e
    · split at e
      · have h := exF_Q (actQ_up hu (i + 2)) (i + 2) (Nat.le_refl _)
        have h8 := exF_Q (actQ_7 h7) (i + 2) (Nat.zero_le _)
        have h9 := sm_one (p := p) (fcF_one 20) (i + 2)
        split at e
        · cases e
        · rename_i q B e2
          rw [e2] at h h8
          rw [show smF p (fcF p 20) (i + 2) = .inr (q, B) from e2] at h9
          split at e
          · have e := Prod.mk.inj (Sum.inr.inj e)
            rw [← e.1, ← e.2]
            have hij := h9.1
            refine ⟨⟨?_, ?_, fun _ => hu i (i + 2) (by omega), fun a ha hn => Nat.le_trans (hu i (i + 2) (by omega)) (h a ha hn), fun z => ?_⟩, Nat.le_refl _, by omega⟩
            · show (if pWd p i 7038329 = true then 0 else 1) ≤ 2
              split <;> omega
            · intro z
              have z : (if pWd p i 7038329 = true then 0 else 1) = 0 := z
              show (if pWd p i 7038329 = true then (0 : Int64) else p.2.2 i) = 0
              split at z
              · rename_i w
                rw [if_pos w]
              · cases z
            · have z2 : (!pWd p i 7038329 && jsB p (i + 2) B) = true := z
              rw [Bool.and_eq_true, Bool.not_eq_true'] at z2
              obtain ⟨a, ea, ea3⟩ := jsB_1 z2.2
              refine ⟨?_, a, ea, ?_⟩
              · show (if pWd p i 7038329 = true then 0 else 1) = 1
                rw [z2.1]
                rfl
              · have z3 := z2.2
                rw [ea] at z3
                have z4 : (decide (a.1 = nI 3) && decide (nI a.2.2 = nI (p.2.1 (i + 2)))) = true := z3
                rw [Bool.and_eq_true, decide_eq_true_eq, decide_eq_true_eq] at z4
                have a7 := h8 a (by rw [ea]; exact List.mem_singleton.mpr rfl)
                have b7 := h7 (i + 2)
                have z5 := z4.2
                rw [k_eq (by have : a.2.2 ≤ 700 := a7; omega) (by omega)] at z5
                exact z5
          · cases e
      · cases e
    · cases e
theorem rlF_G {p : pP} (hu : pUp p) (h7 : ∀ i, p.2.1 i ≤ 700) : ∀ (f i : Nat) {j : Nat} {L : List rT}, rlF p f i = .inr (j, L) → i < j ∧ ∀ r, r ∈ L → rG r ∧ p.2.1 i ≤ r.2.2.1
  | 0, i, j, L, e => by cases e
  | f + 1, i, j, L, e => by
    unfold rlF at e
    split at e
    · have e := Prod.mk.inj (Sum.inr.inj e)
      rw [← e.1, ← e.2]
      exact ⟨Nat.lt_succ_self i, fun x hx => absurd hx List.not_mem_nil⟩
    · split at e
      · cases e
      · rename_i q r e2
        split at e
        · cases e
        · rename_i z L2 e3
          have e := Prod.mk.inj (Sum.inr.inj e)
          rw [← e.1, ← e.2]
          obtain ⟨g1, g2, g3⟩ := ruF_G hu h7 e2
          obtain ⟨k1, k2⟩ := rlF_G hu h7 f q e3
          refine ⟨by omega, fun x hx => ?_⟩
          rcases List.mem_cons.mp hx with w | w
          · rw [w]
            exact ⟨g1, g2⟩
          · exact ⟨(k2 x w).1, Nat.le_trans (hu i q (by omega)) (k2 x w).2⟩
