/-! The class reads a text. -/
theorem mvF_hd (p : pP) (i : Nat) : mvF p i = (match hdF p i with
    | .inl q => .inl q
    | .inr (true, j) => .inr (j, (true, p.2.2 (i + 1), p.2.1 (i + 1), 0, 0, []))
    | .inr (false, j) => (match rlF p 701 j with
      | .inl q => .inl q
      | .inr (q, L) => .inr (q, (false, p.2.2 (i + 1), p.2.1 (i + 1), p.2.2 (i + 3), p.2.1 (i + 3), L)))) := by
  unfold mvF hdF
  by_cases c1 : pWd p i 1685221232 = true
  · rw [if_pos c1, if_pos c1]
    by_cases c2 : pNm p (i + 1) = true
    · rw [if_pos c2, if_pos c2]
      by_cases c3 : p.1 (i + 2) = nI 59
      · rw [if_pos c3, if_pos c3]
      · rw [if_neg c3, if_neg c3]
    · rw [if_neg c2, if_neg c2]
  · rw [if_neg c1, if_neg c1]
    by_cases c2 : pWd p i 1836021349 = true
    · rw [if_pos c2, if_pos c2]
      by_cases c3 : pNm p (i + 1) = true
      · rw [if_pos c3, if_pos c3]
        by_cases c4 : pWd p (i + 2) 29807 = true
        · rw [if_pos c4, if_pos c4]
          by_cases c5 : pNm p (i + 3) = true
          · rw [if_pos c5, if_pos c5]
            by_cases c6 : p.1 (i + 4) = nI 123
            · rw [if_pos c6, if_pos c6]
              rfl
            · rw [if_neg c6, if_neg c6]
          · rw [if_neg c5, if_neg c5]
        · rw [if_neg c4, if_neg c4]
      · rw [if_neg c3, if_neg c3]
    · rw [if_neg c2, if_neg c2]
theorem mvF_0 {p : pP} {i q : Nat} (h : hdF p i = .inl q) : mvF p i = .inl q := by
  rw [mvF_hd, h]
theorem mvF_d {p : pP} {i j : Nat} (h : hdF p i = .inr (true, j)) : mvF p i = .inr (j, (true, p.2.2 (i + 1), p.2.1 (i + 1), 0, 0, [])) := by
  rw [mvF_hd, h]
theorem mvF_x {p : pP} {i j q : Nat} (h : hdF p i = .inr (false, j)) (h2 : rlF p 701 j = .inl q) : mvF p i = .inl q := by
  rw [mvF_hd, h]
  show (match rlF p 701 j with
    | .inl q => Sum.inl q
    | .inr (q, L) => Sum.inr (q, (false, p.2.2 (i + 1), p.2.1 (i + 1), p.2.2 (i + 3), p.2.1 (i + 3), L))) = _
  rw [h2]
theorem mvF_m {p : pP} {i j q : Nat} {L : List rT} (h : hdF p i = .inr (false, j)) (h2 : rlF p 701 j = .inr (q, L)) : mvF p i = .inr (q, (false, p.2.2 (i + 1), p.2.1 (i + 1), p.2.2 (i + 3), p.2.1 (i + 3), L)) := by
  rw [mvF_hd, h]
  show (match rlF p 701 j with
    | .inl q => Sum.inl q
    | .inr (q, L) => Sum.inr (q, (false, p.2.2 (i + 1), p.2.1 (i + 1), p.2.2 (i + 3), p.2.1 (i + 3), L))) = _
  rw [h2]
theorem txF_e {p : pP} {f j : Nat} (h : p.1 j = nI 0) : txF p (f + 1) j = .inr [] := by
  show (if p.1 j = nI 0 then Sum.inr [] else _) = _
  rw [if_pos h]
theorem txF_n {p : pP} {f j : Nat} (h : ¬ p.1 j = nI 0) : txF p (f + 1) j = (match mvF p j with
    | .inl q => .inl q
    | .inr (q, m) => (match txF p f q with
      | .inl z => .inl z
      | .inr L => .inr (m :: L))) := by
  show (if p.1 j = nI 0 then Sum.inr [] else _) = _
  rw [if_neg h]
  rfl
theorem txF_1 {p : pP} {f j q : Nat} (h : ¬ p.1 j = nI 0) (h1 : mvF p j = .inl q) : txF p (f + 1) j = .inl q := by
  rw [txF_n h, h1]
theorem txF_2 {p : pP} {f j q z : Nat} {m : mT} (h : ¬ p.1 j = nI 0) (h1 : mvF p j = .inr (q, m)) (h2 : txF p f q = .inl z) : txF p (f + 1) j = .inl z := by
  rw [txF_n h, h1]
  show (match txF p f q with
    | .inl z => Sum.inl z
    | .inr L => Sum.inr (m :: L)) = _
  rw [h2]
theorem txF_3 {p : pP} {f j q : Nat} {m : mT} {L : List mT} (h : ¬ p.1 j = nI 0) (h1 : mvF p j = .inr (q, m)) (h2 : txF p f q = .inr L) : txF p (f + 1) j = .inr (m :: L) := by
  rw [txF_n h, h1]
  show (match txF p f q with
    | .inl z => Sum.inl z
    | .inr L => Sum.inr (m :: L)) = _
  rw [h2]
theorem below_3 (a : Nat) : below 3 a (a + 7) := by
  intro q hq
  unfold ofp at hq
  rw [Bool.or_eq_true, decide_eq_true_eq, Bool.and_eq_true, decide_eq_true_eq] at hq
  rcases hq with h | ⟨h1, h2⟩
  · omega
  · cases h3 : o_at 3 (q - a) with
    | none =>
      rw [h3] at h2
      cases h2
    | some k =>
      have h4 : q - a < 7 := o_at_lt h3
      omega
abbrev pM : Type := Nat → Option (Int32 × mS)
def mvD (fo ft : Int64 → Option Nat) (E1 E2 : Nat → kE) (e0 : kE) (nE : Option Nat → Nat) (nm : Option Nat → Nat → Int64) (c0 : Nat) (m : mT) : Int32 × mS := if m.1 = true then (-nI 1, ms0) else (oI (ft m.2.2.2.1), ihP (oE E1 e0 (fo m.2.1)) (oE E2 e0 (ft m.2.2.2.1)) (nm (ft m.2.2.2.1)) (nE (ft m.2.2.2.1)) 0 (rusM (oE E1 e0 (fo m.2.1)) (oE E2 e0 (ft m.2.2.2.1)) c0 ms0 m.2.2.2.2.2))
def pm1 (PM : pM) (v : Int32 × mS) : Option Nat → pM
  | none => PM
  | some c => if (PM c).isSome = true then PM else up PM c (some v)
def pmL (fo ft : Int64 → Option Nat) (E1 E2 : Nat → kE) (e0 : kE) (nE : Option Nat → Nat) (nm : Option Nat → Nat → Int64) : pM → Nat → List mT → pM
  | PM, _, [] => PM
  | PM, c0, m :: L => pmL fo ft E1 E2 e0 nE nm (pm1 PM (mvD fo ft E1 E2 e0 nE nm c0 m) (fo m.2.1)) (c0 + (moCod fo E1 e0 m).length) L
def uP (PM : pM) : Nat → Bool := fun c => (PM c).isSome
theorem uP_1 (PM : pM) (v : Int32 × mS) (o : Option Nat) : uP (pm1 PM v o) = usN (uP PM) o := by
  cases o with
  | none => rfl
  | some c =>
    funext q
    show ((if (PM c).isSome = true then PM else up PM c (some v)) q).isSome = up (uP PM) c true q
    unfold up
    by_cases h : (PM c).isSome = true
    · rw [if_pos h]
      by_cases e : q = c
      · rw [if_pos e, e]
        exact h
      · rw [if_neg e]
        rfl
    · rw [if_neg h]
      by_cases e : q = c
      · rw [if_pos e, if_pos e]
        rfl
      · rw [if_neg e, if_neg e]
        rfl
/-- the Move of a CLASS -/
def mvC (h : xH) (n0 W : Nat) (v : Value) : Option (Int32 × mS) → Prop
  | none => v = .null
  | some q => ∃ a T, v = .ref a ∧ isB 3 h a T ∧ msT T q.1 q.2 ∧ n0 ≤ a ∧ below 3 a h.2.2.1 ∧ ofp 3 a W = false
theorem mvC.kp {h h' : xH} {n0 W : Nat} {v : Value} {q : Option (Int32 × mS)} (H : mvC h n0 W v q) (hk : ∀ x, x < h.2.2.1 → x ≠ W → h'.1 x = h.1 x) (hn : h.2.2.1 ≤ h'.2.2.1) : mvC h' n0 W v q := by
  cases q with
  | none => exact H
  | some q =>
    obtain ⟨a, T, e1, e2, e3, e4, e5, e6⟩ := H
    refine ⟨a, T, e1, e2.any (fun x hx => hk x (e5 x hx) (fun z => ?_)), e3, e4, e5.le hn, e6⟩
    rw [z, e6] at hx
    cases hx
theorem mvC.W {h : xH} {n0 W : Nat} {PM : pM} {w : Nat → Value} (H : ∀ c, c < 6 → mvC h n0 W (w c) (PM c)) : mvW (uP PM) w := by
  intro c hc
  have := H c hc
  refine ⟨fun hu => ?_, fun hu => ?_⟩
  · unfold uP at hu
    cases hq : PM c with
    | none =>
      rw [hq] at this
      exact this
    | some q =>
      rw [hq] at hu
      cases hu
  · unfold uP at hu
    cases hq : PM c with
    | none =>
      rw [hq] at hu
      cases hu
    | some q =>
      rw [hq] at this
      obtain ⟨a, T, e1, _⟩ := this
      exact ⟨a, e1⟩
theorem mvX_ok {h : xH} {W : Nat} {U : Nat → Bool} {w : Nat → Value} (tv : Int32) (o : Option Nat) (hW : laQ h W 6 w) (hWa : W < h.2.2.1) : laQ (mvX U w W h.2.2.1 (mvH h tv) o) W 6 (wN U w h.2.2.1 o) ∧ isB 3 (mvX U w W h.2.2.1 (mvH h tv) o) h.2.2.1 (mvS tv 8) ∧ (∀ q, q < h.2.2.1 → q ≠ W → (mvX U w W h.2.2.1 (mvH h tv) o).1 q = h.1 q) ∧ (mvX U w W h.2.2.1 (mvH h tv) o).2.2.1 = h.2.2.1 + 7 ∧ (mvX U w W h.2.2.1 (mvH h tv) o).2.2.2 = h.2.2.2 + 58 ∧ (mvX U w W h.2.2.1 (mvH h tv) o).2.1 = h.2.1 := by
  have HA : isB 3 (mvH h tv) h.2.2.1 (mvS tv 8) := isB_oh _ _ _ _
  have hW' : laQ (mvH h tv) W 6 w := (mvH_kp h tv W hWa).trans hW
  have base : laQ (mvH h tv) W 6 w ∧ isB 3 (mvH h tv) h.2.2.1 (mvS tv 8) ∧ (∀ q, q < h.2.2.1 → q ≠ W → (mvH h tv).1 q = h.1 q) ∧ (mvH h tv).2.2.1 = h.2.2.1 + 7 ∧ (mvH h tv).2.2.2 = h.2.2.2 + 58 ∧ (mvH h tv).2.1 = h.2.1 := ⟨hW', HA, fun q hq _ => mvH_kp h tv q hq, rfl, rfl, rfl⟩
  cases o with
  | none => exact base
  | some c =>
    unfold mvX wN
    by_cases hu : U c = true
    · simp only [hu, if_true]
      exact base
    · simp only [hu, if_false]
      refine ⟨va_up_self _ _ _, HA.any (fun q hq => ?_), fun q hq hne => ?_, rfl, rfl, rfl⟩
      · exact va_up_ne _ _ (fun z => by
          have := ofp_ge hq
          omega)
      · show va_up (mvH h tv).1 W _ q = h.1 q
        rw [va_up_ne _ _ hne]
        exact mvH_kp h tv q hq
/-- the Moves of all CLASSES behind a MOVE -/
theorem mv_next {h h' : xH} {n0 W a : Nat} {PM : pM} {w : Nat → Value} {o : Option Nat} {T : gS} {v : Int32 × mS} (H : ∀ c, c < 6 → mvC h n0 W (w c) (PM c)) (hk : ∀ x, x < h.2.2.1 → x ≠ W → h'.1 x = h.1 x) (hn : h.2.2.1 ≤ h'.2.2.1) (hA : isB 3 h' a T) (hm : msT T v.1 v.2) (ha : n0 ≤ a) (hb : below 3 a h'.2.2.1) (hW : ofp 3 a W = false) : ∀ c, c < 6 → mvC h' n0 W (wN (uP PM) w a o c) (pm1 PM v o c) := by
  intro c hc
  cases o with
  | none => exact (H c hc).kp hk hn
  | some q =>
    show mvC h' n0 W ((if (PM q).isSome = true then w else updV w q (.ref a)) c) ((if (PM q).isSome = true then PM else up PM q (some v)) c)
    by_cases hu : (PM q).isSome = true
    · rw [if_pos hu, if_pos hu]
      exact (H c hc).kp hk hn
    · rw [if_neg hu, if_neg hu]
      unfold up updV
      by_cases e : c = q
      · rw [if_pos e, if_pos e]
        exact ⟨a, T, rfl, hA, hm, ha, hb, hW⟩
      · rw [if_neg e, if_neg e]
        exact (H c hc).kp hk hn
theorem oE_k (SK0 : gS) (SK : Nat → gS) (m : Nat → Nat) (o : Option Nat) : oE (fun c => eC (SK c) (m c)) (eC SK0 0) o = eC (kT SK0 SK o) (kC m o) := by cases o <;> rfl
def txI (D Q P W n0 : Nat) (S0 : gS) (fo ft : Int64 → Option Nat) (E1 E2 : Nat → kE) (e0 : kE) (nE : Option Nat → Nat) (nm : Option Nat → Nat → Int64) (N j k kk z : Nat) (C : List cT) (PM : pM) (l1 l3 l4 : Value) (l2 : Int32) (S : gS) (h : xH) : Nat ⊕ List mT → Prop
  | .inl q => q ≤ N ∧ ∃ S' h' k' g, xrun D 40 19 [(1, .ref Q), (1, l1), (1, .int l2), (1, l3), (1, l4), (1, .int (nI k))] [] (oh 4 h Q S) = xrun D 40 114 [(1, .ref Q), (1, l1), (1, .int l2), (1, l3), (1, l4), (1, .int (nI k'))] [] (oh 4 h' Q S') ∧ hX P S0 S' q ∧ kp n0 h h' ∧ h'.2.1 = h.2.1 ∧ 3 * g + j ≤ N + 3 ∧ h'.2.2.1 = h.2.2.1 + 7 * g ∧ h'.2.2.2 = h.2.2.2 + 58 * g
  | .inr L => ∃ S' h' k' w' j', xrun D 40 19 [(1, .ref Q), (1, l1), (1, .int l2), (1, l3), (1, l4), (1, .int (nI k))] [] (oh 4 h Q S) = xrun D 40 114 [(1, .ref Q), (1, l1), (1, .int l2), (1, l3), (1, l4), (1, .int (nI k'))] [] (oh 4 h' Q S') ∧ j' ≤ N ∧ hV P S0 S' j' (mnF (cmosB fo ft E1 E2 e0 nE (uP PM) C.length L) z) (C ++ L.flatMap (moCod fo E1 e0)) ∧ sI S' 8 = nI (kk + L.length) ∧ laQ h' W 6 w' ∧ (∀ c, c < 6 → mvC h' n0 W (w' c) (pmL fo ft E1 E2 e0 nE nm PM C.length L c)) ∧ kp n0 h h' ∧ h'.2.1 = h.2.1 ∧ h'.2.2.1 = h.2.2.1 + 7 * L.length ∧ h'.2.2.2 = h.2.2.2 + 58 * L.length ∧ 3 * L.length + j ≤ N ∧ (C ++ L.flatMap (moCod fo E1 e0) = [] ∨ (C ++ L.flatMap (moCod fo E1 e0)).length + 5 ≤ N)
theorem rd_text (d : Nat) {Q P β1 β2 κ0 N n0 W : Nat} {SP SB1 SB2 SK0 S0 : gS} {n1 n2 : Nat} {κ1 κ2 : Nat → Nat} {SK1 SK2 : Nat → gS} {m1 m2 : Nat → Nat} {p : pP} {l1 l3 l4 : Value} {l2 : Int32} (hs : hS Q P SP N p) (hu : ∀ i, ¬ p.1 i = nI 0 → p.2.1 i < p.2.1 (i + 1)) (h3 : sI SP 3 = nI (N + 1)) (hW0 : n0 ≤ W) (hp : pB S0 κ0 β1 β2) (r7 : sR S0 7 = .ref W) (hK1 : ∀ c, c < n1 → kOK (SK1 c) (m1 c)) (hK2 : ∀ c, c < n2 → kOK (SK2 c) (m2 c)) : ∀ (f j k kk z : Nat) (S : gS) (h : xH) (C : List cT) (PM : pM) (w : Nat → Value), pE Q P β1 β2 κ0 n0 SP SB1 SB2 SK0 n1 n2 κ1 κ2 SK1 SK2 h → n0 ≤ h.2.2.1 → laQ h W 6 w → W < h.2.2.1 → (∀ c, c < 6 → mvC h n0 W (w c) (PM c)) → hV P S0 S j z C → sI S 8 = nI kk → sI S 12 = nI 0 → kk ≤ j → (C = [] ∨ C.length + 5 ≤ j) → j ≤ N → k ≤ j → N < f + j → txI (d + 67) Q P W n0 S0 (bF n1 SK1) (bF n2 SK2) (fun c => eC (SK1 c) (m1 c)) (fun c => eC (SK2 c) (m2 c)) (eC SK0 0) (kC m2) (fun t => sL (kT SK0 SK2 t) 1) N j k kk z C PM l1 l3 l4 l2 S h (txF p f j)
  | 0, j, k, kk, z, S, h, C, PM, w, hE, h0, hW, hWa, hM, hv, h8, h12, hkk, hC, hj, hk, hf => by omega
  | f + 1, j, k, kk, z, S, h, C, PM, w, hE, h0, hW, hWa, hM, hv, h8, h12, hkk, hC, hj, hk, hf => by
    have hN := hs.2.2.1
    have hN7 := hN.1
    have a1 := hE.1
    have a11 := hE.2.2.2.2.2.2.2.2.2.2.1
    have eK : xm (d + 67) 47 [.ref Q] (oh 4 h Q S) = _ := h_kind (d + 66) hs a1 hv.r0 hv.2.1 hj
    have h14 := hv.2.2.1
    have k7 : ¬ 700 < k := by omega
    have hCj : C.length ≤ j := by
      rcases hC with z | z
      · rw [z]
        exact Nat.zero_le _
      · omega
    by_cases c0 : p.1 j = nI 0
    · rw [txF_e c0]
      have ec : cK p j = nI 0 := (cK_c (by decide)).mpr c0
      rw [ec] at eK
      refine ⟨S, h, k, w, j, ?_, hj, ?_, h8, hW, hM, kp.rfl, rfl, rfl, rfl, by show 3 * 0 + j ≤ N; omega, ?_⟩
      · rw [q_40_19]
        simp (disch := omega) only [q_40_0, q_40_1, q_40_2, q_40_4, q_40_7, q_40_8, q_40_11, q_40_12, q_40_13, q_40_16, q_40_17, q_40_21, q_40_24, q_40_27, q_40_28, q_40_31, q_40_34, q_40_35, q_40_38, q_40_41, q_40_42, q_40_45, q_40_48, q_40_49, q_40_52, q_40_55, q_40_56, q_40_59, q_40_62, q_40_63, q_40_66, q_40_68, q_40_71, q_40_72, q_40_75, q_40_76, q_40_79, q_40_80, q_40_83, q_40_86, q_40_87, q_40_88, q_40_91, q_40_92, q_40_93, q_40_96, q_40_97, q_40_98, q_40_101, q_40_104, q_40_105, q_40_108, q_40_111, og_4_0, og_4_14, og_4_12, op_4_12, og_4_11, og_4_9, og_4_10, og_4_13, op_4_13, og_4_7, og_4_2, or_4_2, ow_4_2, og_4_4, og_4_3, or_4_3, ow_4_3, og_4_6, og_4_8, o_is, o_ob, ofs_len4, ↓reduceIte, k_cr, k_ci, k_oR, k_oN, k_aR, k_aN, and_true, true_and, and_self, eq_self, Nat.reduceLT, Nat.reduceLeDiff, Nat.reduceEqDiff, Nat.reduceAdd, Nat.reduceMul, Bool.true_eq_false, Bool.false_eq_true, Nat.add_sub_cancel, Nat.not_lt_zero, Nat.zero_le, k_sub, k_sb1, k_r, k_n, k_ret, k_t1, k_t0, k_nr, k_nn, k_z0, k_z1, k_zb, x_okI, lit_nI, k_in, k_cl, k_lt, k_le, k_eq, k_neg, nI_add, nI_mul, k_clt, k_cgt, k_cle, k_cge, k_ceq, bI_0, k_sh8, ne_eq, Nat.add_eq_zero_iff, Nat.one_ne_zero, Nat.succ_ne_zero, and_false, false_and, not_false_eq_true, not_true_eq_false, ite_true, ite_false, if_true, if_false, k7, h14, h12, eK]
      · show hV P S0 S j z (C ++ [])
        rw [List.append_nil]
        exact hv
      · show C ++ [] = [] ∨ (C ++ []).length + 5 ≤ N
        rw [List.append_nil]
        rcases hC with z | z
        · exact Or.inl z
        · exact Or.inr (by omega)
    · have ec : ¬ cK p j = nI 0 := fun q => c0 ((cK_c (by decide)).mp q)
      have hH : hdR (d + 67) Q P W κ0 κ1 κ2 S0 (bF n1 SK1) (bF n2 SK2) (uP PM) w p N j z kk C S h (hdF p j) := h_head (d + 64) hs hE h0 hW hW0 hWa (mvC.W hM) hp r7 hv h8 (by omega) hj
      have go : ∀ h', xm (d + 67) 48 [.ref Q] (oh 4 h Q S) = some (none, h') → xrun (d + 67) 40 19 [(1, .ref Q), (1, l1), (1, .int l2), (1, l3), (1, l4), (1, .int (nI k))] [] (oh 4 h Q S) = xrun (d + 67) 40 19 [(1, .ref Q), (1, l1), (1, .int l2), (1, l3), (1, l4), (1, .int (nI (k + 1)))] [] h' := by
        intro h' e
        generalize cK p j = ck at *
        rw [q_40_19]
        simp (disch := omega) only [q_40_0, q_40_1, q_40_2, q_40_4, q_40_7, q_40_8, q_40_11, q_40_12, q_40_13, q_40_16, q_40_17, q_40_21, q_40_24, q_40_27, q_40_28, q_40_31, q_40_34, q_40_35, q_40_38, q_40_41, q_40_42, q_40_45, q_40_48, q_40_49, q_40_52, q_40_55, q_40_56, q_40_59, q_40_62, q_40_63, q_40_66, q_40_68, q_40_71, q_40_72, q_40_75, q_40_76, q_40_79, q_40_80, q_40_83, q_40_86, q_40_87, q_40_88, q_40_91, q_40_92, q_40_93, q_40_96, q_40_97, q_40_98, q_40_101, q_40_104, q_40_105, q_40_108, q_40_111, og_4_0, og_4_14, og_4_12, op_4_12, og_4_11, og_4_9, og_4_10, og_4_13, op_4_13, og_4_7, og_4_2, or_4_2, ow_4_2, og_4_4, og_4_3, or_4_3, ow_4_3, og_4_6, og_4_8, o_is, o_ob, ofs_len4, ↓reduceIte, k_cr, k_ci, k_oR, k_oN, k_aR, k_aN, and_true, true_and, and_self, eq_self, Nat.reduceLT, Nat.reduceLeDiff, Nat.reduceEqDiff, Nat.reduceAdd, Nat.reduceMul, Bool.true_eq_false, Bool.false_eq_true, Nat.add_sub_cancel, Nat.not_lt_zero, Nat.zero_le, k_sub, k_sb1, k_r, k_n, k_ret, k_t1, k_t0, k_nr, k_nn, k_z0, k_z1, k_zb, x_okI, lit_nI, k_in, k_cl, k_lt, k_le, k_eq, k_neg, nI_add, nI_mul, k_clt, k_cgt, k_cle, k_cge, k_ceq, bI_0, k_sh8, ne_eq, Nat.add_eq_zero_iff, Nat.one_ne_zero, Nat.succ_ne_zero, and_false, false_and, not_false_eq_true, not_true_eq_false, ite_true, ite_false, if_true, if_false, k7, h14, h12, eK, ec, e]
      have hWQ : ofp 4 Q W = false := a11.out hW0
      have stop : ∀ (S' : gS) (h' : xH) (k' q : Nat), k' ≤ 701 → hX P S0 S' q → xrun (d + 67) 40 19 [(1, .ref Q), (1, l1), (1, .int l2), (1, l3), (1, l4), (1, .int (nI k'))] [] (oh 4 h' Q S') = xrun (d + 67) 40 114 [(1, .ref Q), (1, l1), (1, .int l2), (1, l3), (1, l4), (1, .int (nI k'))] [] (oh 4 h' Q S') := by
        intro S' h' k' q hk' hx
        have f14 := hx.2.2.1
        rw [q_40_19]
        by_cases k8 : 700 < k'
        · simp (disch := omega) only [q_40_21, q_40_24, o_is, ↓reduceIte, k_cr, k_ci, k_oR, k_oN, k_aR, k_aN, and_true, true_and, and_self, eq_self, Nat.reduceLT, Nat.reduceLeDiff, Nat.reduceEqDiff, Nat.reduceAdd, Nat.reduceMul, Bool.true_eq_false, Bool.false_eq_true, Nat.add_sub_cancel, Nat.not_lt_zero, Nat.zero_le, k_sub, k_sb1, k_r, k_n, k_ret, k_t1, k_t0, k_nr, k_nn, k_z0, k_z1, k_zb, x_okI, lit_nI, k_in, k_cl, k_lt, k_le, k_eq, k_neg, nI_add, nI_mul, k_clt, k_cgt, k_cle, k_cge, k_ceq, bI_0, k_sh8, ne_eq, Nat.add_eq_zero_iff, Nat.one_ne_zero, Nat.succ_ne_zero, and_false, false_and, not_false_eq_true, not_true_eq_false, ite_true, ite_false, if_true, if_false, k8]
        · simp (disch := omega) only [q_40_21, q_40_24, q_40_27, q_40_28, q_40_31, og_4_14, o_is, ↓reduceIte, k_cr, k_ci, k_oR, k_oN, k_aR, k_aN, and_true, true_and, and_self, eq_self, Nat.reduceLT, Nat.reduceLeDiff, Nat.reduceEqDiff, Nat.reduceAdd, Nat.reduceMul, Bool.true_eq_false, Bool.false_eq_true, Nat.add_sub_cancel, Nat.not_lt_zero, Nat.zero_le, k_sub, k_sb1, k_r, k_n, k_ret, k_t1, k_t0, k_nr, k_nn, k_z0, k_z1, k_zb, x_okI, lit_nI, k_in, k_cl, k_lt, k_le, k_eq, k_neg, nI_add, nI_mul, k_clt, k_cgt, k_cle, k_cge, k_ceq, bI_0, k_sh8, ne_eq, Nat.add_eq_zero_iff, Nat.one_ne_zero, Nat.succ_ne_zero, and_false, false_and, not_false_eq_true, not_true_eq_false, ite_true, ite_false, if_true, if_false, k8, f14]
      cases hd : hdF p j with
      | inl q =>
        rw [hd] at hH
        obtain ⟨hq, S', h', e, hx, hh⟩ := hH
        have e2 := (go _ e).trans (stop S' h' (k + 1) q (by omega) hx)
        rw [txF_1 c0 (mvF_0 hd)]
        rcases hh with rfl | ⟨tv, rfl⟩
        · exact ⟨hq, S', h', k + 1, 0, e2, hx, kp.rfl, rfl, by omega, rfl, rfl⟩
        · obtain ⟨x1, x2, x3, x4, x5, x6⟩ := mvX_ok (U := uP PM) tv (bF n1 SK1 (p.2.2 (j + 1))) hW hWa
          exact ⟨hq, S', _, k + 1, 1, e2, hx, fun y hy => x3 y (by omega) (by omega), x6, by omega, x4, x5⟩
      | inr bj =>
        obtain ⟨b, j2⟩ := bj
        rw [hd] at hH
        cases b with
        | true =>
          obtain ⟨hj1, hj2, S', e, hv', h8', h12'⟩ := hH
          obtain ⟨x1, x2, x3, x4, x5, x6⟩ := mvX_ok (U := uP PM) (-nI 1) (bF n1 SK1 (p.2.2 (j + 1))) hW hWa
          have kp0 : kp n0 h (mvX (uP PM) w W h.2.2.1 (mvH h (-nI 1)) (bF n1 SK1 (p.2.2 (j + 1)))) := fun y hy => x3 y (by omega) (by omega)
          have hM' := mv_next (o := bF n1 SK1 (p.2.2 (j + 1))) (v := (-nI 1, ms0)) hM x3 (by omega) x2 (msT_new (-nI 1)) h0 (by rw [x4]; exact below_3 _) (ofp_lo hWa)
          have ih := rd_text d (l1 := l1) (l2 := l2) (l3 := l3) (l4 := l4) hs hu h3 hW0 hp r7 hK1 hK2 f j2 (k + 1) (kk + 1) _ S' _ C _ _ (hE.kp kp0) (by omega) x1 (by omega) hM' hv' h8' h12' (by omega) (by
            rcases hC with z | z
            · exact Or.inl z
            · exact Or.inr (by omega)) hj2 (by omega) (by omega)
          cases ht : txF p f j2 with
          | inl q =>
            rw [ht] at ih
            obtain ⟨i1, S2, h2, k2, g, i2, i3, i4, i5, i6, i7, i8⟩ := ih
            rw [txF_2 c0 (mvF_d hd) ht]
            exact ⟨i1, S2, h2, k2, g + 1, (go _ e).trans i2, i3, kp0.trans i4, i5.trans x6, by omega, by omega, by omega⟩
          | inr L =>
            rw [ht] at ih
            obtain ⟨S2, h2, k2, w2, j3, i2, i3, i4, i5, i6, i7, i8, i9, i10, i11, i12, i13⟩ := ih
            rw [uP_1] at i4
            rw [txF_3 c0 (mvF_d hd) ht]
            refine ⟨S2, h2, k2, w2, j3, (go _ e).trans i2, i3, ?_, ?_, i6, ?_, kp0.trans i8, i9.trans x6, ?_, ?_, ?_, i13⟩
            · show hV P S0 S2 j3 (mnF ((clBad (uP PM) (p.2.1 (j + 1)) (bF n1 SK1 (p.2.2 (j + 1))) ++ []) ++ cmosB _ _ _ _ _ _ _ (C.length + 0) L) z) (C ++ L.flatMap _)
              rw [List.append_nil, mnF_app]
              exact i4
            · rw [i5, show (((true, p.2.2 (j + 1), p.2.1 (j + 1), 0, 0, []) : mT) :: L).length = L.length + 1 from rfl]
              congr 1
              omega
            · exact i7
            · rw [i10, x4, show (((true, p.2.2 (j + 1), p.2.1 (j + 1), 0, 0, []) : mT) :: L).length = L.length + 1 from rfl]
              omega
            · rw [i11, x5, show (((true, p.2.2 (j + 1), p.2.1 (j + 1), 0, 0, []) : mT) :: L).length = L.length + 1 from rfl]
              omega
            · rw [show (((true, p.2.2 (j + 1), p.2.1 (j + 1), 0, 0, []) : mT) :: L).length = L.length + 1 from rfl]
              omega
        | false =>
          obtain ⟨hj1, hj2, S', e, hv', h8', h12', r9, r10, r11⟩ := hH
          generalize ho : bF n1 SK1 (p.2.2 (j + 1)) = o at *
          generalize ht0 : bF n2 SK2 (p.2.2 (j + 3)) = t at *
          obtain ⟨x1, x2, x3, x4, x5, x6⟩ := mvX_ok (U := uP PM) (oI t) o hW hWa
          have kp0 : kp n0 h (mvX (uP PM) w W h.2.2.1 (mvH h (oI t)) o) := fun y hy => x3 y (by omega) (by omega)
          have hE' := hE.kp kp0
          obtain ⟨b1, b2, b3, b4⟩ := hE'.k1 (o := o) hK1 (fun c hc => bF_lt (ho.trans hc))
          obtain ⟨c1, c2, c3, c4⟩ := hE'.k2 (o := t) hK2 (fun c hc => bF_lt (ht0.trans hc))
          rw [kR_A] at r9 r10
          generalize hg : mvX (uP PM) w W h.2.2.1 (mvH h (oI t)) o = g1 at *
          have s2 : cS2 Q P (kA κ0 κ1 o) h.2.2.1 (kA κ0 κ2 t) SP (kT SK0 SK1 o) (kT SK0 SK2 t) (kC m1 o) (kC m2 t) N p := ⟨⟨hs.1, b3, a11.dj h0, (hE.2.2.2.2.1.dj h0).symm, (b4.dj h0).symm, b2, hs.2⟩, c3, (c4.dj h0).symm, c2⟩
          have hR := rd_rules d (l1 := l1) (l2 := l2) (l3 := l3) (l4 := l4) (kk := kk + 1) (tg := oI t) s2 hu h3 hE'.1 b1 c1 701 j2 (k + 1) S' (mvS (oI t) 8) _ C ms0 hv' h8' h12' r9 r10 r11 (msT_new (oI t)) (by omega) hj2 (by omega) (by omega)
          rw [← oE_k, ← oE_k] at hR
          have eg : oh 3 g1 h.2.2.1 (mvS (oI t) 8) = g1 := x2
          cases hr : rlF p 701 j2 with
          | inl q =>
            rw [hr] at hR
            obtain ⟨hq, S2, T2, k2, e2, hx⟩ := hR
            rw [eg] at e2
            rw [txF_1 c0 (mvF_x hd hr)]
            refine ⟨hq, S2, _, k2, 1, (go _ e).trans e2, hx, fun y hy => ?_, x6, by omega, x4, x5⟩
            rw [oh_same (ofp_lo (by omega))]
            exact kp0 y hy
          | inr jR =>
            obtain ⟨j3, R⟩ := jR
            rw [hr] at hR
            obtain ⟨y1, y2, S2, T2, k2, e2, y3, y4, y5, y6, y7, y8⟩ := hR
            rw [eg] at e2
            have kq : ∀ y, y < h.2.2.1 → y ≠ W → (oh 3 g1 h.2.2.1 T2).1 y = h.1 y := fun y hy hn => by
              rw [oh_same (ofp_lo hy)]
              exact x3 y hy hn
            have kp1 : kp n0 h (oh 3 g1 h.2.2.1 T2) := fun y hy => kq y (by omega) (by omega)
            have hM' := mv_next (o := o) (v := (oI t, ihP (oE (fun c => eC (SK1 c) (m1 c)) (eC SK0 0) o) (oE (fun c => eC (SK2 c) (m2 c)) (eC SK0 0) t) (sL (kT SK0 SK2 t) 1) (kC m2 t) 0 (rusM (oE (fun c => eC (SK1 c) (m1 c)) (eC SK0 0) o) (oE (fun c => eC (SK2 c) (m2 c)) (eC SK0 0) t) C.length ms0 R))) hM kq (show h.2.2.1 ≤ g1.2.2.1 by omega) (isB_oh _ _ _ _) y7 h0 (by show below 3 h.2.2.1 g1.2.2.1; rw [x4]; exact below_3 _) (ofp_lo hWa)
            have hmc : moCod (bF n1 SK1) (fun c => eC (SK1 c) (m1 c)) (eC SK0 0) (false, p.2.2 (j + 1), p.2.1 (j + 1), p.2.2 (j + 3), p.2.1 (j + 3), R) = R.flatMap (ruCod (oE (fun c => eC (SK1 c) (m1 c)) (eC SK0 0) o)) := by
              show R.flatMap (ruCod (oE (fun c => eC (SK1 c) (m1 c)) (eC SK0 0) (bF n1 SK1 (p.2.2 (j + 1))))) = _
              rw [ho]
            have ih := rd_text d (l1 := l1) (l2 := l2) (l3 := l3) (l4 := l4) hs hu h3 hW0 hp r7 hK1 hK2 f j3 k2 (kk + 1) _ S2 _ _ _ _ (hE.kp kp1) (show n0 ≤ g1.2.2.1 by omega) (x1.frame (ofp_lo hWa)) (show W < g1.2.2.1 by omega) hM' y4 y5 y6 (by omega) (Or.inr y8) y2 y3 (by omega)
            cases ht : txF p f j3 with
            | inl q =>
              rw [ht] at ih
              obtain ⟨i1, S3, h2, k3, g, i2, i3, i4, i5, i6, i7, i8⟩ := ih
              rw [txF_2 c0 (mvF_m hd hr) ht]
              exact ⟨i1, S3, h2, k3, g + 1, (go _ e).trans (e2.trans i2), i3, kp1.trans i4, i5.trans x6, by omega, i7.trans (by show g1.2.2.1 + 7 * g = _; omega), i8.trans (by show g1.2.2.2 + 58 * g = _; omega)⟩
            | inr L =>
              rw [ht] at ih
              obtain ⟨S3, h2, k3, w2, j4, i2, i3, i4, i5, i6, i7, i8, i9, i10, i11, i12, i13⟩ := ih
              rw [uP_1] at i4
              have ea : (C ++ R.flatMap (ruCod (oE (fun c => eC (SK1 c) (m1 c)) (eC SK0 0) o))) ++ L.flatMap (moCod (bF n1 SK1) (fun c => eC (SK1 c) (m1 c)) (eC SK0 0)) = C ++ ((false, p.2.2 (j + 1), p.2.1 (j + 1), p.2.2 (j + 3), p.2.1 (j + 3), R) :: L).flatMap (moCod (bF n1 SK1) (fun c => eC (SK1 c) (m1 c)) (eC SK0 0)) := by
                rw [List.flatMap_cons, hmc, List.append_assoc]
              have el : (C ++ R.flatMap (ruCod (oE (fun c => eC (SK1 c) (m1 c)) (eC SK0 0) o))).length = C.length + (moCod (bF n1 SK1) (fun c => eC (SK1 c) (m1 c)) (eC SK0 0) (false, p.2.2 (j + 1), p.2.1 (j + 1), p.2.2 (j + 3), p.2.1 (j + 3), R)).length := by
                rw [hmc]
                exact List.length_append
              rw [ea] at i4 i13
              rw [el] at i4 i7
              rw [txF_3 c0 (mvF_m hd hr) ht]
              refine ⟨S3, h2, k3, w2, j4, (go _ e).trans (e2.trans i2), i3, ?_, ?_, i6, ?_, kp1.trans i8, i9.trans x6, ?_, ?_, ?_, i13⟩
              · show hV P S0 S3 j4 (mnF (cmoB (bF n1 SK1) (bF n2 SK2) (fun c => eC (SK1 c) (m1 c)) (fun c => eC (SK2 c) (m2 c)) (eC SK0 0) (kC m2) (uP PM) C.length (false, p.2.2 (j + 1), p.2.1 (j + 1), p.2.2 (j + 3), p.2.1 (j + 3), R) ++ cmosB (bF n1 SK1) (bF n2 SK2) (fun c => eC (SK1 c) (m1 c)) (fun c => eC (SK2 c) (m2 c)) (eC SK0 0) (kC m2) (usN (uP PM) (bF n1 SK1 (p.2.2 (j + 1)))) _ L) z) _
                rw [show cmoB (bF n1 SK1) (bF n2 SK2) (fun c => eC (SK1 c) (m1 c)) (fun c => eC (SK2 c) (m2 c)) (eC SK0 0) (kC m2) (uP PM) C.length (false, p.2.2 (j + 1), p.2.1 (j + 1), p.2.2 (j + 3), p.2.1 (j + 3), R) = clBad (uP PM) (p.2.1 (j + 1)) (bF n1 SK1 (p.2.2 (j + 1))) ++ (tgB (bF n2 SK2 (p.2.2 (j + 3))) (p.2.1 (j + 3)) ++ crusB (oE (fun c => eC (SK1 c) (m1 c)) (eC SK0 0) (bF n1 SK1 (p.2.2 (j + 1)))) (oE (fun c => eC (SK2 c) (m2 c)) (eC SK0 0) (bF n2 SK2 (p.2.2 (j + 3)))) (kC m2 (bF n2 SK2 (p.2.2 (j + 3)))) C.length ms0 R) from rfl, ho, ht0, mnF_app, mnF_app, mnF_app]
                exact i4
              · rw [i5, show (((false, p.2.2 (j + 1), p.2.1 (j + 1), p.2.2 (j + 3), p.2.1 (j + 3), R) : mT) :: L).length = L.length + 1 from rfl]
                congr 1
                omega
              · intro c hc
                have := i7 c hc
                show mvC h2 n0 W (w2 c) (pmL _ _ _ _ _ _ _ (pm1 PM (mvD (bF n1 SK1) (bF n2 SK2) (fun c => eC (SK1 c) (m1 c)) (fun c => eC (SK2 c) (m2 c)) (eC SK0 0) (kC m2) (fun t => sL (kT SK0 SK2 t) 1) C.length (false, p.2.2 (j + 1), p.2.1 (j + 1), p.2.2 (j + 3), p.2.1 (j + 3), R)) (bF n1 SK1 (p.2.2 (j + 1)))) _ L c)
                rw [show mvD (bF n1 SK1) (bF n2 SK2) (fun c => eC (SK1 c) (m1 c)) (fun c => eC (SK2 c) (m2 c)) (eC SK0 0) (kC m2) (fun t => sL (kT SK0 SK2 t) 1) C.length (false, p.2.2 (j + 1), p.2.1 (j + 1), p.2.2 (j + 3), p.2.1 (j + 3), R) = (oI (bF n2 SK2 (p.2.2 (j + 3))), ihP (oE (fun c => eC (SK1 c) (m1 c)) (eC SK0 0) (bF n1 SK1 (p.2.2 (j + 1)))) (oE (fun c => eC (SK2 c) (m2 c)) (eC SK0 0) (bF n2 SK2 (p.2.2 (j + 3)))) (sL (kT SK0 SK2 (bF n2 SK2 (p.2.2 (j + 3)))) 1) (kC m2 (bF n2 SK2 (p.2.2 (j + 3)))) 0 (rusM (oE (fun c => eC (SK1 c) (m1 c)) (eC SK0 0) (bF n1 SK1 (p.2.2 (j + 1)))) (oE (fun c => eC (SK2 c) (m2 c)) (eC SK0 0) (bF n2 SK2 (p.2.2 (j + 3)))) C.length ms0 R)) from rfl, ho, ht0]
                exact this
              · rw [i10, show (((false, p.2.2 (j + 1), p.2.1 (j + 1), p.2.2 (j + 3), p.2.1 (j + 3), R) : mT) :: L).length = L.length + 1 from rfl]
                show g1.2.2.1 + 7 * L.length = _
                omega
              · rw [i11, show (((false, p.2.2 (j + 1), p.2.1 (j + 1), p.2.2 (j + 3), p.2.1 (j + 3), R) : mT) :: L).length = L.length + 1 from rfl]
                show g1.2.2.2 + 58 * L.length = _
                omega
              · rw [show (((false, p.2.2 (j + 1), p.2.1 (j + 1), p.2.2 (j + 3), p.2.1 (j + 3), R) : mT) :: L).length = L.length + 1 from rfl]
                omega
