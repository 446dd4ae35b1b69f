/-! What the class's parser holds while it reads an E. -/
theorem oh_comm {ci ci2 a a2 : Nat} (hd : dj ci a ci2 a2) (h : xH) (S S2 : gS) : oh ci (oh ci2 h a2 S2) a S = oh ci2 (oh ci h a S) a2 S2 := by
  refine Prod.ext ?_ rfl
  funext q
  cases he : ofp ci a q with
  | true =>
    obtain ⟨e, h2⟩ := ofp_in (S := S) he
    rw [oh_same (hd q he)]
    show (match ocell ci a S q with | some e => some e | none => (oh ci2 h a2 S2).1 q) = (match ocell ci a S q with | some e => some e | none => h.1 q)
    rw [h2]
  | false =>
    rw [oh_same he]
    show (match ocell ci2 a2 S2 q with | some e => some e | none => h.1 q) = (match ocell ci2 a2 S2 q with | some e => some e | none => (oh ci h a S).1 q)
    rw [oh_same he]
/-- blocks apart; the old CLASS; the pieces -/
def cS (Q P κ A : Nat) (SP SK : gS) (nO N : Nat) (p : pP) : Prop := dj 4 Q 0 P ∧ dj 4 Q 1 κ ∧ dj 4 Q 3 A ∧ dj 3 A 0 P ∧ dj 3 A 1 κ ∧ kOK SK nO ∧ (∀ j, j ≤ N → piV p SP j) ∧ nN p N ∧ (∀ i, ¬ (p.1 i = nI 4 ∨ p.1 i = nI 5 ∨ p.1 i = nI 6 ∨ p.1 i = nI 7)) ∧ ∀ i, p.2.1 i ≤ 700
def cH (P κ A : Nat) (SP SK T : gS) (h : xH) : Prop := isB 0 h P SP ∧ isB 1 h κ SK ∧ isB 3 h A T
theorem cH.mv {Q P κ A : Nat} {SP SK T : gS} {nO N : Nat} {p : pP} {h : xH} (hh : cH P κ A SP SK T h) (hs : cS Q P κ A SP SK nO N p) (T' : gS) : cH P κ A SP SK T' (oh 3 h A T') := ⟨hh.1.frame hs.2.2.2.1, hh.2.1.frame hs.2.2.2.2.1, isB_oh _ _ _ _⟩
theorem cH.same {P κ A : Nat} {SP SK T : gS} {h : xH} (hh : cH P κ A SP SK T h) : oh 3 h A T = h := hh.2.2
def eC (SK : gS) (nO : Nat) : kE := (fun w => fnd (sL SK 1) w nO, fun m => kRow SK m, fun m => decide (¬ sA SK 2 m ≤ nI 5))
section
variable {Q P κ A : Nat} {SP SK T : gS} {nO N : Nat} {p : pP} {h : xH} {S : gS}
theorem k_isK (hs : cS Q P κ A SP SK nO N p) (hh : cH P κ A SP SK T h) : ∀ (S : gS) {α : Type} (f : Option α), xis (oh 4 h Q S) κ 1 f = f := fun _ _ f => h_is (hh.2.1.frame hs.2.1) f
theorem k_isA (hs : cS Q P κ A SP SK nO N p) (hh : cH P κ A SP SK T h) : ∀ (S : gS) {α : Type} (f : Option α), xis (oh 4 h Q S) A 3 f = f := fun _ _ f => h_is (hh.2.2.frame hs.2.2.1) f
theorem k_isP (hs : cS Q P κ A SP SK nO N p) (hh : cH P κ A SP SK T h) : ∀ (S : gS) {α : Type} (f : Option α), xis (oh 4 h Q S) P 0 f = f := fun _ _ f => h_is (hh.1.frame hs.1) f
theorem k_kind (d : Nat) {i : Nat} (hs : cS Q P κ A SP SK nO N p) (hh : cH P κ A SP SK T h) (hr : sR S 0 = .ref P) (ha : sI S 13 = nI i) (hi : i ≤ N) : xm (d + 1) 47 [.ref Q] (oh 4 h Q S) = some (some (.int (cK p i)), oh 4 h Q S) := by
  rw [c_kind d (oh 4 h Q S) Q P i S SP (isB_oh _ _ _ _) hr (hh.1.frame hs.1) ha (Nat.le_trans hi hs.2.2.2.2.2.2.2.1.1), (hs.2.2.2.2.2.2.1 i hi).1]
theorem k_word (d : Nat) {i : Nat} (hs : cS Q P κ A SP SK nO N p) (hh : cH P κ A SP SK T h) (hr : sR S 0 = .ref P) (ha : sI S 13 = nI i) (hi : i ≤ N) : xm (d + 1) 49 [.ref Q] (oh 4 h Q S) = some (some (.long (p.2.2 i)), oh 4 h Q S) := by
  rw [c_word d (oh 4 h Q S) Q P i S SP (isB_oh _ _ _ _) hr (hh.1.frame hs.1) ha (Nat.le_trans hi hs.2.2.2.2.2.2.2.1.1), (hs.2.2.2.2.2.2.1 i hi).2.2]
theorem k_place (d : Nat) {i : Nat} (hs : cS Q P κ A SP SK nO N p) (hh : cH P κ A SP SK T h) (hr : sR S 0 = .ref P) (ha : sI S 13 = nI i) (hi : i ≤ N) : xm (d + 1) 50 [.ref Q] (oh 4 h Q S) = some (some (.int (nI (p.2.1 i))), oh 4 h Q S) := by
  rw [c_place d (oh 4 h Q S) Q P i S SP (isB_oh _ _ _ _) hr (hh.1.frame hs.1) ha (Nat.le_trans hi hs.2.2.2.2.2.2.2.1.1), (hs.2.2.2.2.2.2.1 i hi).2.1]
theorem k_take (d : Nat) {i : Nat} {c : Int32} (hs : cS Q P κ A SP SK nO N p) (hh : cH P κ A SP SK T h) (hr : sR S 0 = .ref P) (ha : sI S 13 = nI i) (hi : i ≤ N) (hb : sI S 14 = nI 0) (hc : cK p i = c) (h7 : i < 700) : xm (d + 1) 52 [.ref Q, .int c] (oh 4 h Q S) = some (none, oh 4 h Q (uI S 13 (nI (i + 1)))) := by
  rw [c_take d (oh 4 h Q S) Q P i S SP c false (isB_oh _ _ _ _) hr (hh.1.frame hs.1) ha (by omega) hb, oh_oh]
  unfold tkS
  rw [if_pos ⟨rfl, h7, by rw [(hs.2.2.2.2.2.2.1 i hi).1]; exact hc⟩]
theorem k_takeX (d : Nat) {i : Nat} {c : Int32} (hs : cS Q P κ A SP SK nO N p) (hh : cH P κ A SP SK T h) (hr : sR S 0 = .ref P) (ha : sI S 13 = nI i) (hi : i ≤ N) (hb : sI S 14 = nI 0) (hc : ¬ cK p i = c) : xm (d + 1) 52 [.ref Q, .int c] (oh 4 h Q S) = some (none, oh 4 h Q (uI S 14 (nI 1))) := by
  rw [c_take d (oh 4 h Q S) Q P i S SP c false (isB_oh _ _ _ _) hr (hh.1.frame hs.1) ha (Nat.le_trans hi hs.2.2.2.2.2.2.2.1.1) hb, oh_oh]
  unfold tkS
  rw [if_neg (by rintro ⟨_, _, z⟩; rw [(hs.2.2.2.2.2.2.1 i hi).1] at z; exact hc z)]
theorem k_takeF (d : Nat) {i : Nat} {c : Int32} (hs : cS Q P κ A SP SK nO N p) (hh : cH P κ A SP SK T h) (hr : sR S 0 = .ref P) (ha : sI S 13 = nI i) (hi : i ≤ N) (hb : sI S 14 = nI 1) : xm (d + 1) 52 [.ref Q, .int c] (oh 4 h Q S) = some (none, oh 4 h Q S) := by
  rw [c_take d (oh 4 h Q S) Q P i S SP c true (isB_oh _ _ _ _) hr (hh.1.frame hs.1) ha (Nat.le_trans hi hs.2.2.2.2.2.2.2.1.1) hb, oh_oh]
  unfold tkS
  rw [if_neg (by rintro ⟨z, _⟩; cases z), uI_same _ _ _ hb]
theorem k_note (d : Nat) {z a : Nat} (hz : sI S 15 = nI z) (hz7 : z ≤ 701) (ha : a ≤ 701) : xm (d + 1) 51 [.ref Q, .int (nI a)] (oh 4 h Q S) = some (none, oh 4 h Q (uI S 15 (nI (min z a)))) := by
  rw [c_note d (oh 4 h Q S) Q S (nI a) (isB_oh _ _ _ _), oh_oh]
  unfold ntS
  have hlt : (nI a < nI z) = (a < z) := k_lt (by omega) (by omega)
  by_cases h1 : a < z
  · rw [if_pos (by rw [hz, hlt]; exact h1), show min z a = a by omega]
  · rw [if_neg (by rw [hz, hlt]; exact h1), show min z a = z by omega, uI_same _ _ _ hz]
theorem k_emit (d : Nat) {k : Nat} {c o : Int32} (hk : sI S 4 = nI k) (h7 : k < 700) : xm (d + 1) 63 [.ref Q, .int c, .int o] (oh 4 h Q S) = some (none, oh 4 h Q (emS S k c o)) := by
  rw [c_emit d (oh 4 h Q S) Q k S c o (isB_oh _ _ _ _) hk h7, oh_oh]
theorem k_emitX (d : Nat) {k : Nat} {c o : Int32} (hk : sI S 4 = nI k) (h7 : k ≤ 700) : ∃ k', k' ≤ 700 ∧ xm (d + 1) 63 [.ref Q, .int c, .int o] (oh 4 h Q S) = some (none, oh 4 h Q (uI (uA (uA S 2 k (if k < 700 then c else sA S 2 k)) 3 k (if k < 700 then o else sA S 3 k)) 4 (nI k'))) := by
  by_cases h1 : k < 700
  · refine ⟨k + 1, by omega, ?_⟩
    rw [if_pos h1, if_pos h1]
    exact k_emit d hk h1
  · refine ⟨k, h7, ?_⟩
    rw [if_neg h1, if_neg h1]
    have h2 : 700 ≤ k := by omega
    have e : uI (uA (uA S 2 k (sA S 2 k)) 3 k (sA S 3 k)) 4 (nI k) = S := by
      rw [show uA (uA S 2 k (sA S 2 k)) 3 k (sA S 3 k) = S from ?_]
      · exact uI_same _ _ _ hk
      · have u : ∀ (X : gS) (j : Nat), uA X j k (sA X j k) = X := by
          intro X j
          unfold uA
          have w : va_up X.2.2.1 j (va_up (X.2.2.1 j) k (sA X j k)) = X.2.2.1 := by
            funext a
            unfold va_up
            by_cases ha : a = j
            · subst ha
              rw [if_pos rfl]
              funext b
              by_cases hb : b = k
              · subst hb
                rw [if_pos rfl]
                rfl
              · rw [if_neg hb]
            · rw [if_neg ha]
          rw [w]
        have w := u (uA S 2 k (sA S 2 k)) 3
        rw [u S 2] at w
        rw [u S 2]
        exact w
    rw [e, E_63 _ _ _ _ _ rfl]
    simp (disch := omega) only [q_63_0, q_63_1, q_63_4, q_63_7, q_63_10, q_63_11, q_63_14, q_63_15, q_63_18, q_63_19, q_63_20, q_63_21, q_63_24, q_63_25, q_63_28, q_63_29, q_63_30, q_63_31, q_63_32, q_63_35, q_63_36, q_63_37, q_63_40, og_4_4, op_4_4, og_4_2, or_4_2, ow_4_2, og_4_3, or_4_3, ow_4_3, o_is, o_ob, ofs_len4, ↓reduceIte, k_cr, k_ci, k_oR, k_oN, k_aR, k_aN, and_true, true_and, and_self, eq_self, Nat.reduceLT, Nat.reduceLeDiff, Nat.reduceEqDiff, Nat.reduceAdd, Nat.reduceMul, Bool.true_eq_false, Bool.false_eq_true, Nat.add_sub_cancel, Nat.not_lt_zero, Nat.zero_le, k_sub, k_sb1, k_r, k_n, k_ret, k_t1, k_t0, k_nr, k_nn, k_z0, k_z1, k_zb, x_okI, lit_nI, k_in, k_cl, k_lt, k_le, k_eq, k_neg, nI_add, nI_mul, k_clt, k_cgt, k_cle, k_cge, k_ceq, bI_0, k_sh8, ne_eq, Nat.add_eq_zero_iff, Nat.one_ne_zero, Nat.succ_ne_zero, and_false, false_and, not_false_eq_true, not_true_eq_false, ite_true, ite_false, if_true, if_false, hk, h1, h2]
theorem k_find (d : Nat) {w : Int64} (hs : cS Q P κ A SP SK nO N p) (hh : cH P κ A SP SK T h) : xm (d + 1) 19 [.ref κ, .long w] (oh 4 h Q S) = some (some (.int (oI ((eC SK nO).1 w))), oh 4 h Q S) :=
  c_kfind d (oh 4 h Q S) κ nO SK w (hh.2.1.frame hs.2.1) hs.2.2.2.2.2.1
theorem eC_lt {w : Int64} {m : Nat} (hs : cS Q P κ A SP SK nO N p) (hm : (eC SK nO).1 w = some m) : m < nO ∧ m < 8 := by
  have h1 := (fnd_lt (f := sL SK 1) hm).1
  have h2 := hs.2.2.2.2.2.1.2.1
  exact ⟨h1, by omega⟩
theorem k_isRow (d : Nat) {m : Nat} (hs : cS Q P κ A SP SK nO N p) (hh : cH P κ A SP SK T h) (hm : m < nO) : xm (d + 1) 29 [.ref κ, .int (nI m)] (oh 4 h Q S) = some (some (.int (bI ((eC SK nO).2.1 m))), oh 4 h Q S) := by
  have h2 := hs.2.2.2.2.2.1.2.1
  rw [c_isRow d (oh 4 h Q S) κ nO m SK (hh.2.1.frame hs.2.1) hs.2.2.2.2.2.1 (by omega), decide_eq_true hm]
  rfl
theorem k_isRowN (d : Nat) (hs : cS Q P κ A SP SK nO N p) (hh : cH P κ A SP SK T h) : xm (d + 1) 29 [.ref κ, .int (-nI 1)] (oh 4 h Q S) = some (some (.int (bI false)), oh 4 h Q S) :=
  c_isRow_n d (oh 4 h Q S) κ (-nI 1) SK (hh.2.1.frame hs.2.1) (by decide)
theorem k_typeAt (d : Nat) {m : Nat} (hs : cS Q P κ A SP SK nO N p) (hh : cH P κ A SP SK T h) (hm : m < nO) : xm (d + 1) 32 [.ref κ, .int (nI m)] (oh 4 h Q S) = some (some (.int (sA SK 2 m)), oh 4 h Q S) := by
  have h2 := hs.2.2.2.2.2.1.2.1
  rw [c_typeAt d (oh 4 h Q S) κ nO m SK (hh.2.1.frame hs.2.1) hs.2.2.2.2.2.1 (by omega), if_pos hm]
theorem k_mention (d : Nat) {m : Nat} (hs : cS Q P κ A SP SK nO N p) (hh : cH P κ A SP SK T h) (hm : m < 8) : xm (d + 1) 65 [.ref A, .int (nI m)] (oh 4 h Q S) = some (none, oh 4 (oh 3 h A (uA T 6 m (nI 1))) Q S) := by
  rw [c_mention d (oh 4 h Q S) A m T (hh.2.2.frame hs.2.2.1) hm, oh_comm hs.2.2.1.symm]
theorem k_mentionN (d : Nat) (hs : cS Q P κ A SP SK nO N p) (hh : cH P κ A SP SK T h) : xm (d + 1) 65 [.ref A, .int (-nI 1)] (oh 4 h Q S) = some (none, oh 4 h Q S) :=
  c_mention_n d (oh 4 h Q S) A T (-nI 1) (hh.2.2.frame hs.2.2.1) (by decide)
end
/-- what reading an E touches -/
def pCx (k : Nat) : Bool := decide (k = 2) || decide (k = 3) || decide (k = 4) || decide (k = 13) || decide (k = 14) || decide (k = 15)
abbrev cT : Type := Int32 × Int32
def isC (S : gS) (C : List cT) : Prop := sI S 4 = nI C.length ∧ ∀ q c, C[q]? = some c → sA S 2 q = c.1 ∧ sA S 3 q = c.2
theorem isC.em {S : gS} {C : List cT} (h : isC S C) (c o : Int32) : isC (emS S C.length c o) (C ++ [(c, o)]) := by
  unfold emS
  refine ⟨by rw [List.length_append]; rfl, fun q x hq => ?_⟩
  by_cases hl : q < C.length
  · rw [List.getElem?_append_left hl] at hq
    have hne : ¬ q = C.length := by omega
    obtain ⟨e1, e2⟩ := h.2 q x hq
    refine ⟨?_, ?_⟩
    · rw [sA_uI, sA_uA, if_neg (fun z => hne z.2), sA_uA, if_neg (fun z => hne z.2)]
      exact e1
    · rw [sA_uI, sA_uA, if_neg (fun z => hne z.2), sA_uA, if_neg (fun z => hne z.2)]
      exact e2
  · rw [List.getElem?_append_right (by omega)] at hq
    by_cases he : q = C.length
    · subst he
      rw [Nat.sub_self] at hq
      have hb : x = (c, o) := (Option.some.inj hq).symm
      rw [hb]
      refine ⟨?_, ?_⟩
      · rw [sA_uI, sA_uA, if_neg (fun z => absurd z.1 (by decide)), sA_uA, if_pos ⟨rfl, rfl⟩]
      · rw [sA_uI, sA_uA, if_pos ⟨rfl, rfl⟩]
    · rw [List.getElem?_eq_none (by show 1 ≤ q - C.length; omega)] at hq
      cases hq
/-- what becomes of an act in the class -/
def cod (e : kE) (a : aT) : cT :=
  if a.1 = nI 1 then (nI 1, a.2.1.toInt32) else if a.1 = nI 2 then (nI 2, nI 0) else if a.1 = nI 3 then (nI 3, oI (e.1 a.2.1)) else if a.1 = nI 4 then (nI 5, oI (e.1 a.2.1)) else if a.1 = nI 5 then (nI 4, oI (e.1 a.2.1)) else if a.1 = nI 6 then (nI 6, nI 0) else if a.1 = nI 7 then (nI 43, nI 0) else if a.1 = nI 8 then (nI 45, nI 0) else if a.1 = nI 9 then (nI 42, nI 0) else if a.1 = nI 10 then (nI 47, nI 0) else (nI 37, nI 0)
/-- the old MEMBERS that acts tell of -/
def tld (e : kE) (B : List aT) (m : Nat) : Bool := B.any (fun a => (decide (a.1 = nI 3) || decide (a.1 = nI 4) || decide (a.1 = nI 5)) && decide (e.1 a.2.1 = some m))
def p6 (k : Nat) : Bool := decide (k = 6)
def keV (e : kE) (B : List aT) (T T' : gS) : Prop := fr p6 T T' ∧ ∀ m, sA T' 6 m = if tld e B m = true then nI 1 else sA T 6 m
theorem keV.nil (e : kE) (T : gS) : keV e [] T T := ⟨fr.rfl, fun _ => rfl⟩
theorem tld_app (e : kE) (X Y : List aT) (m : Nat) : tld e (X ++ Y) m = (tld e X m || tld e Y m) := List.any_append
theorem keV.app {e : kE} {X Y : List aT} {T T' T'' : gS} (h1 : keV e X T T') (h2 : keV e Y T' T'') : keV e (X ++ Y) T T'' := by
  refine ⟨h1.1.trans h2.1, fun m => ?_⟩
  rw [h2.2 m, h1.2 m, tld_app]
  cases tld e X m <;> cases tld e Y m <;> rfl
theorem keV.swap {e : kE} {X Y : List aT} {T T' : gS} (h : keV e (X ++ Y) T T') : keV e (Y ++ X) T T' := by
  refine ⟨h.1, fun m => ?_⟩
  rw [h.2 m, tld_app, tld_app, Bool.or_comm]
theorem keV.no {e : kE} {B : List aT} {T T' : gS} {a : aT} (h : keV e B T T') (ha : ¬ (a.1 = nI 3 ∨ a.1 = nI 4 ∨ a.1 = nI 5)) : keV e (B ++ [a]) T T' := by
  refine ⟨h.1, fun m => ?_⟩
  rw [h.2 m, tld_app]
  have : tld e [a] m = false := by
    show ((decide (a.1 = nI 3) || decide (a.1 = nI 4) || decide (a.1 = nI 5)) && decide (e.1 a.2.1 = some m) || false) = false
    rw [decide_eq_false (fun z => ha (Or.inl z)), decide_eq_false (fun z => ha (Or.inr (Or.inl z))), decide_eq_false (fun z => ha (Or.inr (Or.inr z)))]
    rfl
  rw [this, Bool.or_false]
theorem keV.one {e : kE} {T : gS} {a : aT} {m : Nat} (ha : a.1 = nI 3 ∨ a.1 = nI 4 ∨ a.1 = nI 5) (hm : e.1 a.2.1 = some m) : keV e [a] T (uA T 6 m (nI 1)) := by
  refine ⟨fr.rfl.uA (by decide), fun q => ?_⟩
  have : tld e [a] q = decide (m = q) := by
    show ((decide (a.1 = nI 3) || decide (a.1 = nI 4) || decide (a.1 = nI 5)) && decide (e.1 a.2.1 = some q) || false) = decide (m = q)
    rw [hm, Bool.or_false]
    have h2 : (decide (a.1 = nI 3) || decide (a.1 = nI 4) || decide (a.1 = nI 5)) = true := by
      rcases ha with z | z | z <;> rw [z] <;> decide
    rw [h2, Bool.true_and]
    by_cases hq : m = q
    · subst hq
      rw [decide_eq_true rfl, decide_eq_true rfl]
    · rw [decide_eq_false hq, decide_eq_false (fun z => hq (Option.some.inj z))]
  rw [this, sA_uA]
  by_cases hq : m = q
  · subst hq
    rw [if_pos ⟨rfl, rfl⟩, if_pos (decide_eq_true rfl)]
  · rw [if_neg (fun z => hq z.2.symm), if_neg (by rw [decide_eq_false hq]; decide)]
theorem keV.none {e : kE} {T : gS} {a : aT} (hm : e.1 a.2.1 = none) : keV e [a] T T := by
  refine ⟨fr.rfl, fun q => ?_⟩
  have : tld e [a] q = false := by
    show ((decide (a.1 = nI 3) || decide (a.1 = nI 4) || decide (a.1 = nI 5)) && decide (e.1 a.2.1 = some q) || false) = false
    rw [hm, decide_eq_false (show ¬ (Option.none : Option Nat) = some q from fun z => by cases z), Bool.and_false]
    rfl
  rw [this]
  rfl
def cV (P κ A : Nat) (S0 S : gS) (i z : Nat) (C : List cT) : Prop := sR S0 0 = .ref P ∧ sR S0 9 = .ref κ ∧ sR S0 11 = .ref A ∧ sI S 13 = nI i ∧ sI S 14 = nI 0 ∧ sI S 15 = nI z ∧ z ≤ 701 ∧ isC S C ∧ fr pCx S0 S
def cX (P κ A : Nat) (S0 S : gS) (q : Nat) : Prop := sR S0 0 = .ref P ∧ sR S0 9 = .ref κ ∧ sR S0 11 = .ref A ∧ sI S 13 = nI q ∧ sI S 14 = nI 1 ∧ (∃ z, sI S 15 = nI z ∧ z ≤ 701) ∧ (∃ k, sI S 4 = nI k ∧ k ≤ 700) ∧ fr pCx S0 S
theorem cV.r {P κ A : Nat} {S0 S : gS} {i z : Nat} {C : List cT} (h : cV P κ A S0 S i z C) : sR S 0 = .ref P ∧ sR S 9 = .ref κ ∧ sR S 11 = .ref A :=
  ⟨(h.2.2.2.2.2.2.2.2 0 (by decide)).2.2.2.2.1.trans h.1, (h.2.2.2.2.2.2.2.2 9 (by decide)).2.2.2.2.1.trans h.2.1, (h.2.2.2.2.2.2.2.2 11 (by decide)).2.2.2.2.1.trans h.2.2.1⟩
theorem cX.r {P κ A : Nat} {S0 S : gS} {q : Nat} (h : cX P κ A S0 S q) : sR S 0 = .ref P ∧ sR S 9 = .ref κ ∧ sR S 11 = .ref A :=
  ⟨(h.2.2.2.2.2.2.2 0 (by decide)).2.2.2.2.1.trans h.1, (h.2.2.2.2.2.2.2 9 (by decide)).2.2.2.2.1.trans h.2.1, (h.2.2.2.2.2.2.2 11 (by decide)).2.2.2.2.1.trans h.2.2.1⟩
theorem cV.at {P κ A : Nat} {S0 S : gS} {i z : Nat} {C : List cT} (h : cV P κ A S0 S i z C) (j : Nat) : cV P κ A S0 (uI S 13 (nI j)) j z C :=
  ⟨h.1, h.2.1, h.2.2.1, rfl, h.2.2.2.2.1, h.2.2.2.2.2.1, h.2.2.2.2.2.2.1, h.2.2.2.2.2.2.2.1, h.2.2.2.2.2.2.2.2.uI (by decide)⟩
theorem cV.no {P κ A : Nat} {S0 S : gS} {i z : Nat} {C : List cT} (h : cV P κ A S0 S i z C) (a : Nat) : cV P κ A S0 (uI S 15 (nI (min z a))) i (min z a) C :=
  ⟨h.1, h.2.1, h.2.2.1, h.2.2.2.1, h.2.2.2.2.1, rfl, Nat.le_trans (Nat.min_le_left _ _) h.2.2.2.2.2.2.1, h.2.2.2.2.2.2.2.1, h.2.2.2.2.2.2.2.2.uI (by decide)⟩
theorem cV.em {P κ A : Nat} {S0 S : gS} {i z : Nat} {C : List cT} (h : cV P κ A S0 S i z C) (c o : Int32) : cV P κ A S0 (emS S C.length c o) i z (C ++ [(c, o)]) :=
  ⟨h.1, h.2.1, h.2.2.1, h.2.2.2.1, h.2.2.2.2.1, h.2.2.2.2.2.1, h.2.2.2.2.2.2.1, h.2.2.2.2.2.2.2.1.em c o, ((h.2.2.2.2.2.2.2.2.uA (by decide)).uA (by decide)).uI (by decide)⟩
theorem cV.bad {P κ A : Nat} {S0 S : gS} {i z : Nat} {C : List cT} (h : cV P κ A S0 S i z C) (hl : C.length ≤ 700) : cX P κ A S0 (uI S 14 (nI 1)) i :=
  ⟨h.1, h.2.1, h.2.2.1, h.2.2.2.1, rfl, ⟨z, h.2.2.2.2.2.1, h.2.2.2.2.2.2.1⟩, ⟨C.length, h.2.2.2.2.2.2.2.1.1, hl⟩, h.2.2.2.2.2.2.2.2.uI (by decide)⟩
/-- emit, when the text is WRONG already -/
theorem cX.em {P κ A : Nat} {S0 S : gS} {q : Nat} (hx : cX P κ A S0 S q) (d : Nat) (Q : Nat) (h : xH) (c o : Int32) : ∃ S', xm (d + 1) 63 [.ref Q, .int c, .int o] (oh 4 h Q S) = some (none, oh 4 h Q S') ∧ cX P κ A S0 S' q := by
  obtain ⟨h1, h2, h3, h4, h5, h6, ⟨k, hk, hk7⟩, h8⟩ := hx
  obtain ⟨k', hk', e⟩ := k_emitX (Q := Q) (h := h) (S := S) d (c := c) (o := o) hk hk7
  exact ⟨_, e, h1, h2, h3, h4, h5, h6, ⟨k', rfl, hk'⟩, ((h8.uA (by decide)).uA (by decide)).uI (by decide)⟩
