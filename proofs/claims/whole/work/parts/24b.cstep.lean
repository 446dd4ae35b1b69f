/-! What one step does, and the class's step. -/
/-- nothing is told of a CLASS; it is dropped; it goes to CLASS e by RULES -/
abbrev dsT : Type := Option (Option (Nat × List rT))
abbrev sE : Type := (Nat → kE) × (Nat → kE) × (Nat → Nat → Nat) × (Nat → Nat → Nat) × (Nat → Nat → Int64) × (Nat → Nat → Int64) × (Nat → Nat) × (Nat → Nat) × (Nat → dsT)
abbrev zE1 (z : sE) : Nat → kE := z.1
abbrev zE2 (z : sE) : Nat → kE := z.2.1
abbrev zt1 (z : sE) : Nat → Nat → Nat := z.2.2.1
abbrev zt2 (z : sE) : Nat → Nat → Nat := z.2.2.2.1
abbrev zn1 (z : sE) : Nat → Nat → Int64 := z.2.2.2.2.1
abbrev zn2 (z : sE) : Nat → Nat → Int64 := z.2.2.2.2.2.1
abbrev zm1 (z : sE) : Nat → Nat := z.2.2.2.2.2.2.1
abbrev zm2 (z : sE) : Nat → Nat := z.2.2.2.2.2.2.2.1
abbrev zD (z : sE) : Nat → dsT := z.2.2.2.2.2.2.2.2
def cvS (z : sE) (c : Nat) (vw : vW) (e : Nat) (L : List rT) : (Nat × Option Nat) ⊕ vW := cvR (zE1 z c) vw L (gM (zE1 z c) vw (zt1 z c) (zt2 z e) (zE2 z e).2.1 (zn2 z e) L) (zm2 z e) (zE2 z e).2.1
def lsF (z : sE) (c : Nat) (vw : vW) (e : Nat) (L : List rT) : Nat := lsN (zE1 z c) (zE2 z e) vw (zn2 z e) L (zn1 z c) (zm1 z c) 0
/-- one VALUE: REFUSED, dropped, or carried with so many LOST -/
def oneV (z : sE) (dr : Bool) (c : Nat) (vw : vW) : (Nat × Option Nat) ⊕ Option ((Nat × vW) × Nat) := match zD z c with
  | none => if dr = true then .inr none else .inl (6, none)
  | some none => .inr none
  | some (some eL) => (match cvS z c vw eL.1 eL.2 with
    | .inl q => .inl q
    | .inr w => .inr (some ((eL.1, w), lsF z c vw eL.1 eL.2)))
/-- why, CLASS, MEMBER, KEY, other KEY -/
abbrev rfT : Type := Nat × Option Nat × Option Nat × Int64 × Int64
def stC (x : aX) (l : Nat) : rfT ⊕ (List aX × Nat × Nat) → rfT ⊕ (List aX × Nat × Nat)
  | .inl q => .inl q
  | .inr r => .inr (x :: r.1, l + r.2.1, r.2.2)
def stD : rfT ⊕ (List aX × Nat × Nat) → rfT ⊕ (List aX × Nat × Nat)
  | .inl q => .inl q
  | .inr r => .inr (r.1, r.2.1, r.2.2 + 1)
def stF (z : sE) (dr : Bool) : List (Nat × vW) → rfT ⊕ (List aX × Nat × Nat)
  | [] => .inr ([], 0, 0)
  | v :: V => match oneV z dr v.1 v.2 with
    | .inl q => .inl (q.1, some v.1, q.2, v.2.1, 0)
    | .inr none => stD (stF z dr V)
    | .inr (some u) => stC (u.1.2.1, v.2.1, u.1.1, u.1.2) u.2 (stF z dr V)
def stA (r : List aX × Nat × Nat) : rfT ⊕ (List aX × Nat × Nat) := match adj (srt r.1 []) with
  | some f => .inl (3, none, none, f.1.2.1, f.2.2.1)
  | none => .inr (srt r.1 [], r.2.1, r.2.2)
def stZ (z : sE) (dr : Bool) (V : List (Nat × vW)) : rfT ⊕ (List aX × Nat × Nat) := match stF z dr V with
  | .inl q => .inl q
  | .inr r => stA r
/-- a Store by a list -/
def stL {α : Type} (P : gS → Int64 × α → Prop) (SV : Nat → gS) (n : Nat) (A : List (Int64 × α)) : Prop := A.length = n ∧ ∀ i x, A[i]? = some x → P (SV i) x
theorem insL_at {α : Type} (x : Int64 × α) (A : List (Int64 × α)) (i : Nat) : (insL x A)[i]? = if i < insP x A then A[i]? else if i = insP x A then some x else A[i - 1]? := by
  have hp := insP_le x A
  unfold insL
  generalize insP x A = p at *
  have hl : (A.take p).length = p := by rw [List.length_take]; omega
  by_cases c1 : i < p
  · rw [if_pos c1, List.getElem?_append_left (by omega), List.getElem?_take_of_lt c1]
  · rw [if_neg c1, List.getElem?_append_right (by omega), hl]
    by_cases c2 : i = p
    · rw [if_pos c2, c2, Nat.sub_self]
      rfl
    · rw [if_neg c2, show i - p = (i - p - 1) + 1 by omega, List.getElem?_cons_succ, List.getElem?_drop]
      congr 1
      omega
theorem insL_len {α : Type} (x : Int64 × α) (A : List (Int64 × α)) : (insL x A).length = A.length + 1 := by
  have hp := insP_le x A
  unfold insL
  rw [List.length_append, List.length_cons, List.length_take, List.length_drop]
  omega
theorem insP_k {α : Type} {P : gS → Int64 × α → Prop} (hP : ∀ S x, P S x → sJ S 2 = x.1) {SV : Nat → gS} {n : Nat} {A : List (Int64 × α)} (h : stL P SV n A) (x : Int64 × α) : insF (fun i => sJ (SV i) 2) x.1 n = insP x A := by
  unfold insP
  rw [h.1]
  refine insF_ex n (fun i hi => ?_)
  have hi : i < A.length := by rw [h.1]; exact hi
  have e : A[i]? = some A[i] := List.getElem?_eq_getElem hi
  unfold kfL
  rw [e]
  exact hP _ _ (h.2 i _ e)
theorem stL.ins {α : Type} {P : gS → Int64 × α → Prop} (hP : ∀ S x, P S x → sJ S 2 = x.1) {SV : Nat → gS} {n : Nat} {A : List (Int64 × α)} (h : stL P SV n A) {x : Int64 × α} {SF : gS} (hx : P SF x) : stL P (insG SV (insF (fun i => sJ (SV i) 2) x.1 n) n SF) (n + 1) (insL x A) := by
  rw [insP_k hP h x]
  refine ⟨by rw [insL_len, h.1], fun i y hy => ?_⟩
  rw [insL_at] at hy
  have hp := insP_le x A
  have hl := h.1
  unfold insG
  by_cases c1 : i < insP x A
  · rw [if_pos c1] at hy
    rw [if_pos c1]
    exact h.2 i y hy
  · rw [if_neg c1] at hy
    rw [if_neg c1]
    by_cases c2 : i = insP x A
    · rw [if_pos c2] at hy
      rw [if_pos c2]
      cases hy
      exact hx
    · rw [if_neg c2] at hy
      rw [if_neg c2]
      have hb := (List.getElem?_eq_some_iff.mp hy).1
      rw [if_pos (by omega)]
      exact h.2 _ y hy
theorem svA.k (n2 : Nat) (κ2 m2 : Nat → Nat) (S : gS) (x : aX) (h : svA n2 κ2 m2 S x) : sJ S 2 = x.1 := h.2.2.2.2.1.1.trans h.2.2.2.2.2
/-- what the class keeps of a CLASS's MOVE -/
def dsC (C : List cT) (PM : pM) (n2 : Nat) (z : sE) (c : Nat) (vw : vW) : dsT → Prop
  | none => PM c = none
  | some none => ∃ ms, PM c = some (-nI 1, ms)
  | some (some eL) => eL.1 < n2 ∧ ∃ ms, PM c = some (nI eL.1, ms) ∧ plC C ms (zE1 z c) vw 8 (plK eL.2, none) ∧ (∀ i, i < zm2 z eL.1 → plC C ms (zE1 z c) vw i (plR (zE1 z c) ((zE2 z eL.1).2.1 i) eL.2 (zn2 z eL.1 i))) ∧ (∀ i o, i < zm2 z eL.1 → (plR (zE1 z c) ((zE2 z eL.1).2.1 i) eL.2 (zn2 z eL.1 i)).2 = some o → o < zm1 z c) ∧ (∀ i, i < zm2 z eL.1 → (plR (zE1 z c) ((zE2 z eL.1).2.1 i) eL.2 (zn2 z eL.1 i)).1 ≠ none → (zE2 z eL.1).2.1 i = false) ∧ clN ms.2.2.2.2.2 (fst0 (zE1 z c) vw) (zm1 z c) 0 = lsF z c vw eL.1 eL.2
/-- the old BUILD -/
def tkO (G : gG) (h : xH) (n1 : Nat) (κ1 : Nat → Nat) (SK1 : Nat → gS) (z : sE) : Prop := n1 ≤ 6 ∧ ∀ c, c < n1 → hB G 1 1 h (κ1 c) (SK1 c) ∧ kOK (SK1 c) (zm1 z c) ∧ (∀ w m, (zE1 z c).1 w = some m → m < zm1 z c) ∧ (∀ q, q < zm1 z c → sA (SK1 c) 2 q = nI (zt1 z c q) ∧ zt1 z c q ≤ 7) ∧ ∀ i, i < zm1 z c → (zE1 z c).2.1 i = kRow (SK1 c) i
theorem tkO.keep {G G' : gG} {h h' : xH} {n1 : Nat} {κ1 : Nat → Nat} {SK1 : Nat → gS} {z : sE} (H : tkO G h n1 κ1 SK1 z) (hG : ∀ q, q < h.2.2.1 → G' q = G q) (hk : ∀ q, q < h.2.2.1 → (G q).1 = 1 → h'.1 q = h.1 q) (hn : h.2.2.1 ≤ h'.2.2.1) : tkO G' h' n1 κ1 SK1 z := ⟨H.1, fun c hc => ⟨(H.2 c hc).1.keep (by decide) hG (fun q hq e => hk q hq (by rw [e])) hn, (H.2 c hc).2⟩⟩
def tkN (n2 : Nat) (SK2 : Nat → gS) (z : sE) : Prop := ∀ e, e < n2 → (∀ i, i < zm2 z e → sA (SK2 e) 2 i = nI (zt2 z e i) ∧ zt2 z e i ≤ 7) ∧ ∀ i, i < zm2 z e → (zE2 z e).2.1 i = kRow (SK2 e) i
/-- an old VALUE -/
def svO (n1 : Nat) (κ1 : Nat → Nat) (C : List cT) (PM : pM) (n2 : Nat) (z : sE) (S : gS) (v : Nat × vW) : Prop := v.1 < n1 ∧ sI S 4 = nI v.1 ∧ sR S 5 = .ref (κ1 v.1) ∧ ckV (zm1 z v.1) S v.2 ∧ (∀ i, i < zm1 z v.1 → (zE1 z v.1).2.1 i = false → 0 < v.2.2.1 i) ∧ dsC C PM n2 z v.1 v.2 (zD z v.1)
def cF (k : Nat) : Bool := decide (k = 10) || decide (k = 11) || decide (k = 12)
/-- the class's answer of one VALUE -/
def t1Q (SC SC' : gS) (x y n n' b : Nat) (v : Nat × vW) (n2 : Nat) (κ2 m2 : Nat → Nat) (SVs SVs' : Nat → gS) : (Nat × Option Nat) ⊕ Option ((Nat × vW) × Nat) → Prop
  | .inl q => b = 0 ∧ SC' = rfC SC (nI q.1) (nI v.1) (oI q.2) v.2.1 0
  | .inr none => b = 1 ∧ n' = n ∧ SVs' = SVs ∧ SC' = uI SC 11 (nI (y + 1))
  | .inr (some u) => b = 1 ∧ n' = n + 1 ∧ SC' = uI SC 10 (nI (x + u.2)) ∧ ∃ SF, SVs' = insG SVs (insF (fun i => sJ (SVs i) 2) u.1.2.1 n) n SF ∧ svA n2 κ2 m2 SF (u.1.2.1, v.2.1, u.1.1, u.1.2)
theorem c_takeV (d : Nat) {G : gG} {h : xH} {Kc R ρ lo hi β2 V g2 g n1 n2 x y σ n m : Nat} {dr : Bool} {SC T SB2 SV SS : gS} {PM : pM} {C : List cT} {mc : Nat} {κ1 κ2 : Nat → Nat} {SK1 SK2 : Nat → gS} {ν : Nat → Nat} {SVs : Nat → gS} {z : sE} {v : Nat × vW} (HC : hB G 0 6 h Kc SC) (HR : hB G 0 5 h R T) (rC : sR SC 0 = .ref R) (hT : tkB G h ρ lo hi β2 SB2 n2 κ2 SK2 (zm2 z) PM C mc) (hO : tkO G h n1 κ1 SK1 z) (hN : tkN n2 SK2 z) (HV : hB G g2 9 h V SV) (hv : svO n1 κ1 C PM n2 z SV v) (hS : cSt g G h σ SS n m ν SVs) (hn : n < 60) (hg : 1 < g ∧ g < 5) (hg2 : 1 < g2 ∧ g2 < 5) (hgg : g ≠ g2) (h9 : sI SC 9 = bI dr) (hx : sI SC 10 = nI x) (hy : sI SC 11 = nI y) : ∃ G' h' SS' n' m' ν' SVs' SC' T' b, xm (d + 6) 80 [.ref Kc, .ref V, .ref σ, .ref ρ] h = some (some (.int (nI b)), h') ∧ tkF G G' h h' g Kc R m m' ∧ hB G' 0 6 h' Kc SC' ∧ hB G' 0 5 h' R T' ∧ cSt g G' h' σ SS' n' m' ν' SVs' ∧ sI SS' 1 = sI SS 1 ∧ t1Q SC SC' x y n n' b v n2 κ2 (zm2 z) SVs SVs' (oneV z dr v.1 v.2) := by
  have hT0 := hT
  obtain ⟨v1, v4, v5, hck, h1, hds⟩ := hv
  obtain ⟨HO, kO, hEn, hty, hro⟩ := hO.2 v.1 v1
  have hc6 : v.1 < 6 := by
    have := hO.1
    omega
  have HC1 := HC.1
  have HV1 := HV.1
  have v2 := hck.1
  unfold oneV
  -- dropped
  have dropd : ∀ (eX : xm (d + 6) 80 [.ref Kc, .ref V, .ref σ, .ref ρ] h = some (some (.int (nI 1)), oh 6 h Kc (uI SC 11 (nI (y + 1))))), ∃ G' h' SS' n' m' ν' SVs' SC' T' b, xm (d + 6) 80 [.ref Kc, .ref V, .ref σ, .ref ρ] h = some (some (.int (nI b)), h') ∧ tkF G G' h h' g Kc R m m' ∧ hB G' 0 6 h' Kc SC' ∧ hB G' 0 5 h' R T' ∧ cSt g G' h' σ SS' n' m' ν' SVs' ∧ sI SS' 1 = sI SS 1 ∧ t1Q SC SC' x y n n' b v n2 κ2 (zm2 z) SVs SVs' (.inr none) := fun eX => ⟨G, _, SS, n, m, ν, SVs, _, T, 1, eX, ⟨fun _ _ => rfl, fun q hq c1 c2 c3 => oh_same (by
    cases hc : ofp 6 Kc q with
    | false => rfl
    | true => exact absurd (HC.2.1 q hc) c2), rfl, Nat.le_refl _, rfl, rfl⟩, ⟨isB_oh _ _ _ _, HC.2.1, HC.2.2⟩, HR.frame HC.2.1 (fun z => HC.ne HR (by decide) z.2.symm), hS.fr0 HC.2.1 (by omega) _, rfl, rfl, rfl, rfl, rfl⟩
  obtain ⟨⟨SR, W, C1, C2, w, f1, f2, a1, a2, a3, a4, a5, a6, a7, a8, a9, a10, a11, a12, b1, b2, b3, b4, b5, b6, b7, b8⟩, t2, t3, t4, t5, t6, t7⟩ := hT
  have hA := a8 v.1 hc6
  have i10 : ∀ {α : Type} (f : Option α), xis h ρ 10 f = f := fun f => h_is a1 f
  have i2 : ∀ {α : Type} (f : Option α), xis h β2 2 f = f := fun f => h_is t4.1 f
  have i6 : ∀ {α : Type} (f : Option α), xis h Kc 6 f = f := fun f => h_is HC1 f
  cases hD : zD z v.1 with
  | none =>
    rw [hD] at hds
    have hds : PM v.1 = none := hds
    rw [hds] at hA
    have hA : w v.1 = .null := hA
    have eM : xm (d + 5) 81 [.ref ρ, .int (nI v.1)] h = some (some .null, h) := by
      have := c_moveOfR (d + 4) h a1 a2 a7 hc6 (Or.inl hA)
      rw [hA] at this
      exact this
    cases dr with
    | true =>
      rw [bI_t] at h9
      refine dropd ?_
      rw [E_80 _ _ _ _ _ _ rfl rfl rfl rfl]
      simp (disch := omega) only [q_80_0, q_80_1, q_80_2, q_80_5, q_80_8, q_80_10, q_80_12, q_80_15, q_80_16, q_80_19, q_80_22, q_80_23, q_80_25, q_80_26, q_80_29, q_80_30, q_80_31, q_80_34, q_80_35, q_80_38, q_80_39, q_80_41, q_80_44, q_80_45, q_80_48, q_80_49, q_80_52, q_80_54, q_80_57, q_80_60, q_80_62, q_80_64, q_80_67, q_80_68, q_80_69, q_80_72, q_80_73, q_80_74, q_80_77, q_80_78, q_80_79, q_80_80, q_80_83, q_80_85, q_80_87, q_80_89, q_80_92, q_80_95, q_80_96, q_80_99, q_80_100, q_80_102, q_80_104, q_80_105, q_80_108, q_80_111, q_80_112, q_80_113, q_80_116, q_80_119, q_80_120, q_80_123, q_80_124, q_80_125, q_80_128, q_80_129, q_80_132, q_80_133, q_80_134, q_80_137, q_80_140, og_9_4, og_6_9, og_9_2, og_10_3, og_3_0, og_6_11, op_6_11, og_6_0, og_5_2, og_5_3, og_9_3, op_9_3, og_1_4, o_is, o_ob, ofs_len1, ofs_len3, ofs_len5, ofs_len6, ofs_len9, ofs_len10, q_80_0, q_80_1, q_80_2, q_80_5, q_80_8, q_80_10, q_80_12, q_80_15, q_80_16, q_80_19, q_80_22, q_80_23, q_80_25, q_80_26, q_80_29, q_80_30, q_80_31, q_80_34, q_80_35, q_80_38, q_80_39, q_80_41, q_80_44, q_80_45, q_80_48, q_80_49, q_80_52, q_80_54, q_80_57, q_80_60, q_80_62, q_80_64, q_80_67, q_80_68, q_80_69, q_80_72, q_80_73, q_80_74, q_80_77, q_80_78, q_80_79, q_80_80, q_80_83, q_80_85, q_80_87, q_80_89, q_80_92, q_80_95, q_80_96, q_80_99, q_80_100, q_80_102, q_80_104, q_80_105, q_80_108, q_80_111, q_80_112, q_80_113, q_80_116, q_80_119, q_80_120, q_80_123, q_80_124, q_80_125, q_80_128, q_80_129, q_80_132, q_80_133, q_80_134, q_80_137, q_80_140, q_80_142, q_80_143, q_80_145, q_80_147, q_80_150, q_80_152, q_80_155, q_80_157, q_80_159, q_80_162, q_80_163, q_80_164, q_80_166, q_80_167, q_80_170, q_80_173, q_80_174, q_80_178, q_80_180, q_80_183, q_80_186, q_80_188, q_80_190, q_80_193, q_80_194, q_80_196, q_80_198, q_80_199, q_80_200, q_80_202, q_80_205, q_80_207, q_80_209, q_80_212, q_80_213, q_80_215, q_80_216, q_80_219, q_80_221, q_80_222, q_80_225, q_80_226, q_80_229, q_80_230, q_80_233, q_80_236, q_80_237, q_80_238, q_80_240, q_80_243, q_80_244, hg_9_4 HV1, hg_9_2 HV1, hg_9_3 HV1, hp_9_3 HV1, h_is HV1, h_ob HV1, ofs_len9, hg_10_3 a1, h_is a1, h_ob a1, ofs_len10, hg_6_9 HC1, hg_6_11 HC1, hp_6_11 HC1, hg_6_0 HC1, h_is HC1, h_ob HC1, ofs_len6, ↓reduceIte, k_cr, k_ci, k_oR, k_oN, k_aR, k_aN, and_true, true_and, and_self, eq_self, Nat.reduceLT, Nat.reduceLeDiff, Nat.reduceEqDiff, Nat.reduceAdd, Nat.reduceMul, Bool.true_eq_false, Bool.false_eq_true, Nat.add_sub_cancel, Nat.not_lt_zero, Nat.zero_le, k_sub, k_sb1, k_r, k_n, k_ret, k_t1, k_t0, k_nr, k_nn, k_z0, k_z1, k_zb, x_okI, lit_nI, k_in, k_cl, k_lt, k_le, k_eq, k_neg, nI_add, nI_mul, k_clt, k_cgt, k_cle, k_cge, k_ceq, bI_0, k_sh8, ne_eq, Nat.add_eq_zero_iff, Nat.one_ne_zero, Nat.succ_ne_zero, and_false, false_and, not_false_eq_true, not_true_eq_false, ite_true, ite_false, if_true, if_false, v4, i10, eM, h9, hy]
    | false =>
      rw [bI_f] at h9
      have eF : xm (d + 5) 82 [.ref Kc, .int (nI 6), .int (nI v.1), .int (-nI 1), .long v.2.1, .long 0] h = _ := c_refuseH (d + 4) HC1 (nI 6) (nI v.1) (-nI 1) v.2.1 0
      refine ⟨G, oh 6 h Kc (rfC SC (nI 6) (nI v.1) (-nI 1) v.2.1 0), SS, n, m, ν, SVs, _, T, 0, ?_, ⟨fun _ _ => rfl, fun q hq c1 c2 c3 => oh_same (by
        cases hc : ofp 6 Kc q with
        | false => rfl
        | true => exact absurd (HC.2.1 q hc) c2), rfl, Nat.le_refl _, rfl, rfl⟩, ⟨isB_oh _ _ _ _, HC.2.1, HC.2.2⟩, HR.frame HC.2.1 (fun z => HC.ne HR (by decide) z.2.symm), hS.fr0 HC.2.1 (by omega) _, rfl, rfl, rfl⟩
      rw [E_80 _ _ _ _ _ _ rfl rfl rfl rfl]
      simp (disch := omega) only [q_80_0, q_80_1, q_80_2, q_80_5, q_80_8, q_80_10, q_80_12, q_80_15, q_80_16, q_80_19, q_80_22, q_80_23, q_80_25, q_80_26, q_80_29, q_80_30, q_80_31, q_80_34, q_80_35, q_80_38, q_80_39, q_80_41, q_80_44, q_80_45, q_80_48, q_80_49, q_80_52, q_80_54, q_80_57, q_80_60, q_80_62, q_80_64, q_80_67, q_80_68, q_80_69, q_80_72, q_80_73, q_80_74, q_80_77, q_80_78, q_80_79, q_80_80, q_80_83, q_80_85, q_80_87, q_80_89, q_80_92, q_80_95, q_80_96, q_80_99, q_80_100, q_80_102, q_80_104, q_80_105, q_80_108, q_80_111, q_80_112, q_80_113, q_80_116, q_80_119, q_80_120, q_80_123, q_80_124, q_80_125, q_80_128, q_80_129, q_80_132, q_80_133, q_80_134, q_80_137, q_80_140, og_9_4, og_6_9, og_9_2, og_10_3, og_3_0, og_6_11, op_6_11, og_6_0, og_5_2, og_5_3, og_9_3, op_9_3, og_1_4, o_is, o_ob, ofs_len1, ofs_len3, ofs_len5, ofs_len6, ofs_len9, ofs_len10, q_80_0, q_80_1, q_80_2, q_80_5, q_80_8, q_80_10, q_80_12, q_80_15, q_80_16, q_80_19, q_80_22, q_80_23, q_80_25, q_80_26, q_80_29, q_80_30, q_80_31, q_80_34, q_80_35, q_80_38, q_80_39, q_80_41, q_80_44, q_80_45, q_80_48, q_80_49, q_80_52, q_80_54, q_80_57, q_80_60, q_80_62, q_80_64, q_80_67, q_80_68, q_80_69, q_80_72, q_80_73, q_80_74, q_80_77, q_80_78, q_80_79, q_80_80, q_80_83, q_80_85, q_80_87, q_80_89, q_80_92, q_80_95, q_80_96, q_80_99, q_80_100, q_80_102, q_80_104, q_80_105, q_80_108, q_80_111, q_80_112, q_80_113, q_80_116, q_80_119, q_80_120, q_80_123, q_80_124, q_80_125, q_80_128, q_80_129, q_80_132, q_80_133, q_80_134, q_80_137, q_80_140, q_80_142, q_80_143, q_80_145, q_80_147, q_80_150, q_80_152, q_80_155, q_80_157, q_80_159, q_80_162, q_80_163, q_80_164, q_80_166, q_80_167, q_80_170, q_80_173, q_80_174, q_80_178, q_80_180, q_80_183, q_80_186, q_80_188, q_80_190, q_80_193, q_80_194, q_80_196, q_80_198, q_80_199, q_80_200, q_80_202, q_80_205, q_80_207, q_80_209, q_80_212, q_80_213, q_80_215, q_80_216, q_80_219, q_80_221, q_80_222, q_80_225, q_80_226, q_80_229, q_80_230, q_80_233, q_80_236, q_80_237, q_80_238, q_80_240, q_80_243, q_80_244, hg_9_4 HV1, hg_9_2 HV1, hg_9_3 HV1, hp_9_3 HV1, h_is HV1, h_ob HV1, ofs_len9, hg_10_3 a1, h_is a1, h_ob a1, ofs_len10, hg_6_9 HC1, hg_6_11 HC1, hp_6_11 HC1, hg_6_0 HC1, h_is HC1, h_ob HC1, ofs_len6, ↓reduceIte, k_cr, k_ci, k_oR, k_oN, k_aR, k_aN, and_true, true_and, and_self, eq_self, Nat.reduceLT, Nat.reduceLeDiff, Nat.reduceEqDiff, Nat.reduceAdd, Nat.reduceMul, Bool.true_eq_false, Bool.false_eq_true, Nat.add_sub_cancel, Nat.not_lt_zero, Nat.zero_le, k_sub, k_sb1, k_r, k_n, k_ret, k_t1, k_t0, k_nr, k_nn, k_z0, k_z1, k_zb, x_okI, lit_nI, k_in, k_cl, k_lt, k_le, k_eq, k_neg, nI_add, nI_mul, k_clt, k_cgt, k_cle, k_cge, k_ceq, bI_0, k_sh8, ne_eq, Nat.add_eq_zero_iff, Nat.one_ne_zero, Nat.succ_ne_zero, and_false, false_and, not_false_eq_true, not_true_eq_false, ite_true, ite_false, if_true, if_false, v4, v2, i10, i6, eM, h9, hy, eF]
  | some o =>
    cases o with
    | none =>
      rw [hD] at hds
      obtain ⟨ms, hds⟩ := hds
      rw [hds] at hA
      obtain ⟨A, TM, eA, iA, iT, lA, bA⟩ := hA
      have eM : xm (d + 5) 81 [.ref ρ, .int (nI v.1)] h = some (some (.ref A), h) := by
        have := c_moveOfR (d + 4) h a1 a2 a7 hc6 (Or.inr ⟨A, eA⟩)
        rw [eA] at this
        exact this
      have eK : xm (d + 5) 18 [.ref β2, .int (-nI 1)] h = some (some .null, h) := c_kindAt_neg (d + 4) h β2 (-nI 1) SB2 t4.1 (by decide)
      have tM : sI TM 0 = -nI 1 := iT.1
      refine dropd ?_
      rw [E_80 _ _ _ _ _ _ rfl rfl rfl rfl]
      simp (disch := omega) only [q_80_0, q_80_1, q_80_2, q_80_5, q_80_8, q_80_10, q_80_12, q_80_15, q_80_16, q_80_19, q_80_22, q_80_23, q_80_25, q_80_26, q_80_29, q_80_30, q_80_31, q_80_34, q_80_35, q_80_38, q_80_39, q_80_41, q_80_44, q_80_45, q_80_48, q_80_49, q_80_52, q_80_54, q_80_57, q_80_60, q_80_62, q_80_64, q_80_67, q_80_68, q_80_69, q_80_72, q_80_73, q_80_74, q_80_77, q_80_78, q_80_79, q_80_80, q_80_83, q_80_85, q_80_87, q_80_89, q_80_92, q_80_95, q_80_96, q_80_99, q_80_100, q_80_102, q_80_104, q_80_105, q_80_108, q_80_111, q_80_112, q_80_113, q_80_116, q_80_119, q_80_120, q_80_123, q_80_124, q_80_125, q_80_128, q_80_129, q_80_132, q_80_133, q_80_134, q_80_137, q_80_140, og_9_4, og_6_9, og_9_2, og_10_3, og_3_0, og_6_11, op_6_11, og_6_0, og_5_2, og_5_3, og_9_3, op_9_3, og_1_4, o_is, o_ob, ofs_len1, ofs_len3, ofs_len5, ofs_len6, ofs_len9, ofs_len10, q_80_0, q_80_1, q_80_2, q_80_5, q_80_8, q_80_10, q_80_12, q_80_15, q_80_16, q_80_19, q_80_22, q_80_23, q_80_25, q_80_26, q_80_29, q_80_30, q_80_31, q_80_34, q_80_35, q_80_38, q_80_39, q_80_41, q_80_44, q_80_45, q_80_48, q_80_49, q_80_52, q_80_54, q_80_57, q_80_60, q_80_62, q_80_64, q_80_67, q_80_68, q_80_69, q_80_72, q_80_73, q_80_74, q_80_77, q_80_78, q_80_79, q_80_80, q_80_83, q_80_85, q_80_87, q_80_89, q_80_92, q_80_95, q_80_96, q_80_99, q_80_100, q_80_102, q_80_104, q_80_105, q_80_108, q_80_111, q_80_112, q_80_113, q_80_116, q_80_119, q_80_120, q_80_123, q_80_124, q_80_125, q_80_128, q_80_129, q_80_132, q_80_133, q_80_134, q_80_137, q_80_140, q_80_142, q_80_143, q_80_145, q_80_147, q_80_150, q_80_152, q_80_155, q_80_157, q_80_159, q_80_162, q_80_163, q_80_164, q_80_166, q_80_167, q_80_170, q_80_173, q_80_174, q_80_178, q_80_180, q_80_183, q_80_186, q_80_188, q_80_190, q_80_193, q_80_194, q_80_196, q_80_198, q_80_199, q_80_200, q_80_202, q_80_205, q_80_207, q_80_209, q_80_212, q_80_213, q_80_215, q_80_216, q_80_219, q_80_221, q_80_222, q_80_225, q_80_226, q_80_229, q_80_230, q_80_233, q_80_236, q_80_237, q_80_238, q_80_240, q_80_243, q_80_244, hg_9_4 HV1, hg_9_2 HV1, hg_9_3 HV1, hp_9_3 HV1, h_is HV1, h_ob HV1, ofs_len9, hg_10_3 a1, h_is a1, h_ob a1, ofs_len10, hg_6_9 HC1, hg_6_11 HC1, hp_6_11 HC1, hg_6_0 HC1, h_is HC1, h_ob HC1, ofs_len6, hg_3_0 iA, h_is iA, h_ob iA, ofs_len3, ↓reduceIte, k_cr, k_ci, k_oR, k_oN, k_aR, k_aN, and_true, true_and, and_self, eq_self, Nat.reduceLT, Nat.reduceLeDiff, Nat.reduceEqDiff, Nat.reduceAdd, Nat.reduceMul, Bool.true_eq_false, Bool.false_eq_true, Nat.add_sub_cancel, Nat.not_lt_zero, Nat.zero_le, k_sub, k_sb1, k_r, k_n, k_ret, k_t1, k_t0, k_nr, k_nn, k_z0, k_z1, k_zb, x_okI, lit_nI, k_in, k_cl, k_lt, k_le, k_eq, k_neg, nI_add, nI_mul, k_clt, k_cgt, k_cle, k_cge, k_ceq, bI_0, k_sh8, ne_eq, Nat.add_eq_zero_iff, Nat.one_ne_zero, Nat.succ_ne_zero, and_false, false_and, not_false_eq_true, not_true_eq_false, ite_true, ite_false, if_true, if_false, v4, a5, tM, i10, i2, eM, eK, hy]
    | some eL =>
      rw [hD] at hds
      obtain ⟨he, ms, hPM, p1, p2, p3, p4, p5⟩ := hds
      have k3 := t7 eL.1 he
      obtain ⟨G', h', SS', n', m', ν', SVs', SC', T', b, r1, r2, r3, r4, r5, r6, r7⟩ := tv_take d (ty := zt1 z v.1) (tn := zt2 z eL.1) HC HR rC hT0 HV v4 hc6 v5 HO kO hck hS hn hg hg2 hgg hPM he p1 p2 p3 (hN eL.1 he).2 p4 hEn hty (hN eL.1 he).1 hro h1 hx
      refine ⟨G', h', SS', n', m', ν', SVs', SC', T', b, r1, r2, r3, r4, r5, r6, ?_⟩
      have r7 : tvQ SC SC' v.1 x (clN ms.2.2.2.2.2 (fst0 (zE1 z v.1) v.2) (zm1 z v.1) 0) n n' b v.2.1 (fun w => ∃ SF, SVs' = insG SVs (insF (fun i => sJ (SVs i) 2) w.1 n) n SF ∧ svA n2 κ2 (zm2 z) SF (w.1, v.2.1, eL.1, w)) (cvS z v.1 v.2 eL.1 eL.2) := r7
      show t1Q SC SC' x y n n' b v n2 κ2 (zm2 z) SVs SVs' (match cvS z v.1 v.2 eL.1 eL.2 with
        | .inl q => .inl q
        | .inr w => .inr (some ((eL.1, w), lsF z v.1 v.2 eL.1 eL.2)))
      cases hq : cvS z v.1 v.2 eL.1 eL.2 with
      | inl q =>
        rw [hq] at r7
        exact r7
      | inr w' =>
        rw [hq, p5] at r7
        exact r7
