/-! The class: one VALUE is taken along. -/
theorem cSt.fr0 {g g0 ci a : Nat} {G : gG} {h : xH} {σ : Nat} {SS : gS} {n m : Nat} {ν : Nat → Nat} {SV : Nat → gS} (H : cSt g G h σ SS n m ν SV) (ho : own G g0 ci a) (hne : g0 ≠ g) (S : gS) : cSt g G (oh ci h a S) σ SS n m ν SV := H.keep (fun _ _ => rfl) (fun q _ hq => oh_same (by
  cases hc : ofp ci a q with
  | false => rfl
  | true =>
    rw [ho q hc] at hq
    exact absurd hq hne)) (Nat.le_refl _)
theorem cSt.set {g : Nat} {G : gG} {h : xH} {σ : Nat} {SS : gS} {n m : Nat} {ν : Nat → Nat} {SV : Nat → gS} (H : cSt g G h σ SS n m ν SV) {p : Nat} (hp : p < m) (S : gS) : cSt g G (oh 9 h (ν p) S) σ SS n m ν (up SV p S) := by
  have H0 := H
  obtain ⟨a1, a2, a3, a4, a5, a6, a7⟩ := H
  have o := (a5 p hp).2
  refine ⟨a1.frame o.2.1 (fun z => H0.ne hp z.2), a2, a3, a4, fun i hi => ⟨(a5 i hi).1, ?_⟩, a6, a7⟩
  unfold up
  by_cases c : i = p
  · rw [if_pos c, c]
    exact o.set
  · rw [if_neg c]
    exact (a5 i hi).2.frame o.2.1 (fun z => c (a7 i p hi hp z.2))
theorem up_insG {α : Type} (f : Nat → α) (p n : Nat) (x y : α) : up (insG f p n x) p y = insG f p n y := by
  funext i
  unfold up insG
  by_cases c : i = p
  · subst c
    rw [if_pos rfl, if_neg (Nat.lt_irrefl _), if_pos rfl]
  · rw [if_neg c]
    by_cases c1 : i < p
    · rw [if_pos c1, if_pos c1]
    · rw [if_neg c1, if_neg c1, if_neg c, if_neg c]
theorem insG_p {α : Type} (f : Nat → α) (p n : Nat) (x : α) : insG f p n x p = x := by
  unfold insG
  rw [if_neg (Nat.lt_irrefl _), if_pos rfl]
/-- a plan of a slot in the codes of a whole text -/
def plC (C : List cT) (ms : mS) (eo : kE) (vw : vW) (s : Nat) (pl : Option (List aT) × Option Nat) : Prop := match pl.1 with
  | some B => (∃ pre post, C = pre ++ (B.map (cod eo) ++ post) ∧ ms.2.2.1 s = pre.length ∧ ms.2.2.2.1 s = pre.length + B.length) ∧ 0 < B.length ∧ (∀ a, a ∈ B → actW eo a ∧ actV eo vw a) ∧ hOK 48 B 0 = some 1
  | none => ms.2.2.1 s = 0 ∧ ms.2.2.2.1 s = 0 ∧ (s < 8 → ms.2.1 s = pl.2)
theorem plC.M {C : List cT} {ms : mS} {eo : kE} {vw : vW} {s : Nat} {pl : Option (List aT) × Option Nat} {TM : gS} {tg : Int32} {f1 f2 : Nat → Int32} (h : plC C ms eo vw s pl) (hm : msT TM tg ms) (hs : s < 9) (hC : ∀ q c, C[q]? = some c → f1 q = c.1 ∧ f2 q = c.2) : plM TM eo vw C.length f1 f2 s pl := by
  obtain ⟨o, p2⟩ := pl
  have h23 := hm.2.2.2.1 s hs
  cases o with
  | some B =>
    obtain ⟨⟨pre, post, e1, e2, e3⟩, b1, b2, b3⟩ := h
    refine ⟨pre.length, h23.1.trans (by rw [e2]), h23.2.trans (by rw [e3]), ?_, b1, fun q a hq => ?_, b2, b3⟩
    · rw [e1, List.length_append, List.length_append, List.length_map]
      omega
    · refine hC (pre.length + q) (cod eo a) ?_
      have hl : q < (B.map (cod eo)).length := by
        rw [List.length_map]
        exact (List.getElem?_eq_some_iff.mp hq).1
      rw [e1, List.getElem?_append_right (by omega), Nat.add_sub_cancel_left, List.getElem?_append_left hl, List.getElem?_map, hq]
      rfl
  | none =>
    obtain ⟨e1, e2, e3⟩ := h
    refine ⟨?_, fun h8 => ?_⟩
    · rw [h23.1, h23.2, e1, e2]
      decide
    · rw [hm.2.2.1 s h8, e3 h8]
/-- the RULES that a step goes by, and the BUILD that it goes to -/
def tkB (G : gG) (h : xH) (ρ lo hi β2 : Nat) (SB2 : gS) (n2 : Nat) (κ2 : Nat → Nat) (SK2 : Nat → gS) (m2 : Nat → Nat) (PM : pM) (C : List cT) (mc : Nat) : Prop := rsB h lo hi ρ β2 PM C mc ∧ (∀ q, lo ≤ q → q < hi → G q = (5, lo)) ∧ hi ≤ h.2.2.1 ∧ hB G 1 2 h β2 SB2 ∧ sI SB2 1 = nI n2 ∧ n2 ≤ 6 ∧ ∀ e, e < n2 → sQ SB2 0 e = .ref (κ2 e) ∧ hB G 1 1 h (κ2 e) (SK2 e) ∧ kOK (SK2 e) (m2 e)
theorem tkB.keep {G G' : gG} {h h' : xH} {ρ lo hi β2 : Nat} {SB2 : gS} {n2 : Nat} {κ2 : Nat → Nat} {SK2 : Nat → gS} {m2 : Nat → Nat} {PM : pM} {C : List cT} {mc : Nat} (H : tkB G h ρ lo hi β2 SB2 n2 κ2 SK2 m2 PM C mc) (hG : ∀ q, q < h.2.2.1 → G' q = G q) (hk : ∀ q, q < h.2.2.1 → (G q).1 = 1 ∨ (G q).1 = 5 → h'.1 q = h.1 q) (hn : h.2.2.1 ≤ h'.2.2.1) : tkB G' h' ρ lo hi β2 SB2 n2 κ2 SK2 m2 PM C mc := by
  obtain ⟨a1, a2, a3, a4, a5, a6, a7⟩ := H
  refine ⟨a1.kp (fun q h1 h2 => hk q (by omega) (Or.inr (by rw [a2 q h1 h2]))), fun q h1 h2 => (hG q (by omega)).trans (a2 q h1 h2), by omega, a4.keep (by decide) hG (fun q hq e => hk q hq (Or.inl (by rw [e]))) hn, a5, a6, fun e he => ?_⟩
  obtain ⟨b1, b2, b3⟩ := a7 e he
  exact ⟨b1, b2.keep (by decide) hG (fun q hq e => hk q hq (Or.inl (by rw [e]))) hn, b3⟩
theorem tkB.bOK {G : gG} {h : xH} {ρ lo hi β2 : Nat} {SB2 : gS} {n2 : Nat} {κ2 : Nat → Nat} {SK2 : Nat → gS} {m2 : Nat → Nat} {PM : pM} {C : List cT} {mc : Nat} (H : tkB G h ρ lo hi β2 SB2 n2 κ2 SK2 m2 PM C mc) : bOK h SB2 n2 κ2 SK2 := ⟨H.2.2.2.2.1, H.2.2.2.2.2.1, fun i hi => ⟨(H.2.2.2.2.2.2 i hi).1, (H.2.2.2.2.2.2 i hi).2.1.1⟩⟩
theorem dj_int {G : gG} {g0 ci a ci2 a2 lo hi : Nat} (ho : own G g0 ci a) (h2 : ∀ q, ofp ci2 a2 q = true → lo ≤ q ∧ q < hi) (hG : ∀ q, lo ≤ q → q < hi → G q = (5, lo)) (hne : g0 ≠ 5) : dj ci a ci2 a2 := by
  intro q hq
  cases hc : ofp ci2 a2 q with
  | false => rfl
  | true =>
    have e1 := ho q hq
    have e2 := h2 q hc
    rw [hG q e2.1 e2.2] at e1
    exact absurd (Prod.mk.inj e1).1.symm hne
theorem of_int {G : gG} {g0 ci a lo hi x : Nat} (ho : own G g0 ci a) (h1 : lo ≤ x) (h2 : x < hi) (hG : ∀ q, lo ≤ q → q < hi → G q = (5, lo)) (hne : g0 ≠ 5) : ofp ci a x = false := by
  cases hc : ofp ci a x with
  | false => rfl
  | true =>
    have e1 := ho x hc
    rw [hG x h1 h2] at e1
    exact absurd (Prod.mk.inj e1).1.symm hne
theorem in10 {ρ lo hi q : Nat} (hq : ofp 10 ρ q = true) (h1 : lo ≤ ρ) (h2 : ρ < hi) : lo ≤ q ∧ q < hi := by
  by_cases c : q = ρ
  · rw [c]
    exact ⟨h1, h2⟩
  · rw [ofp_10 c] at hq
    cases hq
/-- what a step leaves alone -/
def tkF (G G' : gG) (h h' : xH) (g Kc R m m' : Nat) : Prop := (∀ q, q < h.2.2.1 → G' q = G q) ∧ (∀ q, q < h.2.2.1 → (G q).1 ≠ g → G q ≠ (0, Kc) → G q ≠ (0, R) → h'.1 q = h.1 q) ∧ h'.2.1 = h.2.1 ∧ m ≤ m' ∧ h'.2.2.1 + 3 * m = h.2.2.1 + 3 * m' ∧ h'.2.2.2 + 78 * m = h.2.2.2 + 78 * m'
theorem tkF.trans {G G' G'' : gG} {h h' h'' : xH} {g Kc R m m' m'' : Nat} (a : tkF G G' h h' g Kc R m m') (b : tkF G' G'' h' h'' g Kc R m' m'') : tkF G G'' h h'' g Kc R m m'' := by
  obtain ⟨a1, a2, a3, a4, a5, a6⟩ := a
  obtain ⟨b1, b2, b3, b4, b5, b6⟩ := b
  refine ⟨fun q hq => (b1 q (by omega)).trans (a1 q hq), fun q hq c1 c2 c3 => ?_, b3.trans a3, by omega, by omega, by omega⟩
  have e := a1 q hq
  exact (b2 q (by omega) (by rw [e]; exact c1) (by rw [e]; exact c2) (by rw [e]; exact c3)).trans (a2 q hq c1 c2 c3)
theorem tkF.rfl {G : gG} {h : xH} {g Kc R m : Nat} : tkF G G h h g Kc R m m := ⟨fun _ _ => Eq.refl _, fun _ _ _ _ _ => Eq.refl _, Eq.refl _, Nat.le_refl _, Eq.refl _, Eq.refl _⟩
/-- a VALUE of the class: KEY, old KEY, CLASS, what it has -/
abbrev aX : Type := Int64 × (Int64 × Nat × vW)
def svA (n2 : Nat) (κ2 m2 : Nat → Nat) (S : gS) (x : aX) : Prop := sJ S 3 = x.2.1 ∧ x.2.2.1 < n2 ∧ sI S 4 = nI x.2.2.1 ∧ sR S 5 = .ref (κ2 x.2.2.1) ∧ ckV (m2 x.2.2.1) S x.2.2.2 ∧ x.2.2.2.1 = x.1
def tvQ (SC SC' : gS) (c x ls n n' b : Nat) (key : Int64) (P : vW → Prop) : (Nat × Option Nat) ⊕ vW → Prop
  | .inl q => b = 0 ∧ SC' = rfC SC (nI q.1) (nI c) (oI q.2) key 0
  | .inr w => b = 1 ∧ n' = n + 1 ∧ SC' = uI SC 10 (nI (x + ls)) ∧ P w
theorem nv0_f {SF SN : gS} {nN κ : Nat} {w : Int64} {c : Int32} {rn : Nat → Bool} (h : frsh SF SN nN κ w c) (hn : nN ≤ 8) (hrn : ∀ i, i < nN → rn i = kRow SN i) (o : Int64) : fwV nN (uJ SF 3 o) (nv0 w nN rn) := by
  refine ⟨fun m hm => ?_, fun m k hm hk => ?_⟩
  · have e := h.2.2.2.2.1 m (by omega)
    show sA SF 0 m = nI (if m < nN ∧ rn m = false then 1 else 0) ∧ (if m < nN ∧ rn m = false then 1 else 0) ≤ 8
    rw [e]
    unfold f0F
    rw [decide_eq_true hm, Bool.true_and, ← hrn m hm]
    cases rn m with
    | true => exact ⟨by rw [if_pos rfl, if_neg (fun z => by cases z.2)], by rw [if_neg (fun z => by cases z.2)]; omega⟩
    | false => exact ⟨by rw [if_neg (by decide), if_pos ⟨hm, rfl⟩], by rw [if_pos ⟨hm, rfl⟩]; omega⟩
  · exact h.2.2.2.2.2 (8 * m + k) (by omega)
theorem fwV.ck {n : Nat} {S : gS} {w : vW} (h : fwV n S w) (hk : sJ S 2 = w.1) (_h8 : n ≤ 8) : ckV n S w := ⟨hk, h.1, fun m k hm hk => h.2 m k hm (by
  have := (h.1 m hm).2
  omega)⟩
theorem tv_take (d : Nat) {G : gG} {h : xH} {Kc R ρ lo hi β2 κO V g2 g c nO n2 e x σ n m : Nat} {SC T SB2 SV SK SS : gS} {PM : pM} {C : List cT} {mc : Nat} {κ2 : Nat → Nat} {SK2 : Nat → gS} {m2 : Nat → Nat} {ν : Nat → Nat} {SVs : Nat → gS} {vw : vW} {eo : kE} {ty tn : Nat → Nat} {ms : mS} {rn : Nat → Bool} {nm : Nat → Int64} {L : List rT} (HC : hB G 0 6 h Kc SC) (HR : hB G 0 5 h R T) (rC : sR SC 0 = .ref R) (hT : tkB G h ρ lo hi β2 SB2 n2 κ2 SK2 m2 PM C mc) (HV : hB G g2 9 h V SV) (v4 : sI SV 4 = nI c) (hc : c < 6) (v5 : sR SV 5 = .ref κO) (HO : hB G 1 1 h κO SK) (kO : kOK SK nO) (hv : ckV nO SV vw) (hS : cSt g G h σ SS n m ν SVs) (hn : n < 60) (hg : 1 < g ∧ g < 5) (hg2 : 1 < g2 ∧ g2 < 5) (hgg : g ≠ g2) (hPM : PM c = some (nI e, ms)) (he : e < n2) (hplK : plC C ms eo vw 8 (plK L, none)) (hpl : ∀ i, i < m2 e → plC C ms eo vw i (plR eo (rn i) L (nm i))) (hp2 : ∀ i o, i < m2 e → (plR eo (rn i) L (nm i)).2 = some o → o < nO) (hrn : ∀ i, i < m2 e → rn i = kRow (SK2 e) i) (hrow : ∀ i, i < m2 e → (plR eo (rn i) L (nm i)).1 ≠ none → rn i = false) (hEn : ∀ w m, eo.1 w = some m → m < nO) (hty : ∀ q, q < nO → sA SK 2 q = nI (ty q) ∧ ty q ≤ 7) (htn : ∀ i, i < m2 e → sA (SK2 e) 2 i = nI (tn i) ∧ tn i ≤ 7) (hro : ∀ i, i < nO → eo.2.1 i = kRow SK i) (h1 : ∀ i, i < nO → eo.2.1 i = false → 0 < vw.2.1 i) (hx : sI SC 10 = nI x) : ∃ G' h' SS' n' m' ν' SVs' SC' T' b, xm (d + 6) 80 [.ref Kc, .ref V, .ref σ, .ref ρ] h = some (some (.int (nI b)), h') ∧ tkF G G' h h' g Kc R m m' ∧ hB G' 0 6 h' Kc SC' ∧ hB G' 0 5 h' R T' ∧ cSt g G' h' σ SS' n' m' ν' SVs' ∧ sI SS' 1 = sI SS 1 ∧ tvQ SC SC' c x (clN ms.2.2.2.2.2 (fst0 eo vw) nO 0) n n' b vw.1 (fun w => ∃ SF, SVs' = insG SVs (insF (fun i => sJ (SVs i) 2) w.1 n) n SF ∧ svA n2 κ2 m2 SF (w.1, vw.1, e, w)) (cvR eo vw L (fun i => fiM eo vw ty (tn i) (plR eo (rn i) L (nm i))) (m2 e) rn) := by
  have hT0 := hT
  have hS0 := hS
  obtain ⟨⟨SR, W, C1, C2, w, f1, f2, a1, a2, a3, a4, a5, a6, a7, a8, a9, a10, a11, a12, b1, b2, b3, b4, b5, b6, b7, b8⟩, t2, t3, t4, t5, t6, t7⟩ := hT
  obtain ⟨k1, k2, k3⟩ := t7 e he
  have hm2 := k3.2.1
  have hnO := kO.2.1
  have hA := a8 c hc
  rw [hPM] at hA
  obtain ⟨A, TM, eA, iA, iT, lA, bA⟩ := hA
  have n6 : o_sz 6 = 1 := rfl
  have inA : ∀ q, ofp 3 A q = true → lo ≤ q ∧ q < hi := fun q hq => ⟨by have := ofp_ge hq; omega, bA q hq⟩
  have KR : Kc ≠ R := HC.ne HR (by decide)
  have plm := fun i (hi : i < m2 e) => (hpl i hi).M iT (by omega) a11
  have plk := hplK.M iT (by decide) a11
  have hk : rkH h R ρ A V C1 C2 C.length SR TM SV f1 f2 := ⟨a1, iA, HV.1, a3, a4, a9, a10, by omega, dj_int HR.2.1 (fun q hq => in10 hq b1 b2) t2 (by decide), dj_int HR.2.1 inA t2 (by decide), own_dj HR.2.1 HV.2.1 (fun z => by omega), of_int HR.2.1 b5 b6 t2 (by decide), of_int HR.2.1 b7 b8 t2 (by decide)⟩
  have eM : xm (d + 5) 81 [.ref ρ, .int (nI c)] h = some (some (.ref A), h) := by
    have := c_moveOfR (d + 4) h a1 a2 a7 hc (Or.inr ⟨A, eA⟩)
    rw [eA] at this
    exact this
  have eK : xm (d + 5) 18 [.ref β2, .int (nI e)] h = some (some (.ref (κ2 e)), h) := by
    have := c_kindAt (d + 4) h β2 n2 e SB2 κ2 SK2 t4.1 hT0.bOK (by omega)
    rw [if_pos he] at this
    exact this
  have eW : xm (d + 5) 83 [.ref A, .int (nI 8)] h = _ := c_isWorked (d + 4) h A 8 TM iA (by omega)
  have HC1 := HC.1
  have HV1 := HV.1
  have HR1 := HR.1
  have tM : sI TM 0 = nI e := iT.1
  have i10 : ∀ {α : Type} (f : Option α), xis h ρ 10 f = f := fun f => h_is a1 f
  have i2 : ∀ {α : Type} (f : Option α), xis h β2 2 f = f := fun f => h_is t4.1 f
  have i3 : ∀ {α : Type} (f : Option α), xis h A 3 f = f := fun f => h_is iA f
  have i5 : ∀ {α : Type} (f : Option α), xis h R 5 f = f := fun f => h_is HR1 f
  have i6 : ∀ {α : Type} (f : Option α), xis h Kc 6 f = f := fun f => h_is HC1 f
  have v2 := hv.1
  -- the KEY
  have key : (∃ T1 q, evB (evF eo vw ((plK L).getD []) (fun _ => 0) 0) = false ∧ cvK eo vw L = .inl q ∧ xm (d + 6) 80 [.ref Kc, .ref V, .ref σ, .ref ρ] h = some (some (.int (nI 0)), oh 6 (oh 5 h R T1) Kc (rfC SC (nI q) (nI c) (-nI 1) vw.1 0))) ∨ ∃ T1 kx, cvK eo vw L = .inr kx ∧ xm (d + 6) 80 [.ref Kc, .ref V, .ref σ, .ref ρ] h = xrun (d + 5) 80 142 [(1, .ref Kc), (1, .ref V), (1, .ref σ), (1, .ref ρ), (1, .ref A), (1, .ref (κ2 e)), (2, .long kx), (0, .null), (0, .null), (0, .null), (0, .null)] [] (oh 5 h R T1) := by
    have eL : cvK eo vw L = (match plK L with
      | none => .inr vw.1
      | some B => (match evF eo vw B (fun _ => 0) 0 with
        | .inl q => .inl q
        | .inr z => .inr (z.1 0))) := by
      unfold cvK plK
      cases L.find? (isR 0 0) <;> rfl
    cases hB : plK L with
    | none =>
      rw [hB] at plk eL
      rw [decide_eq_false plk.1, bI_f] at eW
      refine Or.inr ⟨T, vw.1, eL, ?_⟩
      rw [show oh 5 h R T = h from HR1, E_80 _ _ _ _ _ _ rfl rfl rfl rfl]
      simp (disch := omega) only [q_80_0, q_80_1, q_80_2, q_80_5, q_80_8, q_80_10, q_80_12, q_80_15, q_80_16, q_80_19, q_80_22, q_80_23, q_80_25, q_80_26, q_80_29, q_80_30, q_80_31, q_80_34, q_80_35, q_80_38, q_80_39, q_80_41, q_80_44, q_80_45, q_80_48, q_80_49, q_80_52, q_80_54, q_80_57, q_80_60, q_80_62, q_80_64, q_80_67, q_80_68, q_80_69, q_80_72, q_80_73, q_80_74, q_80_77, q_80_78, q_80_79, q_80_80, q_80_83, q_80_85, q_80_87, q_80_89, q_80_92, q_80_95, q_80_96, q_80_99, q_80_100, q_80_102, q_80_104, q_80_105, q_80_108, q_80_111, q_80_112, q_80_113, q_80_116, q_80_119, q_80_120, q_80_123, q_80_124, q_80_125, q_80_128, q_80_129, q_80_132, q_80_133, q_80_134, q_80_137, q_80_140, og_9_4, og_6_9, og_9_2, og_10_3, og_3_0, og_6_11, op_6_11, og_6_0, og_5_2, og_5_3, og_9_3, op_9_3, og_1_4, o_is, o_ob, ofs_len1, ofs_len3, ofs_len5, ofs_len6, ofs_len9, ofs_len10, q_80_0, q_80_1, q_80_2, q_80_5, q_80_8, q_80_10, q_80_12, q_80_15, q_80_16, q_80_19, q_80_22, q_80_23, q_80_25, q_80_26, q_80_29, q_80_30, q_80_31, q_80_34, q_80_35, q_80_38, q_80_39, q_80_41, q_80_44, q_80_45, q_80_48, q_80_49, q_80_52, q_80_54, q_80_57, q_80_60, q_80_62, q_80_64, q_80_67, q_80_68, q_80_69, q_80_72, q_80_73, q_80_74, q_80_77, q_80_78, q_80_79, q_80_80, q_80_83, q_80_85, q_80_87, q_80_89, q_80_92, q_80_95, q_80_96, q_80_99, q_80_100, q_80_102, q_80_104, q_80_105, q_80_108, q_80_111, q_80_112, q_80_113, q_80_116, q_80_119, q_80_120, q_80_123, q_80_124, q_80_125, q_80_128, q_80_129, q_80_132, q_80_133, q_80_134, q_80_137, q_80_140, q_80_142, q_80_143, q_80_145, q_80_147, q_80_150, q_80_152, q_80_155, q_80_157, q_80_159, q_80_162, q_80_163, q_80_164, q_80_166, q_80_167, q_80_170, q_80_173, q_80_174, q_80_178, q_80_180, q_80_183, q_80_186, q_80_188, q_80_190, q_80_193, q_80_194, q_80_196, q_80_198, q_80_199, q_80_200, q_80_202, q_80_205, q_80_207, q_80_209, q_80_212, q_80_213, q_80_215, q_80_216, q_80_219, q_80_221, q_80_222, q_80_225, q_80_226, q_80_229, q_80_230, q_80_233, q_80_236, q_80_237, q_80_238, q_80_240, q_80_243, q_80_244, hg_9_4 HV1, hg_9_2 HV1, hg_9_3 HV1, hp_9_3 HV1, h_is HV1, h_ob HV1, ofs_len9, hg_3_0 iA, h_is iA, h_ob iA, ofs_len3, hg_10_3 a1, h_is a1, h_ob a1, ofs_len10, ↓reduceIte, k_cr, k_ci, k_oR, k_oN, k_aR, k_aN, and_true, true_and, and_self, eq_self, Nat.reduceLT, Nat.reduceLeDiff, Nat.reduceEqDiff, Nat.reduceAdd, Nat.reduceMul, Bool.true_eq_false, Bool.false_eq_true, Nat.add_sub_cancel, Nat.not_lt_zero, Nat.zero_le, k_sub, k_sb1, k_r, k_n, k_ret, k_t1, k_t0, k_nr, k_nn, k_z0, k_z1, k_zb, x_okI, lit_nI, k_in, k_cl, k_lt, k_le, k_eq, k_neg, nI_add, nI_mul, k_clt, k_cgt, k_cle, k_cge, k_ceq, bI_0, k_sh8, ne_eq, Nat.add_eq_zero_iff, Nat.one_ne_zero, Nat.succ_ne_zero, and_false, false_and, not_false_eq_true, not_true_eq_false, ite_true, ite_false, if_true, if_false, v4, v2, a5, tM, i10, i2, i3, eM, eK, eW]
    | some B =>
      rw [hB] at plk eL
      obtain ⟨s, s1, s2, s3, s4, s5, s6, s7⟩ := plk
      have hC7 : C.length < 700 := a12
      rw [decide_eq_true (show sA TM 2 8 < sA TM 3 8 by rw [s1, s2, k_lt (by omega) (by omega)]; omega), bI_t] at eW
      obtain ⟨T1, eR, fR, gR⟩ := c_reckon (d + 2) h (T := T) (e := eo) hk hv hnO hEn (show 8 < 9 by omega) s1 s2 s3 s5 s6 s7
      rw [show oh 5 h R T = h from HR1] at eR
      have HC2 : isB 6 (oh 5 h R T1) Kc SC := HC1.frame (own_dj HR.2.1 HC.2.1 (fun z => KR z.2.symm))
      have HV2 : isB 9 (oh 5 h R T1) V SV := HV1.frame hk.2.2.2.2.2.2.2.2.2.2.1
      have i62 : ∀ {α : Type} (f : Option α), xis (oh 5 h R T1) Kc 6 f = f := fun f => h_is HC2 f
      have i52 : ∀ {α : Type} (f : Option α), xis (oh 5 h R T1) R 5 f = f := fun f => h_is (isB_oh _ _ _ _) f
      have HR2 : isB 5 (oh 5 h R T1) R T1 := isB_oh _ _ _ _
      have eL : cvK eo vw L = (match evF eo vw B (fun _ => 0) 0 with
        | .inl q => .inl q
        | .inr z => .inr (z.1 0)) := eL
      cases hev : evF eo vw B (fun _ => 0) 0 with
      | inl q =>
        rw [hev] at eR gR eL
        have eR : xm (d + 5) 84 [.ref R, .ref ρ, .ref A, .int (nI 8), .ref V] h = some (some (.int (nI 0)), oh 5 h R T1) := eR
        have gR2 : sI T1 2 = nI q := gR.1
        have eF : xm (d + 5) 82 [.ref Kc, .int (nI q), .int (nI c), .int (-nI 1), .long vw.1, .long 0] (oh 5 h R T1) = _ := c_refuseH (d + 4) HC2 (nI q) (nI c) (-nI 1) vw.1 0
        refine Or.inl ⟨T1, q, by show evB (evF eo vw B (fun _ => 0) 0) = false; rw [hev]; rfl, eL, ?_⟩
        rw [E_80 _ _ _ _ _ _ rfl rfl rfl rfl]
        simp (disch := omega) only [q_80_0, q_80_1, q_80_2, q_80_5, q_80_8, q_80_10, q_80_12, q_80_15, q_80_16, q_80_19, q_80_22, q_80_23, q_80_25, q_80_26, q_80_29, q_80_30, q_80_31, q_80_34, q_80_35, q_80_38, q_80_39, q_80_41, q_80_44, q_80_45, q_80_48, q_80_49, q_80_52, q_80_54, q_80_57, q_80_60, q_80_62, q_80_64, q_80_67, q_80_68, q_80_69, q_80_72, q_80_73, q_80_74, q_80_77, q_80_78, q_80_79, q_80_80, q_80_83, q_80_85, q_80_87, q_80_89, q_80_92, q_80_95, q_80_96, q_80_99, q_80_100, q_80_102, q_80_104, q_80_105, q_80_108, q_80_111, q_80_112, q_80_113, q_80_116, q_80_119, q_80_120, q_80_123, q_80_124, q_80_125, q_80_128, q_80_129, q_80_132, q_80_133, q_80_134, q_80_137, q_80_140, og_9_4, og_6_9, og_9_2, og_10_3, og_3_0, og_6_11, op_6_11, og_6_0, og_5_2, og_5_3, og_9_3, op_9_3, og_1_4, o_is, o_ob, ofs_len1, ofs_len3, ofs_len5, ofs_len6, ofs_len9, ofs_len10, q_80_0, q_80_1, q_80_2, q_80_5, q_80_8, q_80_10, q_80_12, q_80_15, q_80_16, q_80_19, q_80_22, q_80_23, q_80_25, q_80_26, q_80_29, q_80_30, q_80_31, q_80_34, q_80_35, q_80_38, q_80_39, q_80_41, q_80_44, q_80_45, q_80_48, q_80_49, q_80_52, q_80_54, q_80_57, q_80_60, q_80_62, q_80_64, q_80_67, q_80_68, q_80_69, q_80_72, q_80_73, q_80_74, q_80_77, q_80_78, q_80_79, q_80_80, q_80_83, q_80_85, q_80_87, q_80_89, q_80_92, q_80_95, q_80_96, q_80_99, q_80_100, q_80_102, q_80_104, q_80_105, q_80_108, q_80_111, q_80_112, q_80_113, q_80_116, q_80_119, q_80_120, q_80_123, q_80_124, q_80_125, q_80_128, q_80_129, q_80_132, q_80_133, q_80_134, q_80_137, q_80_140, q_80_142, q_80_143, q_80_145, q_80_147, q_80_150, q_80_152, q_80_155, q_80_157, q_80_159, q_80_162, q_80_163, q_80_164, q_80_166, q_80_167, q_80_170, q_80_173, q_80_174, q_80_178, q_80_180, q_80_183, q_80_186, q_80_188, q_80_190, q_80_193, q_80_194, q_80_196, q_80_198, q_80_199, q_80_200, q_80_202, q_80_205, q_80_207, q_80_209, q_80_212, q_80_213, q_80_215, q_80_216, q_80_219, q_80_221, q_80_222, q_80_225, q_80_226, q_80_229, q_80_230, q_80_233, q_80_236, q_80_237, q_80_238, q_80_240, q_80_243, q_80_244, hg_9_4 HV1, hg_9_2 HV1, hg_9_3 HV1, hp_9_3 HV1, h_is HV1, h_ob HV1, ofs_len9, hg_3_0 iA, h_is iA, h_ob iA, ofs_len3, hg_10_3 a1, h_is a1, h_ob a1, ofs_len10, hg_6_9 HC1, hg_6_11 HC1, hp_6_11 HC1, hg_6_0 HC1, h_is HC1, h_ob HC1, ofs_len6, hg_6_9 HC2, hg_6_11 HC2, hp_6_11 HC2, hg_6_0 HC2, h_is HC2, h_ob HC2, ofs_len6, hg_5_2 HR2, hg_5_3 HR2, h_is HR2, h_ob HR2, ofs_len5, hg_9_4 HV2, hg_9_2 HV2, hg_9_3 HV2, hp_9_3 HV2, h_is HV2, h_ob HV2, ofs_len9, ↓reduceIte, k_cr, k_ci, k_oR, k_oN, k_aR, k_aN, and_true, true_and, and_self, eq_self, Nat.reduceLT, Nat.reduceLeDiff, Nat.reduceEqDiff, Nat.reduceAdd, Nat.reduceMul, Bool.true_eq_false, Bool.false_eq_true, Nat.add_sub_cancel, Nat.not_lt_zero, Nat.zero_le, k_sub, k_sb1, k_r, k_n, k_ret, k_t1, k_t0, k_nr, k_nn, k_z0, k_z1, k_zb, x_okI, lit_nI, k_in, k_cl, k_lt, k_le, k_eq, k_neg, nI_add, nI_mul, k_clt, k_cgt, k_cle, k_cge, k_ceq, bI_0, k_sh8, ne_eq, Nat.add_eq_zero_iff, Nat.one_ne_zero, Nat.succ_ne_zero, and_false, false_and, not_false_eq_true, not_true_eq_false, ite_true, ite_false, if_true, if_false, v4, v2, a5, tM, rC, i10, i2, i3, i5, i62, eM, eK, eW, eR, gR2, eF]
      | inr z =>
        rw [hev] at eR gR eL
        have eR : xm (d + 5) 84 [.ref R, .ref ρ, .ref A, .int (nI 8), .ref V] h = some (some (.int (nI 1)), oh 5 h R T1) := eR
        have gR3 : sJ T1 3 = z.1 0 := gR.2 rfl
        refine Or.inr ⟨T1, z.1 0, eL, ?_⟩
        rw [E_80 _ _ _ _ _ _ rfl rfl rfl rfl]
        simp (disch := omega) only [q_80_0, q_80_1, q_80_2, q_80_5, q_80_8, q_80_10, q_80_12, q_80_15, q_80_16, q_80_19, q_80_22, q_80_23, q_80_25, q_80_26, q_80_29, q_80_30, q_80_31, q_80_34, q_80_35, q_80_38, q_80_39, q_80_41, q_80_44, q_80_45, q_80_48, q_80_49, q_80_52, q_80_54, q_80_57, q_80_60, q_80_62, q_80_64, q_80_67, q_80_68, q_80_69, q_80_72, q_80_73, q_80_74, q_80_77, q_80_78, q_80_79, q_80_80, q_80_83, q_80_85, q_80_87, q_80_89, q_80_92, q_80_95, q_80_96, q_80_99, q_80_100, q_80_102, q_80_104, q_80_105, q_80_108, q_80_111, q_80_112, q_80_113, q_80_116, q_80_119, q_80_120, q_80_123, q_80_124, q_80_125, q_80_128, q_80_129, q_80_132, q_80_133, q_80_134, q_80_137, q_80_140, og_9_4, og_6_9, og_9_2, og_10_3, og_3_0, og_6_11, op_6_11, og_6_0, og_5_2, og_5_3, og_9_3, op_9_3, og_1_4, o_is, o_ob, ofs_len1, ofs_len3, ofs_len5, ofs_len6, ofs_len9, ofs_len10, q_80_0, q_80_1, q_80_2, q_80_5, q_80_8, q_80_10, q_80_12, q_80_15, q_80_16, q_80_19, q_80_22, q_80_23, q_80_25, q_80_26, q_80_29, q_80_30, q_80_31, q_80_34, q_80_35, q_80_38, q_80_39, q_80_41, q_80_44, q_80_45, q_80_48, q_80_49, q_80_52, q_80_54, q_80_57, q_80_60, q_80_62, q_80_64, q_80_67, q_80_68, q_80_69, q_80_72, q_80_73, q_80_74, q_80_77, q_80_78, q_80_79, q_80_80, q_80_83, q_80_85, q_80_87, q_80_89, q_80_92, q_80_95, q_80_96, q_80_99, q_80_100, q_80_102, q_80_104, q_80_105, q_80_108, q_80_111, q_80_112, q_80_113, q_80_116, q_80_119, q_80_120, q_80_123, q_80_124, q_80_125, q_80_128, q_80_129, q_80_132, q_80_133, q_80_134, q_80_137, q_80_140, q_80_142, q_80_143, q_80_145, q_80_147, q_80_150, q_80_152, q_80_155, q_80_157, q_80_159, q_80_162, q_80_163, q_80_164, q_80_166, q_80_167, q_80_170, q_80_173, q_80_174, q_80_178, q_80_180, q_80_183, q_80_186, q_80_188, q_80_190, q_80_193, q_80_194, q_80_196, q_80_198, q_80_199, q_80_200, q_80_202, q_80_205, q_80_207, q_80_209, q_80_212, q_80_213, q_80_215, q_80_216, q_80_219, q_80_221, q_80_222, q_80_225, q_80_226, q_80_229, q_80_230, q_80_233, q_80_236, q_80_237, q_80_238, q_80_240, q_80_243, q_80_244, hg_9_4 HV1, hg_9_2 HV1, hg_9_3 HV1, hp_9_3 HV1, h_is HV1, h_ob HV1, ofs_len9, hg_3_0 iA, h_is iA, h_ob iA, ofs_len3, hg_10_3 a1, h_is a1, h_ob a1, ofs_len10, hg_6_9 HC1, hg_6_11 HC1, hp_6_11 HC1, hg_6_0 HC1, h_is HC1, h_ob HC1, ofs_len6, hg_6_9 HC2, hg_6_11 HC2, hp_6_11 HC2, hg_6_0 HC2, h_is HC2, h_ob HC2, ofs_len6, hg_5_2 HR2, hg_5_3 HR2, h_is HR2, h_ob HR2, ofs_len5, ↓reduceIte, k_cr, k_ci, k_oR, k_oN, k_aR, k_aN, and_true, true_and, and_self, eq_self, Nat.reduceLT, Nat.reduceLeDiff, Nat.reduceEqDiff, Nat.reduceAdd, Nat.reduceMul, Bool.true_eq_false, Bool.false_eq_true, Nat.add_sub_cancel, Nat.not_lt_zero, Nat.zero_le, k_sub, k_sb1, k_r, k_n, k_ret, k_t1, k_t0, k_nr, k_nn, k_z0, k_z1, k_zb, x_okI, lit_nI, k_in, k_cl, k_lt, k_le, k_eq, k_neg, nI_add, nI_mul, k_clt, k_cgt, k_cle, k_cge, k_ceq, bI_0, k_sh8, ne_eq, Nat.add_eq_zero_iff, Nat.one_ne_zero, Nat.succ_ne_zero, and_false, false_and, not_false_eq_true, not_true_eq_false, ite_true, ite_false, if_true, if_false, v4, v2, a5, tM, rC, i10, i2, i3, i5, i62, eM, eK, eW, eR, gR3]
  rcases key with ⟨T1, q, _, eC, eX⟩ | ⟨T1, kx, eC, eX⟩
  · refine ⟨G, _, SS, n, m, ν, SVs, _, T1, 0, eX, ⟨fun _ _ => rfl, fun q hq c1 c2 c3 => ?_, rfl, Nat.le_refl _, rfl, rfl⟩, ⟨isB_oh _ _ _ _, HC.2.1, HC.2.2⟩, ?_, (hS.fr0 HR.2.1 (by omega) _).fr0 HC.2.1 (by omega) _, rfl, ?_⟩
    · rw [oh_same (by
        cases hc : ofp 6 Kc q with
        | false => rfl
        | true => exact absurd (HC.2.1 q hc) c2), oh_same (by
        cases hc : ofp 5 R q with
        | false => rfl
        | true => exact absurd (HR.2.1 q hc) c3)]
    · exact (hB.set HR).frame HC.2.1 (fun z => KR z.2.symm)
    · unfold cvR
      rw [eC]
      exact ⟨rfl, rfl⟩
  · -- it is made
    have HR1b : hB G 0 5 (oh 5 h R T1) R T1 := hB.set HR
    have HKb : hB G 1 1 (oh 5 h R T1) (κ2 e) (SK2 e) := k2.frame HR.2.1 (fun z => by cases z.1)
    obtain ⟨G', h2, SS', m', F, SF, x1, x2, x3, x4, x5, x6, x7, x8⟩ := c_insertG (d + 2) (g := g) kx (nI e) (hS.fr0 HR.2.1 (show 0 ≠ g by omega) T1) hn HKb k3 (by omega)
    have nx : h.2.2.1 ≤ h2.2.2.1 := by
      have e1 : (oh 5 h R T1).2.2.1 = h.2.2.1 := rfl
      rcases x8 with z | z <;> omega
    have hmm : m ≤ m' := by rcases x8 with z | z <;> omega
    have kk : ∀ q, q < h.2.2.1 → (G q).1 ≠ g → G q ≠ (0, R) → h2.1 q = h.1 q := fun q hq c1 c2 => (x6 q hq (fun z => c1 (by rw [z])) (fun i _ z => c1 (by rw [z]))).trans (oh_same (by
      cases hc : ofp 5 R q with
      | false => rfl
      | true => exact absurd (HR.2.1 q hc) c2))
    have p1 : insF (fun i => sJ (SVs i) 2) kx n ≤ n := insF_le _ _ _
    have pm : insF (fun i => sJ (SVs i) 2) kx n < m' := by
      have := x2.2.2.1
      omega
    have oF := (x2.2.2.2.2.1 _ pm).2
    rw [insG_p, insG_p] at oF
    have gne : (0 : Nat) ≠ g := by omega
    have g1ne : (1 : Nat) ≠ g := by omega
    have HC' : hB G' 0 6 h2 Kc SC := HC.keep (by decide) x5 (fun q hq z => kk q hq (by rw [z]; exact gne) (by rw [z]; exact fun y => KR (Prod.mk.inj y).2)) nx
    have HR' : hB G' 0 5 h2 R T1 := HR1b.keep (by decide) x5 (fun q hq z => x6 q hq (fun y => gne (by rw [z] at y; exact (Prod.mk.inj y).1)) (fun i _ y => gne (by rw [z] at y; exact (Prod.mk.inj y).1))) nx
    have g2ne : g2 ≠ g := fun z => hgg z.symm
    have HV' : hB G' g2 9 h2 V SV := HV.keep (by decide) x5 (fun q hq z => kk q hq (by rw [z]; exact g2ne) (by rw [z]; exact fun y => by have := (Prod.mk.inj y).1; omega)) nx
    have HO' : hB G' 1 1 h2 κO SK := HO.keep (by decide) x5 (fun q hq z => kk q hq (by rw [z]; exact g1ne) (by rw [z]; exact fun y => by cases y)) nx
    have HN' : hB G' 1 1 h2 (κ2 e) (SK2 e) := k2.keep (by decide) x5 (fun q hq z => kk q hq (by rw [z]; exact g1ne) (by rw [z]; exact fun y => by cases y)) nx
    have t2' : ∀ q, lo ≤ q → q < hi → G' q = (5, lo) := fun q h1 h2 => (x5 q (by show q < h.2.2.1; omega)).trans (t2 q h1 h2)
    have kI : ∀ q, lo ≤ q → q < hi → h2.1 q = h.1 q := fun q h1 h2 => kk q (by omega) (by rw [t2 q h1 h2]; show 5 ≠ g; omega) (by rw [t2 q h1 h2]; exact fun y => by cases y)
    have iA' : isB 3 h2 A TM := iA.any (fun q hq => kI q (inA q hq).1 (inA q hq).2)
    have a1' : isB 10 h2 ρ SR := a1.any (fun q hq => kI q (in10 hq b1 b2).1 (in10 hq b1 b2).2)
    have hk' : rkH h2 R ρ A V C1 C2 C.length SR TM SV f1 f2 := ⟨a1', iA', HV'.1, a3, a4, (kI C1 b5 b6).trans a9, (kI C2 b7 b8).trans a10, by omega, hk.2.2.2.2.2.2.2.2⟩
    have hF : flH2 h2 Kc R ρ A V F C1 C2 C.length κO (κ2 e) nO (m2 e) SC SR TM SV SK (SK2 e) f1 f2 := ⟨HC'.1, rC, hk', HO'.1, HN'.1, kO, k3, v5, ⟨own_dj oF.2.1 HC'.2.1 (fun z => by omega), dj_int oF.2.1 (fun q hq => in10 hq b1 b2) t2' (by omega), dj_int oF.2.1 inA t2' (by omega), own_dj oF.2.1 HV'.2.1 (fun z => by omega), own_dj oF.2.1 HO'.2.1 (fun z => by omega), own_dj oF.2.1 HN'.2.1 (fun z => by omega), of_int oF.2.1 b5 b6 t2' (by omega), of_int oF.2.1 b7 b8 t2' (by omega)⟩, ⟨own_dj HR'.2.1 HC'.2.1 (fun z => KR z.2.symm), own_dj HR'.2.1 oF.2.1 (fun z => by omega), own_dj HR'.2.1 HO'.2.1 (fun z => by cases z.1), own_dj HR'.2.1 HN'.2.1 (fun z => by cases z.1)⟩⟩
    have dRF : dj 5 R 9 F := own_dj HR'.2.1 oF.2.1 (fun z => by omega)
    have w0 := nv0_f (rn := rn) x3 hm2 hrn vw.1
    obtain ⟨SF', T', l1, l2, l3, l4⟩ := tv_loop d h2 (σ := σ) (key := kx) (ty := ty) (tn := tn) (pl := fun i => plR eo (rn i) L (nm i)) hF hv hEn hty htn plm (fun i o hi ho => hp2 i o hi ho) v4 (m2 e) 0 (uJ SF 3 vw.1) T1 (nv0 kx (m2 e) rn) (0, .null) (Nat.zero_add _) x3.2.2.2.1 w0 (fun i _ hi hne => by
      show (if i < m2 e ∧ rn i = false then 1 else 0) = 1
      rw [if_pos ⟨hi, hrow i hi hne⟩])
    have e0 : oh 5 (oh 9 h2 F (uJ SF 3 vw.1)) R T1 = oh 9 h2 F (uJ SF 3 vw.1) := HR'.1.frame dRF.symm
    rw [e0] at l3 l4
    have HF2 : isB 9 h2 F SF := oF.1
    have HM1 : isB 3 (oh 5 h R T1) A TM := iA.frame hk.2.2.2.2.2.2.2.2.2.1
    have HV2' := HV'.1
    have i72 : ∀ {α : Type} (f : Option α), xis (oh 5 h R T1) σ 7 f = f := fun f => h_is (hS.fr0 HR.2.1 (show 0 ≠ g by omega) T1).1.1 f
    have x1 : xm (d + 5) 25 [.ref σ, .long kx, .int (nI e), .ref (κ2 e)] (oh 5 h R T1) = some (some (.ref F), h2) := x1
    have st : xm (d + 6) 80 [.ref Kc, .ref V, .ref σ, .ref ρ] h = xrun (d + 5) 80 176 [(1, .ref Kc), (1, .ref V), (1, .ref σ), (1, .ref ρ), (1, .ref A), (1, .ref (κ2 e)), (2, .long kx), (0, .null), (1, .ref F), (1, .int (nI 0)), (0, .null)] [] (oh 9 h2 F (uJ SF 3 vw.1)) := by
      rw [eX]
      simp (disch := omega) only [q_80_140, q_80_142, q_80_143, q_80_145, q_80_147, q_80_150, q_80_152, q_80_155, q_80_157, q_80_159, q_80_162, q_80_163, q_80_164, q_80_166, q_80_167, q_80_170, q_80_173, q_80_174, q_80_178, q_80_180, q_80_183, q_80_186, q_80_188, q_80_190, q_80_193, q_80_194, q_80_196, q_80_198, q_80_199, q_80_200, q_80_202, q_80_205, q_80_207, q_80_209, q_80_212, q_80_213, q_80_215, q_80_216, q_80_219, q_80_221, q_80_222, q_80_225, q_80_226, q_80_229, q_80_230, q_80_233, q_80_236, q_80_237, q_80_238, q_80_240, q_80_243, q_80_244, og_9_4, og_6_9, og_9_2, og_10_3, og_3_0, og_6_11, op_6_11, og_6_0, og_5_2, og_5_3, og_9_3, op_9_3, og_1_4, o_is, o_ob, ofs_len1, ofs_len3, ofs_len5, ofs_len6, ofs_len9, ofs_len10, q_80_0, q_80_1, q_80_2, q_80_5, q_80_8, q_80_10, q_80_12, q_80_15, q_80_16, q_80_19, q_80_22, q_80_23, q_80_25, q_80_26, q_80_29, q_80_30, q_80_31, q_80_34, q_80_35, q_80_38, q_80_39, q_80_41, q_80_44, q_80_45, q_80_48, q_80_49, q_80_52, q_80_54, q_80_57, q_80_60, q_80_62, q_80_64, q_80_67, q_80_68, q_80_69, q_80_72, q_80_73, q_80_74, q_80_77, q_80_78, q_80_79, q_80_80, q_80_83, q_80_85, q_80_87, q_80_89, q_80_92, q_80_95, q_80_96, q_80_99, q_80_100, q_80_102, q_80_104, q_80_105, q_80_108, q_80_111, q_80_112, q_80_113, q_80_116, q_80_119, q_80_120, q_80_123, q_80_124, q_80_125, q_80_128, q_80_129, q_80_132, q_80_133, q_80_134, q_80_137, q_80_140, q_80_142, q_80_143, q_80_145, q_80_147, q_80_150, q_80_152, q_80_155, q_80_157, q_80_159, q_80_162, q_80_163, q_80_164, q_80_166, q_80_167, q_80_170, q_80_173, q_80_174, q_80_178, q_80_180, q_80_183, q_80_186, q_80_188, q_80_190, q_80_193, q_80_194, q_80_196, q_80_198, q_80_199, q_80_200, q_80_202, q_80_205, q_80_207, q_80_209, q_80_212, q_80_213, q_80_215, q_80_216, q_80_219, q_80_221, q_80_222, q_80_225, q_80_226, q_80_229, q_80_230, q_80_233, q_80_236, q_80_237, q_80_238, q_80_240, q_80_243, q_80_244, hg_3_0 HM1, h_is HM1, h_ob HM1, ofs_len3, hg_9_4 HF2, hg_9_2 HF2, hg_9_3 HF2, hp_9_3 HF2, h_is HF2, h_ob HF2, ofs_len9, hg_9_4 HV2', hg_9_2 HV2', hg_9_3 HV2', hp_9_3 HV2', h_is HV2', h_ob HV2', ofs_len9, ↓reduceIte, k_cr, k_ci, k_oR, k_oN, k_aR, k_aN, and_true, true_and, and_self, eq_self, Nat.reduceLT, Nat.reduceLeDiff, Nat.reduceEqDiff, Nat.reduceAdd, Nat.reduceMul, Bool.true_eq_false, Bool.false_eq_true, Nat.add_sub_cancel, Nat.not_lt_zero, Nat.zero_le, k_sub, k_sb1, k_r, k_n, k_ret, k_t1, k_t0, k_nr, k_nn, k_z0, k_z1, k_zb, x_okI, lit_nI, k_in, k_cl, k_lt, k_le, k_eq, k_neg, nI_add, nI_mul, k_clt, k_cgt, k_cle, k_cge, k_ceq, bI_0, k_sh8, ne_eq, Nat.add_eq_zero_iff, Nat.one_ne_zero, Nat.succ_ne_zero, and_false, false_and, not_false_eq_true, not_true_eq_false, ite_true, ite_false, if_true, if_false, tM, v2, i72, x1, x_okJ]
    -- the Store behind it
    have cst : ∀ S5, cSt g G' (oh 5 (oh 9 h2 F SF') R S5) σ SS' (n + 1) m' (insG ν (insF (fun i => sJ (SVs i) 2) kx n) n F) (insG SVs (insF (fun i => sJ (SVs i) 2) kx n) n SF') := fun S5 => by
      have z := x2.set pm SF'
      rw [up_insG, insG_p] at z
      exact z.fr0 HR'.2.1 gne S5
    have HC5 : hB G' 0 6 (oh 5 (oh 9 h2 F SF') R T') Kc SC := (HC'.frame oF.2.1 (fun z => by omega)).frame HR'.2.1 (fun z => KR z.2)
    have HR5 : hB G' 0 5 (oh 5 (oh 9 h2 F SF') R T') R T' := hB.set (HR'.frame oF.2.1 (fun z => by omega) : hB G' 0 5 (oh 9 h2 F SF') R T1)
    have tF : ∀ S6, tkF G G' h (oh 6 (oh 5 (oh 9 h2 F SF') R T') Kc S6) g Kc R m m' := fun S6 => by
      refine ⟨x5, fun q hq c1 c2 c3 => ?_, x7, hmm, ?_, ?_⟩
      · have e5 := x5 q hq
        rw [oh_same (by
          cases hc : ofp 6 Kc q with
          | false => rfl
          | true => exact absurd (HC.2.1 q hc) c2), oh_same (by
          cases hc : ofp 5 R q with
          | false => rfl
          | true => exact absurd (HR.2.1 q hc) c3), oh_same (by
          cases hc : ofp 9 F q with
          | false => rfl
          | true =>
            have := oF.2.1 q hc
            rw [e5] at this
            exact absurd (by rw [this]) c1)]
        exact kk q hq c1 c3
      · show h2.2.2.1 + 3 * m = h.2.2.1 + 3 * m'
        have e1 : (oh 5 h R T1).2.2.1 = h.2.2.1 := rfl
        rcases x8 with z | z <;> omega
      · show h2.2.2.2 + 78 * m = h.2.2.2 + 78 * m'
        have e1 : (oh 5 h R T1).2.2.2 = h.2.2.2 := rfl
        rcases x8 with z | z <;> omega
    unfold cvR
    rw [eC]
    show ∃ G' h' SS' n' m' ν' SVs' SC' T' b, _ ∧ _ ∧ _ ∧ _ ∧ _ ∧ _ ∧ tvQ SC SC' c x (clN ms.2.2.2.2.2 (fst0 eo vw) nO 0) n n' b vw.1 (fun w => ∃ SF, SVs' = insG SVs (insF (fun i => sJ (SVs i) 2) w.1 n) n SF ∧ svA n2 κ2 m2 SF (w.1, vw.1, e, w)) (match nvS (fun i => fiM eo vw ty (tn i) (plR eo (rn i) L (nm i))) (m2 e) 0 (nv0 kx (m2 e) rn) with
      | .inl z => .inl (z.1, some z.2)
      | .inr w => .inr w)
    cases hN : nvS (fun i => fiM eo vw ty (tn i) (plR eo (rn i) L (nm i))) (m2 e) 0 (nv0 kx (m2 e) rn) with
    | inl z =>
      have l4 := l4 z.1 z.2 hN
      exact ⟨G', _, SS', n + 1, m', _, _, _, T', 0, st.trans l4, tF _, ⟨isB_oh _ _ _ _, HC5.2.1, HC5.2.2⟩, HR5.frame HC5.2.1 (fun z => KR z.2.symm), (cst T').fr0 HC5.2.1 gne _, x4, rfl, rfl⟩
    | inr w' =>
      obtain ⟨j1, j2, m9, m10, j3⟩ := l3 w' hN
      have HV5 : isB 9 (oh 5 (oh 9 h2 F SF') R T') V SV := (HV'.1.frame hF.2.2.2.2.2.2.2.2.1.2.2.2.1).frame hk.2.2.2.2.2.2.2.2.2.2.1
      have HO5 : isB 1 (oh 5 (oh 9 h2 F SF') R T') κO SK := (HO'.1.frame hF.2.2.2.2.2.2.2.2.1.2.2.2.2.1).frame hF.2.2.2.2.2.2.2.2.2.2.2.1
      have HM5 : isB 3 (oh 5 (oh 9 h2 F SF') R T') A TM := (iA'.frame hF.2.2.2.2.2.2.2.2.1.2.2.1).frame hk.2.2.2.2.2.2.2.2.2.1
      have eC5 := c_countLost (d + 2) (oh 5 (oh 9 h2 F SF') R T') (eo := eo) (kq := ms.2.2.2.2.2) HV5 HO5 HM5 (own_dj HC'.2.1 HV'.2.1 (fun z => by omega)) (own_dj HC'.2.1 HO'.2.1 (fun z => by cases z.1)) (dj_int HC'.2.1 inA t2' (by decide)) kO v5 hv hro h1 (fun i hi => iT.2.2.2.2.2 i hi) hx
      rw [show oh 6 (oh 5 (oh 9 h2 F SF') R T') Kc SC = oh 5 (oh 9 h2 F SF') R T' from HC5.1] at eC5
      have i65 : ∀ {α : Type} (f : Option α), xis (oh 5 (oh 9 h2 F SF') R T') Kc 6 f = f := fun f => h_is HC5.1 f
      have en : xm (d + 6) 80 [.ref Kc, .ref V, .ref σ, .ref ρ] h = some (some (.int (nI 1)), oh 6 (oh 5 (oh 9 h2 F SF') R T') Kc (uI SC 10 (nI (x + clN ms.2.2.2.2.2 (fst0 eo vw) nO 0)))) := by
        rw [st, j3]
        simp (disch := omega) only [q_80_236, q_80_237, q_80_238, q_80_240, q_80_243, q_80_244, og_9_4, og_6_9, og_9_2, og_10_3, og_3_0, og_6_11, op_6_11, og_6_0, og_5_2, og_5_3, og_9_3, op_9_3, og_1_4, o_is, o_ob, ofs_len1, ofs_len3, ofs_len5, ofs_len6, ofs_len9, ofs_len10, ↓reduceIte, k_cr, k_ci, k_oR, k_oN, k_aR, k_aN, and_true, true_and, and_self, eq_self, Nat.reduceLT, Nat.reduceLeDiff, Nat.reduceEqDiff, Nat.reduceAdd, Nat.reduceMul, Bool.true_eq_false, Bool.false_eq_true, Nat.add_sub_cancel, Nat.not_lt_zero, Nat.zero_le, k_sub, k_sb1, k_r, k_n, k_ret, k_t1, k_t0, k_nr, k_nn, k_z0, k_z1, k_zb, x_okI, lit_nI, k_in, k_cl, k_lt, k_le, k_eq, k_neg, nI_add, nI_mul, k_clt, k_cgt, k_cle, k_cge, k_ceq, bI_0, k_sh8, ne_eq, Nat.add_eq_zero_iff, Nat.one_ne_zero, Nat.succ_ne_zero, and_false, false_and, not_false_eq_true, not_true_eq_false, ite_true, ite_false, if_true, if_false, i65, eC5]
      have w1 : w'.1 = kx := j2
      refine ⟨G', _, SS', n + 1, m', _, _, _, T', 1, en, tF _, ⟨isB_oh _ _ _ _, HC5.2.1, HC5.2.2⟩, HR5.frame HC5.2.1 (fun z => KR z.2.symm), (cst T').fr0 HC5.2.1 gne _, x4, rfl, rfl, rfl, SF', ?_, ?_, he, ?_, ?_, ?_, rfl⟩
      · rw [w1]
      · exact (l1 3 (by decide)).2.1
      · exact ((l1 4 (by decide)).1).trans x3.2.2.1
      · exact ((l1 5 (by decide)).2.2.2.2.1).trans x3.2.2.2.1
      · refine j1.ck ?_ hm2
        rw [w1]
        exact ((l1 2 (by decide)).2.1).trans x3.1
