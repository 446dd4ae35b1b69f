/-! The class: the way from BUILD to BUILD. -/
def e00 : kE := (fun _ => none, fun _ => false, fun _ => false)
def nEK (mN : Nat → Nat) (b : Nat) : Option Nat → Nat
  | none => 0
  | some e => mN (6 * b + e)
def nmK (S : gS) (b : Nat) : Option Nat → Nat → Int64
  | none => fun _ => 0
  | some e => fun i => sL S 3 (8 * (6 * b + e) + i)
/-- the codes of a text, and the Moves of all CLASSES -/
def cdK (S : gS) (cN mN : Nat → Nat) (a : Nat) (L : List mT) : List cT := L.flatMap (moCod (fC S cN a) (eK S mN a) e00)
def pmK (S : gS) (cN mN : Nat → Nat) (a b : Nat) (L : List mT) : pM := pmF (fC S cN b) (eK S mN a) (eK S mN b) (nEK mN b) (nmK S b) (fun i => sL S 1 (6 * a + i)) (cN a) 0 (pmL (fC S cN a) (fC S cN b) (eK S mN a) (eK S mN b) e00 (nEK mN b) (nmK S b) (fun _ => none) 0 L)
/-- the RuleSets of the class -/
def cRu (G : gG) (h : xH) (SX : gS) (β : Nat → Nat) (S : gS) (cN mN : Nat → Nat) (Lf : Nat → List mT) : Prop := ∀ a b, a < 8 → b < 8 → (hz S (8 * a + b) = false → sQ SX 1 (8 * a + b) = .null) ∧ (hz S (8 * a + b) = true → ∃ ρ lo hi mc, sQ SX 1 (8 * a + b) = .ref ρ ∧ rsB h lo hi ρ (β b) (pmK S cN mN a b (Lf (8 * a + b))) (cdK S cN mN a (Lf (8 * a + b))) mc ∧ (∀ q, lo ≤ q → q < hi → G q = (5, lo)) ∧ hi ≤ h.2.2.1)
theorem cRu.keep {G G' : gG} {h h' : xH} {SX : gS} {β : Nat → Nat} {S : gS} {cN mN : Nat → Nat} {Lf : Nat → List mT} (H : cRu G h SX β S cN mN Lf) (hG : ∀ q, q < h.2.2.1 → G' q = G q) (hk : ∀ q, q < h.2.2.1 → (G q).1 = 5 → h'.1 q = h.1 q) (hn : h.2.2.1 ≤ h'.2.2.1) : cRu G' h' SX β S cN mN Lf := by
  intro a b ha hb
  refine ⟨(H a b ha hb).1, fun hh => ?_⟩
  obtain ⟨ρ, lo, hi, mc, r1, r2, r3, r4⟩ := (H a b ha hb).2 hh
  exact ⟨ρ, lo, hi, mc, r1, r2.kp (fun q h1 h2 => hk q (by omega) (by rw [r3 q h1 h2])), fun q h1 h2 => (hG q (by omega)).trans (r3 q h1 h2), by omega⟩
theorem cBld.keep {G G' : gG} {h h' : xH} {SX : gS} {β : Nat → Nat} {SB : Nat → gS} {κ : Nat → Nat → Nat} {SK : Nat → Nat → gS} {S : gS} {cN mN : Nat → Nat} (H : cBld G h SX β SB κ SK S cN mN) (hG : ∀ q, q < h.2.2.1 → G' q = G q) (hk : ∀ q, q < h.2.2.1 → (G q).1 = 1 → h'.1 q = h.1 q) (hn : h.2.2.1 ≤ h'.2.2.1) : cBld G' h' SX β SB κ SK S cN mN := by
  obtain ⟨a1, a2, a3, a4⟩ := H
  refine ⟨fun b hb => ?_, fun b c hb hc => ?_, a3, a4⟩
  · obtain ⟨e1, e2, e3, e4⟩ := a1 b hb
    exact ⟨e1, e2.keep (by decide) hG (fun q hq e => hk q hq (by rw [e])) hn, e3, e4⟩
  · obtain ⟨e1, e2, e3⟩ := a2 b c hb hc
    exact ⟨e1, e2.keep (by decide) hG (fun q hq e => hk q hq (by rw [e])) hn, e3⟩
theorem cBld.O {G : gG} {h : xH} {SX : gS} {β : Nat → Nat} {SB : Nat → gS} {κ : Nat → Nat → Nat} {SK : Nat → Nat → gS} {S : gS} {cN mN ty : Nat → Nat} (H : cBld G h SX β SB κ SK S cN mN) (hK : refT S cN mN ty) {a b : Nat} (ha : a < 8) (L : List mT) : tkO G h (cN a) (κ a) (SK a) (zK S cN mN ty a b L) := by
  refine ⟨(hK.1.1 a ha).2, fun c hc => ?_⟩
  obtain ⟨e1, e2, e3, e4, e5⟩ := H.2.1 a c ha hc
  have h6 := (hK.1.1 a ha).2
  have m8 := (hK.1.2 a c ha (by omega)).2
  refine ⟨e2, e3, fun w m hm => (fnd_lt (f := fun i => sL S 3 (8 * (6 * a + c) + i)) hm).1, fun q hq => ?_, fun i hi => (e5 i hi).2.2.symm⟩
  have hq : q < mN (6 * a + c) := hq
  obtain ⟨t1, t2⟩ := hK.2.2 (8 * (6 * a + c) + q) (by omega)
  exact ⟨(e5 q hq).2.1.trans t1, t2⟩
theorem cBld.N {G : gG} {h : xH} {SX : gS} {β : Nat → Nat} {SB : Nat → gS} {κ : Nat → Nat → Nat} {SK : Nat → Nat → gS} {S : gS} {cN mN ty : Nat → Nat} (H : cBld G h SX β SB κ SK S cN mN) (hK : refT S cN mN ty) {a b : Nat} (hb : b < 8) (L : List mT) : tkN (cN b) (SK b) (zK S cN mN ty a b L) := by
  intro e he
  obtain ⟨e1, e2, e3, e4, e5⟩ := H.2.1 b e hb he
  have h6 := (hK.1.1 b hb).2
  have m8 := (hK.1.2 b e hb (by omega)).2
  refine ⟨fun q hq => ?_, fun i hi => (e5 i hi).2.2.symm⟩
  have hq : q < mN (6 * b + e) := hq
  obtain ⟨t1, t2⟩ := hK.2.2 (8 * (6 * b + e) + q) (by omega)
  exact ⟨(e5 q hq).2.1.trans t1, t2⟩
theorem cRu.B {G : gG} {h : xH} {SX : gS} {β : Nat → Nat} {SB : Nat → gS} {κ : Nat → Nat → Nat} {SK : Nat → Nat → gS} {S : gS} {cN mN ty : Nat → Nat} {Lf : Nat → List mT} (R : cRu G h SX β S cN mN Lf) (H : cBld G h SX β SB κ SK S cN mN) (hK : refT S cN mN ty) {a b : Nat} (ha : a < 8) (hb : b < 8) (hh : hz S (8 * a + b) = true) : ∃ ρ lo hi mc, sQ SX 1 (8 * a + b) = .ref ρ ∧ tkB G h ρ lo hi (β b) (SB b) (cN b) (κ b) (SK b) (fun e => mN (6 * b + e)) (pmK S cN mN a b (Lf (8 * a + b))) (cdK S cN mN a (Lf (8 * a + b))) mc := by
  obtain ⟨ρ, lo, hi, mc, r1, r2, r3, r4⟩ := (R a b ha hb).2 hh
  obtain ⟨b1, b2, b3, b4⟩ := H.1 b hb
  refine ⟨ρ, lo, hi, mc, r1, r2, r3, r4, b2, b3, (hK.1.1 b hb).2, fun e he => ?_⟩
  obtain ⟨e1, e2, e3, _⟩ := H.2.1 b e hb he
  exact ⟨e1, e2, e3⟩
/-- a VALUE of BUILD a, of the class -/
def svC (κ : Nat → Nat → Nat) (cN mN : Nat → Nat) (a : Nat) (S : gS) (v : Nat × vW) : Prop := v.1 < cN a ∧ sI S 4 = nI v.1 ∧ sR S 5 = .ref (κ a v.1) ∧ ckV (mN (6 * a + v.1)) S v.2
/-- a VALUE as it should be -/
def vB1 (S : gS) (mN ty : Nat → Nat) (a : Nat) (v : Nat × vW) : Prop := ∀ o, o < mN (6 * a + v.1) → (∀ k, k < v.2.2.1 o → wfT (ty (8 * (6 * a + v.1) + o)) (v.2.2.2 o k)) ∧ (rw_ S (8 * (6 * a + v.1) + o) = false → 0 < v.2.2.1 o)
/-- what RULES keep is what they say -/
def dsA (S : gS) (cN mN ty : Nat → Nat) (Lf : Nat → List mT) : Prop := ∀ a b, a < 8 → b < 8 → hz S (8 * a + b) = true → ∀ v : Nat × vW, v.1 < cN a → vB1 S mN ty a v → dsC (cdK S cN mN a (Lf (8 * a + b))) (pmK S cN mN a b (Lf (8 * a + b))) (cN b) (zK S cN mN ty a b (Lf (8 * a + b))) v.1 v.2 (zD (zK S cN mN ty a b (Lf (8 * a + b))) v.1)
theorem cSt.empty {g : Nat} {G : gG} {h : xH} {σ : Nat} {SS : gS} {n m : Nat} {ν : Nat → Nat} {SV : Nat → gS} (H : cSt g G h σ SS n m ν SV) (x : Int32) : cSt g G (oh 7 h σ (uI (uI SS 1 x) 2 (nI 0))) σ (uI (uI SS 1 x) 2 (nI 0)) 0 m ν SV := by
  have H0 := H
  obtain ⟨a1, a2, a3, a4, a5, a6, a7⟩ := H
  exact ⟨a1.set, rfl, Nat.zero_le _, a4, fun i hi => ⟨(a5 i hi).1, (a5 i hi).2.frame a1.2.1 (fun q => H0.ne hi q.2.symm)⟩, a6, a7⟩
theorem k_rem2 {k : Nat} (hk : k < 8) : nI k - nI k / nI 2 * nI 2 = nI (k % 2) := (by decide +kernel : ∀ k, k < 8 → nI k - nI k / nI 2 * nI 2 = nI (k % 2)) k hk
/-- the BUILDS, RULES and the root, as a way needs them -/
def wyB (G : gG) (h : xH) (X Kc : Nat) (SX : gS) (β : Nat → Nat) (SB : Nat → gS) (κ : Nat → Nat → Nat) (SK : Nat → Nat → gS) (S : gS) (cN mN : Nat → Nat) (Lf : Nat → List mT) : Prop := hB G 0 8 h X SX ∧ sR SX 4 = .ref Kc ∧ cBld G h SX β SB κ SK S cN mN ∧ cRu G h SX β S cN mN Lf
theorem wyB.keep {G G' : gG} {h h' : xH} {X Kc : Nat} {SX : gS} {β : Nat → Nat} {SB : Nat → gS} {κ : Nat → Nat → Nat} {SK : Nat → Nat → gS} {S : gS} {cN mN : Nat → Nat} {Lf : Nat → List mT} (H : wyB G h X Kc SX β SB κ SK S cN mN Lf) (hG : ∀ q, q < h.2.2.1 → G' q = G q) (hk : ∀ q, q < h.2.2.1 → (G q).1 = 1 ∨ (G q).1 = 5 ∨ G q = (0, X) → h'.1 q = h.1 q) (hn : h.2.2.1 ≤ h'.2.2.1) : wyB G' h' X Kc SX β SB κ SK S cN mN Lf :=
  ⟨H.1.keep (by decide) hG (fun q hq e => hk q hq (Or.inr (Or.inr e))) hn, H.2.1, H.2.2.1.keep hG (fun q hq e => hk q hq (Or.inl e)) hn, H.2.2.2.keep hG (fun q hq e => hk q hq (Or.inr (Or.inl e))) hn⟩
theorem own_out {G : gG} {g ci a q : Nat} (h : own G g ci a) (hq : G q ≠ (g, a)) : ofp ci a q = false := by
  cases hc : ofp ci a q with
  | false => rfl
  | true => exact absurd (h q hc) hq
/-- one turn of the way -/
theorem tr_it (d : Nat) {G : gG} {h : xH} {X Kc R σa σb ga gb a b t k ma nb mb x y : Nat} {SX SC T SSa SSb : gS} {β : Nat → Nat} {SB : Nat → gS} {κ : Nat → Nat → Nat} {SK : Nat → Nat → gS} {S : gS} {cN mN ty : Nat → Nat} {Lf : Nat → List mT} {dr : Bool} {V : vL} {νa νb : Nat → Nat} {SVa SVb : Nat → gS} {sd fg : Int32} {l6 l7 : Nat × Value} (W : wyB G h X Kc SX β SB κ SK S cN mN Lf) (hK : refT S cN mN ty) (hds : dsA S cN mN ty Lf) (HC : hB G 0 6 h Kc SC) (HR : hB G 0 5 h R T) (rC : sR SC 0 = .ref R) (ha : a < 8) (hb : b < 8) (hat : a ≠ t) (ht : t < 8) (hk : k < 8) (hsd : nI a + sd = nI b) (hh : hz S (8 * a + b) = true) (hsp : k % 2 = 0 ∧ sR SX 6 = .ref σb ∨ k % 2 = 1 ∧ sR SX 7 = .ref σb) (cA : cSt ga G h σa SSa V.length ma νa SVa) (cB : cSt gb G h σb SSb nb mb νb SVb) (hga : 1 < ga ∧ ga < 5) (hgb : 1 < gb ∧ gb < 5) (hgg : gb ≠ ga) (h1 : sI SSa 1 = nI a) (hV : ∀ j v, V[j]? = some v → svC κ cN mN a (SVa j) v) (hvb : vlB S cN mN ty a V) (h9 : sI SC 9 = bI dr) (hx : sI SC 10 = nI x) (hy : sI SC 11 = nI y) : ∃ G' h' SSb' n' mb' νb' SVb' SC' T' bb ρ, (bb = 0 → xrun (d + 7) 75 64 [(1, .ref X), (1, .int (nI t)), (1, .int fg), (1, .int sd), (1, .ref σa), (1, .int (nI k)), l6, l7] [] h = some (some (.int (-nI 1)), h')) ∧ (bb = 1 → xrun (d + 7) 75 64 [(1, .ref X), (1, .int (nI t)), (1, .int fg), (1, .int sd), (1, .ref σa), (1, .int (nI k)), l6, l7] [] h = xrun (d + 7) 75 64 [(1, .ref X), (1, .int (nI t)), (1, .int fg), (1, .int sd), (1, .ref σb), (1, .int (nI (k + 1))), (1, .ref σb), (1, .ref ρ)] [] h') ∧ tkF G G' h h' gb Kc R mb mb' ∧ hB G' 0 6 h' Kc SC' ∧ hB G' 0 5 h' R T' ∧ cSt gb G' h' σb SSb' n' mb' νb' SVb' ∧ sI SSb' 1 = nI b ∧ tsQ SC SC' x y n' bb V.length (nI k) (svA (cN b) (κ b) (fun e => mN (6 * b + e))) SVb' (stZ (zK S cN mN ty a b (Lf (8 * a + b))) dr V) := by
  obtain ⟨W1, W2, W3, W4⟩ := id W
  obtain ⟨ρ, lo, hi, mc, r1, r2⟩ := W4.B W3 hK ha hb hh
  have ab : ¬ (ga = gb ∧ σa = σb) := fun q => hgg q.1.symm
  have ko : ∀ q, (G q).1 ≠ gb → (oh 7 h σb (uI (uI SSb 1 (nI b)) 2 (nI 0))).1 q = h.1 q := fun q hq => oh_same (own_out cB.1.2.1 (fun e => hq (by rw [e])))
  have hga1 := hga.1
  have hgb1 := hgb.1
  have hgb2 := hgb.2
  have HC1 : hB G 0 6 (oh 7 h σb (uI (uI SSb 1 (nI b)) 2 (nI 0))) Kc SC := HC.frame cB.1.2.1 (fun z => by omega)
  have HR1 : hB G 0 5 (oh 7 h σb (uI (uI SSb 1 (nI b)) 2 (nI 0))) R T := HR.frame cB.1.2.1 (fun z => by omega)
  have cA1 : cSt ga G (oh 7 h σb (uI (uI SSb 1 (nI b)) 2 (nI 0))) σa SSa V.length ma νa SVa := cA.keep (fun _ _ => rfl) (fun q _ hq => ko q (by omega)) (Nat.le_refl _)
  have cB1 := cB.empty (nI b)
  have T1 := r2.keep (G' := G) (h' := oh 7 h σb (uI (uI SSb 1 (nI b)) 2 (nI 0))) (fun _ _ => rfl) (fun q _ hq => ko q (by omega)) (Nat.le_refl _)
  have O1 := (W3.O hK ha (b := b) (Lf (8 * a + b))).keep (G' := G) (h' := oh 7 h σb (uI (uI SSb 1 (nI b)) 2 (nI 0))) (fun _ _ => rfl) (fun q _ hq => ko q (by omega)) (Nat.le_refl _)
  obtain ⟨G', h', SS', n', m', ν', SVs', SC', T', bb, s1, s2, s3, s4, s5, s6, s7⟩ := c_takeStep d (number := nI k) (dr := dr) (z := zK S cN mN ty a b (Lf (8 * a + b))) (W3.N hK hb (a := a) (Lf (8 * a + b))) hgb hga hgg rfl (fun j v hj => by
    obtain ⟨v1, v2, v3, v4⟩ := hV j v hj
    obtain ⟨u1, u2⟩ := hvb v (List.mem_of_getElem? hj)
    exact ⟨v1, v2, v3, v4, fun i hi => (u2 i hi).2, hds a b ha hb hh v v1 u2⟩) HC1 HR1 rC T1 O1 cA1 cB1 h9 hx hy
  have kF : tkF G G h (oh 7 h σb (uI (uI SSb 1 (nI b)) 2 (nI 0))) gb Kc R mb mb := ⟨fun _ _ => rfl, fun q _ hq _ _ => ko q hq, rfl, Nat.le_refl _, rfl, rfl⟩
  refine ⟨G', h', SS', n', m', ν', SVs', SC', T', bb, ρ, ?_, ?_, kF.trans s2, s3, s4, s5, s6.trans rfl, s7⟩
  all_goals
    intro e
    subst e
    have H8 := W1.1
    have HA := cA.1.1
    have HA1 := cA1.1.1
    have HB := cB.1.1
    have HB1 := cB1.1.1
    have H81 : isB 8 (oh 7 h σb (uI (uI SSb 1 (nI b)) 2 (nI 0))) X SX := (W1.frame cB.1.2.1 (fun z => by omega)).1
    have i8 : ∀ {α : Type} (f : Option α), xis (oh 7 h σb (uI (uI SSb 1 (nI b)) 2 (nI 0))) X 8 f = f := fun f => h_is H81 f
    have i7 : ∀ {α : Type} (f : Option α), xis h σb 7 f = f := fun f => h_is HB f
    have i6 : ∀ {α : Type} (f : Option α), xis (oh 7 h σb (uI (uI SSb 1 (nI b)) 2 (nI 0))) Kc 6 f = f := fun f => h_is HC1.1 f
    have eE : xm (d + 7) 22 [.ref σb, .int (nI b)] h = _ := c_empty (d + 6) h σb (nI b) SSb HB
    have b1 : sI (uI (uI SSb 1 (nI b)) 2 (nI 0)) 1 = nI b := rfl
    have eR : xm (d + 7) 15 [.ref X, .int (nI a), .int (nI b)] (oh 7 h σb (uI (uI SSb 1 (nI b)) 2 (nI 0))) = some (some (.ref ρ), oh 7 h σb (uI (uI SSb 1 (nI b)) 2 (nI 0))) := c_rulesFrom (d + 6) _ X a b SX (fun _ => some ρ) H81 ha hb r1
    have h8 : ¬ 8 ≤ k := by omega
    have km := k_rem2 hk
    rcases hsp with ⟨p1, p2⟩ | ⟨p1, p2⟩
    · rw [p1] at km
      rw [q_75_64]
      simp (disch := omega) only [q_75_0, q_75_1, q_75_2, q_75_5, q_75_8, q_75_9, q_75_10, q_75_13, q_75_16, q_75_19, q_75_21, q_75_22, q_75_23, q_75_24, q_75_27, q_75_28, q_75_29, q_75_32, q_75_34, q_75_35, q_75_36, q_75_39, q_75_40, q_75_43, q_75_44, q_75_47, q_75_48, q_75_51, q_75_52, q_75_55, q_75_56, q_75_59, q_75_61, q_75_62, q_75_66, q_75_68, q_75_71, q_75_73, q_75_76, q_75_77, q_75_80, q_75_82, q_75_83, q_75_84, q_75_87, q_75_88, q_75_91, q_75_94, q_75_95, q_75_98, q_75_100, q_75_102, q_75_104, q_75_107, q_75_108, q_75_109, q_75_112, q_75_113, q_75_115, q_75_118, q_75_120, q_75_123, q_75_126, q_75_128, q_75_130, q_75_133, q_75_134, q_75_137, q_75_139, q_75_141, q_75_143, q_75_145, q_75_148, q_75_151, q_75_152, q_75_153, q_75_155, q_75_157, q_75_160, og_8_5, og_7_1, og_8_4, og_8_10, og_8_6, og_8_7, og_7_2, o_is, o_ob, ofs_len7, ofs_len8, q_75_0, q_75_1, q_75_2, q_75_5, q_75_8, q_75_9, q_75_10, q_75_13, q_75_16, q_75_19, q_75_21, q_75_22, q_75_23, q_75_24, q_75_27, q_75_28, q_75_29, q_75_32, q_75_34, q_75_35, q_75_36, q_75_39, q_75_40, q_75_43, q_75_44, q_75_47, q_75_48, q_75_51, q_75_52, q_75_55, q_75_56, q_75_59, q_75_61, q_75_62, q_75_66, q_75_68, q_75_71, q_75_73, q_75_76, q_75_77, q_75_80, q_75_82, q_75_83, q_75_84, q_75_87, q_75_88, q_75_91, q_75_94, q_75_95, q_75_98, q_75_100, q_75_102, q_75_104, q_75_107, q_75_108, q_75_109, q_75_112, q_75_113, q_75_115, q_75_118, q_75_120, q_75_123, q_75_126, q_75_128, q_75_130, q_75_133, q_75_134, q_75_137, q_75_139, q_75_141, q_75_143, q_75_145, q_75_148, q_75_151, q_75_152, q_75_153, q_75_155, q_75_157, q_75_160, q_75_163, q_75_164, q_75_167, q_75_170, q_75_171, q_75_174, q_75_175, q_75_177, q_75_180, q_75_182, q_75_185, hg_8_5 H8, hg_8_4 H8, hg_8_10 H8, hg_8_6 H8, hg_8_7 H8, h_is H8, h_ob H8, ofs_len8, hg_7_1 HA, hg_7_2 HA, h_is HA, h_ob HA, ofs_len7, hg_7_1 HA1, hg_7_2 HA1, h_is HA1, h_ob HA1, ofs_len7, hg_7_1 HB1, hg_7_2 HB1, h_is HB1, h_ob HB1, ofs_len7, hg_8_5 H81, hg_8_4 H81, hg_8_10 H81, hg_8_6 H81, hg_8_7 H81, h_is H81, h_ob H81, ofs_len8, ↓reduceIte, k_cr, k_ci, k_oR, k_oN, k_aR, k_aN, and_true, true_and, and_self, eq_self, Nat.reduceLT, Nat.reduceLeDiff, Nat.reduceEqDiff, Nat.reduceAdd, Nat.reduceMul, Bool.true_eq_false, Bool.false_eq_true, Nat.add_sub_cancel, Nat.not_lt_zero, Nat.zero_le, k_sub, k_sb1, k_r, k_n, k_ret, k_t1, k_t0, k_nr, k_nn, k_z0, k_z1, k_zb, x_okI, lit_nI, k_in, k_cl, k_lt, k_le, k_eq, k_neg, nI_add, nI_mul, k_clt, k_cgt, k_cle, k_cge, k_ceq, bI_0, k_sh8, ne_eq, Nat.add_eq_zero_iff, Nat.one_ne_zero, Nat.succ_ne_zero, and_false, false_and, not_false_eq_true, not_true_eq_false, ite_true, ite_false, if_true, if_false, h8, h1, hat, km, p2, hsd, i7, i8, i6, eE, b1, eR, W2, s1]
    · rw [p1] at km
      rw [q_75_64]
      simp (disch := omega) only [q_75_0, q_75_1, q_75_2, q_75_5, q_75_8, q_75_9, q_75_10, q_75_13, q_75_16, q_75_19, q_75_21, q_75_22, q_75_23, q_75_24, q_75_27, q_75_28, q_75_29, q_75_32, q_75_34, q_75_35, q_75_36, q_75_39, q_75_40, q_75_43, q_75_44, q_75_47, q_75_48, q_75_51, q_75_52, q_75_55, q_75_56, q_75_59, q_75_61, q_75_62, q_75_66, q_75_68, q_75_71, q_75_73, q_75_76, q_75_77, q_75_80, q_75_82, q_75_83, q_75_84, q_75_87, q_75_88, q_75_91, q_75_94, q_75_95, q_75_98, q_75_100, q_75_102, q_75_104, q_75_107, q_75_108, q_75_109, q_75_112, q_75_113, q_75_115, q_75_118, q_75_120, q_75_123, q_75_126, q_75_128, q_75_130, q_75_133, q_75_134, q_75_137, q_75_139, q_75_141, q_75_143, q_75_145, q_75_148, q_75_151, q_75_152, q_75_153, q_75_155, q_75_157, q_75_160, og_8_5, og_7_1, og_8_4, og_8_10, og_8_6, og_8_7, og_7_2, o_is, o_ob, ofs_len7, ofs_len8, q_75_0, q_75_1, q_75_2, q_75_5, q_75_8, q_75_9, q_75_10, q_75_13, q_75_16, q_75_19, q_75_21, q_75_22, q_75_23, q_75_24, q_75_27, q_75_28, q_75_29, q_75_32, q_75_34, q_75_35, q_75_36, q_75_39, q_75_40, q_75_43, q_75_44, q_75_47, q_75_48, q_75_51, q_75_52, q_75_55, q_75_56, q_75_59, q_75_61, q_75_62, q_75_66, q_75_68, q_75_71, q_75_73, q_75_76, q_75_77, q_75_80, q_75_82, q_75_83, q_75_84, q_75_87, q_75_88, q_75_91, q_75_94, q_75_95, q_75_98, q_75_100, q_75_102, q_75_104, q_75_107, q_75_108, q_75_109, q_75_112, q_75_113, q_75_115, q_75_118, q_75_120, q_75_123, q_75_126, q_75_128, q_75_130, q_75_133, q_75_134, q_75_137, q_75_139, q_75_141, q_75_143, q_75_145, q_75_148, q_75_151, q_75_152, q_75_153, q_75_155, q_75_157, q_75_160, q_75_163, q_75_164, q_75_167, q_75_170, q_75_171, q_75_174, q_75_175, q_75_177, q_75_180, q_75_182, q_75_185, hg_8_5 H8, hg_8_4 H8, hg_8_10 H8, hg_8_6 H8, hg_8_7 H8, h_is H8, h_ob H8, ofs_len8, hg_7_1 HA, hg_7_2 HA, h_is HA, h_ob HA, ofs_len7, hg_7_1 HA1, hg_7_2 HA1, h_is HA1, h_ob HA1, ofs_len7, hg_7_1 HB1, hg_7_2 HB1, h_is HB1, h_ob HB1, ofs_len7, hg_8_5 H81, hg_8_4 H81, hg_8_10 H81, hg_8_6 H81, hg_8_7 H81, h_is H81, h_ob H81, ofs_len8, ↓reduceIte, k_cr, k_ci, k_oR, k_oN, k_aR, k_aN, and_true, true_and, and_self, eq_self, Nat.reduceLT, Nat.reduceLeDiff, Nat.reduceEqDiff, Nat.reduceAdd, Nat.reduceMul, Bool.true_eq_false, Bool.false_eq_true, Nat.add_sub_cancel, Nat.not_lt_zero, Nat.zero_le, k_sub, k_sb1, k_r, k_n, k_ret, k_t1, k_t0, k_nr, k_nn, k_z0, k_z1, k_zb, x_okI, lit_nI, k_in, k_cl, k_lt, k_le, k_eq, k_neg, nI_add, nI_mul, k_clt, k_cgt, k_cle, k_cge, k_ceq, bI_0, k_sh8, ne_eq, Nat.add_eq_zero_iff, Nat.one_ne_zero, Nat.succ_ne_zero, and_false, false_and, not_false_eq_true, not_true_eq_false, ite_true, ite_false, if_true, if_false, h8, h1, hat, km, p2, hsd, i7, i8, i6, eE, b1, eR, W2, s1]
