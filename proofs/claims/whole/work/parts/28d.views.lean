/-! Pure: views of CLASSES that tell the same make the same Moves and codes. -/
def eqN (n : Nat) (x y : kE) : Prop := x.1 = y.1 ∧ (∀ w m, x.1 w = some m → m < n) ∧ ∀ m, m < n → x.2.1 m = y.2.1 m ∧ x.2.2 m = y.2.2 m
theorem eqN.E {n : Nat} {x y : kE} (h : eqN n x y) : eqE x y := ⟨fun w => by rw [h.1], fun w m hm => h.2.2 m (h.2.1 w m hm)⟩
theorem cod_cg {x y : kE} (h : x.1 = y.1) : cod x = cod y := by
  funext a
  unfold cod
  rw [h]
theorem ruCod_cg {x y : kE} (h : x.1 = y.1) : ruCod x = ruCod y := by
  funext r
  unfold ruCod
  rw [cod_cg h]
theorem ruStep_cg {x y u v : kE} (h : x.1 = y.1) (k : u.1 = v.1) (c0 : Nat) (ms : mS) (r : rT) : ruStep x u c0 ms r = ruStep y v c0 ms r := by
  have e : tld x r.2.2.2.2.2 = tld y r.2.2.2.2.2 := by
    funext m
    unfold tld
    rw [h]
  have es : ruSl u r = ruSl v r := by
    unfold ruSl
    rw [k]
  unfold ruStep
  rw [e, es, h]
theorem rusM_cg {x y u v : kE} (h : x.1 = y.1) (k : u.1 = v.1) : ∀ (R : List rT) (c0 : Nat) (ms : mS), rusM x u c0 ms R = rusM y v c0 ms R
  | [], c0, ms => rfl
  | r :: R, c0, ms => by
    show rusM x u (c0 + (ruCod x r).length) (ruStep x u c0 ms r) R = rusM y v (c0 + (ruCod y r).length) (ruStep y v c0 ms r) R
    rw [ruCod_cg h, ruStep_cg h k, rusM_cg h k R]
theorem ihW_cg {x y u v : kE} {n k i : Nat} {nm nm' : Nat → Int64} (h : eqN n x y) (hu : eqN k u v) (hi : i < k) (hm : nm i = nm' i) (ms : mS) : ihW x u nm ms i = ihW y v nm' ms i := by
  unfold ihW
  rw [hm, h.1, (hu.2.2 i hi).1]
  cases hq : y.1 (nm' i) with
  | none => rfl
  | some s =>
    have hs := h.2.1 (nm' i) s (by rw [h.1]; exact hq)
    show (if ms.1 i = true then none else if ms.2.2.2.2.1 s = false ∧ x.2.1 s = v.2.1 i then some s else none) = (if ms.1 i = true then none else if ms.2.2.2.2.1 s = false ∧ y.2.1 s = v.2.1 i then some s else none)
    rw [(h.2.2 s hs).1]
theorem ihP_cg {x y u v : kE} {n nN : Nat} {nm nm' : Nat → Int64} (h : eqN n x y) (hu : eqN nN u v) (hm : ∀ i, i < nN → nm i = nm' i) : ∀ (k i : Nat) (ms : mS), i + k ≤ nN → ihP x u nm k i ms = ihP y v nm' k i ms
  | 0, i, ms, hi => rfl
  | k + 1, i, ms, hi => by
    show ihP x u nm k (i + 1) (ihM x u nm ms i) = ihP y v nm' k (i + 1) (ihM y v nm' ms i)
    have e : ihM x u nm ms i = ihM y v nm' ms i := by
      unfold ihM
      rw [ihW_cg h hu (by omega) (hm i (by omega))]
    rw [e, ihP_cg h hu hm k (i + 1) _ (by omega)]
/-- two sets of views -/
def eqV (n1 n2 : Nat) (fo ft : Int64 → Option Nat) (E1 E2 E1' E2' : Nat → kE) (e0 e0' : kE) (nE nE' : Option Nat → Nat) (nm nm' : Option Nat → Nat → Int64) (cn cn' : Nat → Int64) : Prop := (∀ v c, fo v = some c → c < n1) ∧ (∀ v e, ft v = some e → e < n2) ∧ (∀ c, c < n1 → ∃ n, eqN n (E1 c) (E1' c)) ∧ (∀ e, e < n2 → eqN (nE (some e)) (E2 e) (E2' e)) ∧ eqN 0 e0 e0' ∧ nE none = 0 ∧ nE' none = 0 ∧ (∀ e, e < n2 → nE (some e) = nE' (some e) ∧ ∀ i, i < nE (some e) → nm (some e) i = nm' (some e) i) ∧ ∀ c, c < n1 → cn c = cn' c
section
variable {n1 n2 : Nat} {fo ft : Int64 → Option Nat} {E1 E2 E1' E2' : Nat → kE} {e0 e0' : kE} {nE nE' : Option Nat → Nat} {nm nm' : Option Nat → Nat → Int64} {cn cn' : Nat → Int64}
theorem eqV.o1 (H : eqV n1 n2 fo ft E1 E2 E1' E2' e0 e0' nE nE' nm nm' cn cn') (v : Int64) : ∃ n, eqN n (oE E1 e0 (fo v)) (oE E1' e0' (fo v)) := by
  cases hq : fo v with
  | none => exact ⟨0, H.2.2.2.2.1⟩
  | some c => exact H.2.2.1 c (H.1 v c hq)
theorem eqV.o2 (H : eqV n1 n2 fo ft E1 E2 E1' E2' e0 e0' nE nE' nm nm' cn cn') (v : Int64) : eqN (nE (ft v)) (oE E2 e0 (ft v)) (oE E2' e0' (ft v)) ∧ nE (ft v) = nE' (ft v) ∧ ∀ i, i < nE (ft v) → nm (ft v) i = nm' (ft v) i := by
  cases hq : ft v with
  | none =>
    refine ⟨?_, H.2.2.2.2.2.1.trans H.2.2.2.2.2.2.1.symm, fun i hi => ?_⟩
    · rw [H.2.2.2.2.2.1]
      exact H.2.2.2.2.1
    · rw [H.2.2.2.2.2.1] at hi
      omega
  | some e =>
    have he := H.2.1 v e hq
    exact ⟨H.2.2.2.1 e he, H.2.2.2.2.2.2.2.1 e he⟩
theorem moCod_cg (H : eqV n1 n2 fo ft E1 E2 E1' E2' e0 e0' nE nE' nm nm' cn cn') : moCod fo E1 e0 = moCod fo E1' e0' := by
  funext m
  unfold moCod
  obtain ⟨n, h⟩ := H.o1 m.2.1
  rw [ruCod_cg h.1]
theorem mvD_cg (H : eqV n1 n2 fo ft E1 E2 E1' E2' e0 e0' nE nE' nm nm' cn cn') (c0 : Nat) (m : mT) : mvD fo ft E1 E2 e0 nE nm c0 m = mvD fo ft E1' E2' e0' nE' nm' c0 m := by
  unfold mvD
  obtain ⟨n, h⟩ := H.o1 m.2.1
  obtain ⟨k1, k2, k3⟩ := H.o2 m.2.2.2.1
  rw [rusM_cg h.1 k1.1, ihP_cg h k1 k3 _ 0 _ (by omega), k2]
theorem pmL_cg (H : eqV n1 n2 fo ft E1 E2 E1' E2' e0 e0' nE nE' nm nm' cn cn') : ∀ (L : List mT) (PM : pM) (c0 : Nat), pmL fo ft E1 E2 e0 nE nm PM c0 L = pmL fo ft E1' E2' e0' nE' nm' PM c0 L
  | [], PM, c0 => rfl
  | m :: L, PM, c0 => by
    show pmL fo ft E1 E2 e0 nE nm (pm1 PM (mvD fo ft E1 E2 e0 nE nm c0 m) (fo m.2.1)) (c0 + (moCod fo E1 e0 m).length) L = pmL fo ft E1' E2' e0' nE' nm' (pm1 PM (mvD fo ft E1' E2' e0' nE' nm' c0 m) (fo m.2.1)) (c0 + (moCod fo E1' e0' m).length) L
    rw [mvD_cg H, moCod_cg H, pmL_cg H L]
theorem pmF_cg (H : eqV n1 n2 fo ft E1 E2 E1' E2' e0 e0' nE nE' nm nm' cn cn') : ∀ (k i : Nat) (PM : pM), i + k ≤ n1 → pmF ft E1 E2 nE nm cn k i PM = pmF ft E1' E2' nE' nm' cn' k i PM
  | 0, i, PM, hi => rfl
  | k + 1, i, PM, hi => by
    have e : pmB ft E1 E2 nE nm cn PM i = pmB ft E1' E2' nE' nm' cn' PM i := by
      unfold pmB
      cases PM i with
      | some v => rfl
      | none =>
        rw [H.2.2.2.2.2.2.2.2 i (by omega)]
        show (match ft (cn' i) with
          | none => PM
          | some t => up PM i (some (nI t, ihP (E1 i) (E2 t) (nm (some t)) (nE (some t)) 0 ms0))) = (match ft (cn' i) with
          | none => PM
          | some t => up PM i (some (nI t, ihP (E1' i) (E2' t) (nm' (some t)) (nE' (some t)) 0 ms0)))
        obtain ⟨k1, k2, k3⟩ := H.o2 (cn' i)
        cases hq : ft (cn' i) with
        | none => rfl
        | some t =>
          rw [hq] at k1 k2 k3
          have k1 : eqN (nE (some t)) (E2 t) (E2' t) := k1
          show up PM i (some (nI t, ihP (E1 i) (E2 t) (nm (some t)) (nE (some t)) 0 ms0)) = up PM i (some (nI t, ihP (E1' i) (E2' t) (nm' (some t)) (nE' (some t)) 0 ms0))
          obtain ⟨n8, h8⟩ := H.2.2.1 i (by omega)
          rw [ihP_cg h8 k1 k3 _ 0 _ (by omega), k2]
    show pmF ft E1 E2 nE nm cn k (i + 1) (pmB ft E1 E2 nE nm cn PM i) = pmF ft E1' E2' nE' nm' cn' k (i + 1) (pmB ft E1' E2' nE' nm' cn' PM i)
    rw [e, pmF_cg H k (i + 1) _ (by omega)]
end
/-- BUILD b is in T what it is in S -/
def smB (S T : gS) (cN mN cN' mN' : Nat → Nat) (b : Nat) : Prop := cN' b = cN b ∧ ∀ c, c < 6 → sL T 1 (6 * b + c) = sL S 1 (6 * b + c) ∧ mN' (6 * b + c) = mN (6 * b + c) ∧ ∀ m, m < 8 → sL T 3 (8 * (6 * b + c) + m) = sL S 3 (8 * (6 * b + c) + m) ∧ sA T 4 (8 * (6 * b + c) + m) = sA S 4 (8 * (6 * b + c) + m) ∧ sA T 5 (8 * (6 * b + c) + m) = sA S 5 (8 * (6 * b + c) + m)
theorem smB.fc {S T : gS} {cN mN cN' mN' : Nat → Nat} {b : Nat} (h : smB S T cN mN cN' mN' b) (h6 : cN b ≤ 6) : fC T cN' b = fC S cN b := by
  funext w
  unfold fC
  rw [h.1]
  exact fnd_cg (fun j hj => (h.2 j (by omega)).1)
theorem smB.ek {S T : gS} {cN mN cN' mN' : Nat → Nat} {b c : Nat} (h : smB S T cN mN cN' mN' b) (hc : c < 6) (h8 : mN (6 * b + c) ≤ 8) : eqN 8 (eK T mN' b c) (eK S mN b c) := by
  obtain ⟨h1, h2, h3⟩ := h.2 c hc
  refine ⟨?_, fun w m hm => ?_, fun m hm => ⟨?_, ?_⟩⟩
  · funext w
    show fnd _ w (mN' (6 * b + c)) = fnd _ w (mN (6 * b + c))
    rw [h2]
    exact fnd_cg (fun j hj => (h3 j (by omega)).1)
  · have := (fnd_lt (f := fun i => sL T 3 (8 * (6 * b + c) + i)) hm).1
    omega
  · show rw_ T _ = rw_ S _
    unfold rw_
    rw [(h3 m hm).2.2]
  · show decide (¬ sA T 4 (8 * (6 * b + c) + m) ≤ nI 5) = decide (¬ sA S 4 (8 * (6 * b + c) + m) ≤ nI 5)
    rw [(h3 m hm).2.1]
theorem eqN.n {n k : Nat} {x y : kE} (h : eqN n x y) (hk : k ≤ n) (hf : ∀ w m, x.1 w = some m → m < k) : eqN k x y := ⟨h.1, hf, fun m hm => h.2.2 m (by omega)⟩
theorem e00_N : eqN 0 e00 e00 := ⟨rfl, fun w m h => (by cases h), fun m hm => by omega⟩
/-- Moves and codes are the same while both BUILDS are -/
theorem pmK_sm {S T : gS} {cN mN cN' mN' : Nat → Nat} {a b : Nat} (ha : smB S T cN mN cN' mN' a) (hb : smB S T cN mN cN' mN' b) (h6a : cN a ≤ 6) (h6b : cN b ≤ 6) (m8a : ∀ c, c < 6 → mN (6 * a + c) ≤ 8) (m8b : ∀ c, c < 6 → mN (6 * b + c) ≤ 8) (L : List mT) : pmK T cN' mN' a b L = pmK S cN mN a b L ∧ cdK T cN' mN' a L = cdK S cN mN a L ∧ mnF (mosB (fC T cN' a) (fC T cN' b) (eK T mN' a) (eK T mN' b) [] L) 701 = mnF (mosB (fC S cN a) (fC S cN b) (eK S mN a) (eK S mN b) [] L) 701 := by
  have H : eqV (cN a) (cN b) (fC S cN a) (fC S cN b) (eK T mN' a) (eK T mN' b) (eK S mN a) (eK S mN b) e00 e00 (nEK mN' b) (nEK mN b) (nmK T b) (nmK S b) (fun i => sL T 1 (6 * a + i)) (fun i => sL S 1 (6 * a + i)) := by
    refine ⟨fun v c h => (fnd_lt (f := fun c => sL S 1 (6 * a + c)) h).1, fun v e h => (fnd_lt (f := fun c => sL S 1 (6 * b + c)) h).1, fun c hc => ⟨8, ha.ek (by omega) (m8a c (by omega))⟩, fun e he => ?_, e00_N, rfl, rfl, fun e he => ⟨?_, fun i hi => ?_⟩, fun c hc => ?_⟩
    · have e6 : e < 6 := by omega
      have k := (hb.2 e e6).2.1
      refine (hb.ek e6 (m8b e e6)).n ?_ (fun w m hm => (fnd_lt (f := fun i => sL T 3 (8 * (6 * b + e) + i)) hm).1)
      show mN' (6 * b + e) ≤ 8
      rw [k]
      exact m8b e e6
    · exact (hb.2 e (by omega)).2.1
    · have k := (hb.2 e (by omega)).2.1
      have m8 := m8b e (by omega)
      have hi : i < mN' (6 * b + e) := hi
      exact ((hb.2 e (by omega)).2.2 i (by omega)).1
    · exact (ha.2 c (by omega)).1
  refine ⟨?_, ?_, ?_⟩
  · unfold pmK
    rw [ha.fc h6a, hb.fc h6b, pmL_cg H, ha.1]
    exact pmF_cg H _ _ _ (by omega)
  · unfold cdK
    rw [ha.fc h6a, moCod_cg H]
  · rw [ha.fc h6a, hb.fc h6b]
    congr 1
    exact mosB_eq (fun v c h => (H.2.2.1 c (H.1 v c h)).elim (fun _ z => z.E)) (fun v e h => (H.2.2.2.1 e (H.2.1 v e h)).E) L []
/-- a text of which the reference says nothing is good -/
theorem txG_of {S : gS} {cN mN : Nat → Nat} {a b n : Nat} {t : Nat → Int32} {L : List mT} (h7 : n ≤ 700) (e : teF (pcs t n) = .inr L) (h6a : cN a ≤ 6) (h6b : cN b ≤ 6) (m8a : ∀ c, c < 6 → mN (6 * a + c) ≤ 8) (m8b : ∀ c, c < 6 → mN (6 * b + c) ≤ 8) (hz : mnF (mosB (fC S cN a) (fC S cN b) (eK S mN a) (eK S mN b) [] L) 701 = 701) : txG S cN mN a b L := by
  refine ⟨teF_all h7 e, cmosB_nil (teF_all h7 e) ?_⟩
  refine Eq.trans ?_ hz
  refine text_same h7 e (nO := fun c => mN (6 * a + c)) fC_inj (fun v c hc => ?_) (fun v c hc => ?_)
  · exact eK_kG (m8a c (by
      have := (fnd_lt (f := fun c => sL S 1 (6 * a + c)) hc).1
      omega))
  · exact eK_kG (m8b c (by
      have := (fnd_lt (f := fun c => sL S 1 (6 * b + c)) hc).1
      omega))
/-- what the class makes of a text, in the reference's words -/
theorem cls_txt {S SK0 : gS} {cN mN ty : Nat → Nat} {a b n : Nat} {t : Nat → Int32} {L : List mT} {SKa SKb : Nat → gS} (h7 : n ≤ 700) (e : teF (pcs t n) = .inr L) (h6a : cN a ≤ 6) (h6b : cN b ≤ 6) (m8a : ∀ c, c < 6 → mN (6 * a + c) ≤ 8) (m8b : ∀ c, c < 6 → mN (6 * b + c) ≤ 8) (hA : ∀ c, c < cN a → sJ (SKa c) 0 = sL S 1 (6 * a + c) ∧ ∀ m, m < mN (6 * a + c) → sL (SKa c) 1 m = sL S 3 (8 * (6 * a + c) + m) ∧ sA (SKa c) 2 m = sA S 4 (8 * (6 * a + c) + m) ∧ kRow (SKa c) m = rw_ S (8 * (6 * a + c) + m)) (hB : ∀ c, c < cN b → sJ (SKb c) 0 = sL S 1 (6 * b + c) ∧ ∀ m, m < mN (6 * b + c) → sL (SKb c) 1 m = sL S 3 (8 * (6 * b + c) + m) ∧ sA (SKb c) 2 m = sA S 4 (8 * (6 * b + c) + m) ∧ kRow (SKb c) m = rw_ S (8 * (6 * b + c) + m)) : mnF (cmosB (bF (cN a) SKa) (bF (cN b) SKb) (fun c => eC (SKa c) (mN (6 * a + c))) (fun c => eC (SKb c) (mN (6 * b + c))) (eC SK0 0) (kC (fun c => mN (6 * b + c))) (fun _ => false) 0 L) 701 = mnF (mosB (fC S cN a) (fC S cN b) (eK S mN a) (eK S mN b) [] L) 701 ∧ pmF (bF (cN b) SKb) (fun c => eC (SKa c) (mN (6 * a + c))) (fun c => eC (SKb c) (mN (6 * b + c))) (kC (fun c => mN (6 * b + c))) (fun t => sL (kT SK0 SKb t) 1) (fun i => sJ (SKa i) 0) (cN a) 0 (pmL (bF (cN a) SKa) (bF (cN b) SKb) (fun c => eC (SKa c) (mN (6 * a + c))) (fun c => eC (SKb c) (mN (6 * b + c))) (eC SK0 0) (kC (fun c => mN (6 * b + c))) (fun t => sL (kT SK0 SKb t) 1) (fun _ => none) 0 L) = pmK S cN mN a b L ∧ L.flatMap (moCod (bF (cN a) SKa) (fun c => eC (SKa c) (mN (6 * a + c))) (eC SK0 0)) = cdK S cN mN a L := by
  have fa : bF (cN a) SKa = fC S cN a := by
    funext w
    exact fnd_cg (fun j hj => (hA j hj).1)
  have fb : bF (cN b) SKb = fC S cN b := by
    funext w
    exact fnd_cg (fun j hj => (hB j hj).1)
  have nN : ∀ (d : Nat) (SK : Nat → gS), (∀ c, c < cN d → sJ (SK c) 0 = sL S 1 (6 * d + c) ∧ ∀ m, m < mN (6 * d + c) → sL (SK c) 1 m = sL S 3 (8 * (6 * d + c) + m) ∧ sA (SK c) 2 m = sA S 4 (8 * (6 * d + c) + m) ∧ kRow (SK c) m = rw_ S (8 * (6 * d + c) + m)) → ∀ c, c < cN d → eqN (mN (6 * d + c)) (eC (SK c) (mN (6 * d + c))) (eK S mN d c) := fun d SK h c hc => by
    obtain ⟨h1, h2⟩ := h c hc
    refine ⟨?_, fun w m hm => (fnd_lt (f := sL (SK c) 1) hm).1, fun m hm => ⟨(h2 m hm).2.2, ?_⟩⟩
    · funext w
      exact fnd_cg (fun j hj => (h2 j hj).1)
    · show decide (¬ sA (SK c) 2 m ≤ nI 5) = decide (¬ sA S 4 (8 * (6 * d + c) + m) ≤ nI 5)
      rw [(h2 m hm).2.1]
  have Na := nN a SKa hA
  have Nb := nN b SKb hB
  have H : eqV (cN a) (cN b) (fC S cN a) (fC S cN b) (fun c => eC (SKa c) (mN (6 * a + c))) (fun c => eC (SKb c) (mN (6 * b + c))) (eK S mN a) (eK S mN b) (eC SK0 0) e00 (kC (fun c => mN (6 * b + c))) (nEK mN b) (fun t => sL (kT SK0 SKb t) 1) (nmK S b) (fun i => sJ (SKa i) 0) (fun i => sL S 1 (6 * a + i)) :=
    ⟨fun v c h => (fnd_lt (f := fun c => sL S 1 (6 * a + c)) h).1, fun v e h => (fnd_lt (f := fun c => sL S 1 (6 * b + c)) h).1, fun c hc => ⟨_, Na c hc⟩, fun e he => Nb e he, ⟨rfl, fun w m h => (by cases h), fun m hm => by omega⟩, rfl, rfl, fun e he => ⟨rfl, fun i hi => ((hB e he).2 i hi).1⟩, fun c hc => (hA c hc).1⟩
  rw [fa, fb]
  refine ⟨?_, ?_, ?_⟩
  · refine Eq.trans (text_same h7 e (nO := fun c => mN (6 * a + c)) fC_inj (fun v c hc => ?_) (fun v c hc => ?_)) ?_
    · exact eC_kG (m8a c (by
        have := H.1 v c hc
        omega))
    · exact eC_kG (m8b c (by
        have := H.2.1 v c hc
        omega))
    · congr 1
      exact mosB_eq (fun v c h => (Na c (H.1 v c h)).E) (fun v e h => (Nb e (H.2.1 v e h)).E) L []
  · unfold pmK
    rw [pmL_cg H]
    exact pmF_cg H _ _ _ (by omega)
  · unfold cdK
    rw [moCod_cg H]
