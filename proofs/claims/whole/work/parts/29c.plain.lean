/-! Calls of both: those that only look. -/
def vAt (V : vL) (i : Nat) : Nat × vW := (V[i]?).getD (0, (0, fun _ => 0, fun _ _ => 0))
theorem vAt_s {V : vL} {i : Nat} (h : i < V.length) : V[i]? = some (vAt V i) := by
  unfold vAt
  rw [List.getElem?_eq_getElem h]
  rfl
theorem vAt_e {V : vL} {i : Nat} {v : Nat × vW} (h : V[i]? = some v) : vAt V i = v := by
  unfold vAt
  rw [h]
  rfl
/-- the KEYS of both sides -/
theorem ky_eq {S : gS} {κ : Nat → Nat → Nat} {cN mN : Nat → Nat} {bd : Nat} {V : vL} {SV : Nat → gS} (hV : ∀ j v, V[j]? = some v → svC κ cN mN bd (SV j) v) (hr : ∀ j v, V[j]? = some v → wkV S bd v.1 (mN (6 * bd + v.1)) j v.2) : ∀ i, i < V.length → sJ (SV i) 2 = sL S 8 i := fun i hi => by
  have h1 := (hV i _ (vAt_s hi)).2.2.2.1
  have h2 := (hr i _ (vAt_s hi)).2.2.2.2.2.2.1
  exact h1.trans h2.symm
def rOf : Value → Option Nat
  | .ref a => some a
  | _ => none
theorem rho {G : gG} {h : xH} {SX : gS} {β : Nat → Nat} {S : gS} {cN mN : Nat → Nat} {Lf : Nat → List mT} (R : cRu G h SX β S cN mN Lf) : ∃ ρ : Nat → Option Nat, (∀ i, i < 64 → sQ SX 1 i = va_rf (ρ i)) ∧ ∀ i, i < 64 → (ρ i).isSome = hz S i := by
  have key : ∀ i, i < 64 → sQ SX 1 i = va_rf (rOf (sQ SX 1 i)) ∧ (rOf (sQ SX 1 i)).isSome = hz S i := fun i hi => by
    obtain ⟨n1, n2⟩ := R (i / 8) (i % 8) (by omega) (by omega)
    rw [show 8 * (i / 8) + i % 8 = i by omega] at n1 n2
    cases hq : hz S i with
    | false =>
      rw [n1 hq]
      exact ⟨rfl, rfl⟩
    | true =>
      obtain ⟨ρ, lo, hi2, mc, e, _⟩ := n2 hq
      rw [e]
      exact ⟨rfl, rfl⟩
  exact ⟨fun i => rOf (sQ SX 1 i), fun i hi => (key i hi).1, fun i hi => (key i hi).2⟩
theorem call_told {X M b E1 E2 : Nat} {h : xH} (H : INV X M b E1 E2 h) (x : Int32) : CALL X M b E1 E2 h 120 198 [.int x] := by
  obtain ⟨G, S, cN, mN, ty, Lf, bd, V, z, dr, C, r, B, s1, s2⟩ := id H
  obtain ⟨SX, Kc, R, Q, P, κ0, SC, T, SQ, SP, SK0, β, SB, κ, SK, mt, W, h3, hC, hP, hT, hE, hR⟩ := C
  obtain ⟨σ0, σ1, σ2, g0, g1, g2, SS0, SS1, SS2, n1, n2, m0, m1, m2, ν0, ν1, ν2, SV0, SV1, SV2, ⟨r5, r6, r7⟩, -, c0, c1, c2, h1, hV, hmt⟩ := h3
  obtain ⟨rT, rU, rH, rR, ⟨b8, b6, b7, b60, bV, bB⟩, z1, z2, d1⟩ := r
  have e1 := c_told 79 h X σ0 SX SS0 x W.1.1 r5 c0.1.1
  have e2 := m_told 78 h M S x rH
  rw [show oh 11 h M S = h from B.1] at e2
  refine call_0 H e1 (e2.trans ?_)
  rw [h1, c0.2.1, hT.2.2.1, b6, b7]
theorem call_lost {X M b E1 E2 : Nat} {h : xH} (H : INV X M b E1 E2 h) (x : Int32) : CALL X M b E1 E2 h 119 197 [.int x] := by
  obtain ⟨G, S, cN, mN, ty, Lf, bd, V, z, dr, C, r, B, s1, s2⟩ := id H
  obtain ⟨SX, Kc, R, Q, P, κ0, SC, T, SQ, SP, SK0, β, SB, κ, SK, mt, W, h3, hC, hP, hT, hE, hR⟩ := C
  have e1 := c_lost 79 h X Kc SX SC x W.1.1 W.2.1 hC.1.1
  have e2 := m_lost 78 h M S x
  rw [show oh 11 h M S = h from B.1] at e2
  refine call_0 H e1 (e2.trans ?_)
  rw [hE.1, hE.2.1]
theorem call_refused {X M b E1 E2 : Nat} {h : xH} (H : INV X M b E1 E2 h) (x : Int32) : CALL X M b E1 E2 h 117 195 [.int x] := by
  obtain ⟨G, S, cN, mN, ty, Lf, bd, V, z, dr, C, r, B, s1, s2⟩ := id H
  obtain ⟨SX, Kc, R, Q, P, κ0, SC, T, SQ, SP, SK0, β, SB, κ, SK, mt, W, h3, hC, hP, hT, hE, hR⟩ := C
  obtain ⟨-, -, w, w1, w2, w3⟩ := hE
  have e1 := c_refused 79 h X Kc SX SC x W.1.1 W.2.1 hC.1.1
  have e2 := m_refused 78 h M S x w w1
  rw [show oh 11 h M S = h from B.1] at e2
  refine call_0 H e1 (e2.trans ?_)
  cases w with
  | true =>
    obtain ⟨⟨k1, k2, k3, k4⟩, k5, k6⟩ := w2 rfl
    rw [k1, k2, k3, k4, if_pos rfl]
  | false =>
    obtain ⟨⟨k1, k2, k3, k4⟩, k5, k6⟩ := w3 rfl
    rw [k1, k2, k3, k4, if_neg (show ¬ (false = true) by decide)]
    have : (if x = nI 0 then -nI 1 else if x = nI 1 then -nI 1 else if x = nI 2 then -nI 1 else -nI 1) = -nI 1 := by
      split
      · rfl
      · split
        · rfl
        · split <;> rfl
    rw [this]
theorem call_refusedKey {X M b E1 E2 : Nat} {h : xH} (H : INV X M b E1 E2 h) (x : Bool) : CALL X M b E1 E2 h 118 196 [.int (bI x)] := by
  obtain ⟨G, S, cN, mN, ty, Lf, bd, V, z, dr, C, r, B, s1, s2⟩ := id H
  obtain ⟨SX, Kc, R, Q, P, κ0, SC, T, SQ, SP, SK0, β, SB, κ, SK, mt, W, h3, hC, hP, hT, hE, hR⟩ := C
  obtain ⟨-, -, w, w1, w2, w3⟩ := hE
  have e1 := c_refusedKey 79 h X Kc SX SC x W.1.1 W.2.1 hC.1.1
  have e2 := m_refusedKey 79 h M S x w w1
  rw [show oh 11 h M S = h from B.1] at e2
  refine call_0 H e1 (e2.trans ?_)
  cases w with
  | true =>
    obtain ⟨-, k5, k6⟩ := w2 rfl
    rw [k5, k6, if_pos rfl]
  | false =>
    obtain ⟨-, k5, k6⟩ := w3 rfl
    rw [k5, k6, if_neg (show ¬ (false = true) by decide)]
    cases x <;> rfl
theorem call_key {X M b E1 E2 : Nat} {h : xH} (H : INV X M b E1 E2 h) (x : Int32) : CALL X M b E1 E2 h 121 199 [.int x] := by
  obtain ⟨G, S, cN, mN, ty, Lf, bd, V, z, dr, C, r, B, s1, s2⟩ := id H
  obtain ⟨SX, Kc, R, Q, P, κ0, SC, T, SQ, SP, SK0, β, SB, κ, SK, mt, W, h3, hC, hP, hT, hE, hR⟩ := C
  obtain ⟨σ0, σ1, σ2, g0, g1, g2, SS0, SS1, SS2, n1, n2, m0, m1, m2, ν0, ν1, ν2, SV0, SV1, SV2, ⟨r5, r6, r7⟩, -, c0, c1, c2, h1, hV, hmt⟩ := h3
  obtain ⟨rT, rU, rH, rR, ⟨b8, b6, b7, b60, bV, bB⟩, z1, z2, d1⟩ := r
  have e1 := c_key 78 h X σ0 V.length SX SS0 ν0 SV0 x W.1.1 r5 c0.1.1 c0.stOK
  have e2 := m_key 78 h M S x V.length b7 b60
  rw [show oh 11 h M S = h from B.1] at e2
  refine call_0 H e1 (e2.trans ?_)
  cases hx : inR x 0 (nI V.length - nI 1).toInt64 with
  | false => rfl
  | true =>
    obtain ⟨i, hi, rfl⟩ := (inR_pred (by omega)).mp hx
    rw [if_pos rfl, if_pos rfl, k_cl (by omega), ky_eq hV bV i hi]
theorem call_classOf {X M b E1 E2 : Nat} {h : xH} (H : INV X M b E1 E2 h) (w : Int64) : CALL X M b E1 E2 h 122 200 [.long w] := by
  obtain ⟨G, S, cN, mN, ty, Lf, bd, V, z, dr, C, r, B, s1, s2⟩ := id H
  obtain ⟨SX, Kc, R, Q, P, κ0, SC, T, SQ, SP, SK0, β, SB, κ, SK, mt, W, h3, hC, hP, hT, hE, hR⟩ := C
  obtain ⟨σ0, σ1, σ2, g0, g1, g2, SS0, SS1, SS2, n1, n2, m0, m1, m2, ν0, ν1, ν2, SV0, SV1, SV2, ⟨r5, r6, r7⟩, -, c0, c1, c2, h1, hV, hmt⟩ := h3
  obtain ⟨rT, rU, rH, rR, ⟨b8, b6, b7, b60, bV, bB⟩, z1, z2, d1⟩ := r
  have e1 := c_classOf 78 h X σ0 V.length SX SS0 ν0 SV0 w W.1.1 r5 c0.1.1 c0.stOK
  have e2 := m_classOf 78 h M S w V.length b7 b60
  rw [show oh 11 h M S = h from B.1] at e2
  rw [fnd_cg (ky_eq hV bV)] at e1
  refine call_0 H e1 (e2.trans ?_)
  cases hf : fnd (sL S 8) w V.length with
  | none => rfl
  | some i =>
    have hi := (fnd_lt hf).1
    have k1 := (hV i _ (vAt_s hi)).2.1
    have k2 := (bV i _ (vAt_s hi)).2.2.2.2.2.1
    show some (some (Value.int (sA S 9 i)), h) = some (some (Value.int (sI (SV0 i) 4)), h)
    rw [k1, k2]
/-- the Kinds of VALUES -/
theorem vk_ok {G : gG} {h : xH} {SX : gS} {β : Nat → Nat} {SB : Nat → gS} {κ : Nat → Nat → Nat} {SK : Nat → Nat → gS} {S : gS} {cN mN : Nat → Nat} {bd : Nat} {V : vL} {SV : Nat → gS} (hB : cBld G h SX β SB κ SK S cN mN) (b8 : bd < 8) (hV : ∀ j v, V[j]? = some v → svC κ cN mN bd (SV j) v) : vkOK h SV (fun i => κ bd (vAt V i).1) (fun i => SK bd (vAt V i).1) (fun i => mN (6 * bd + (vAt V i).1)) V.length := fun i hi => by
  obtain ⟨a1, a2, a3, a4⟩ := hV i _ (vAt_s hi)
  obtain ⟨k1, k2, k3, _⟩ := hB.2.1 bd (vAt V i).1 b8 a1
  exact ⟨a3, k2.1, k3⟩
theorem vl_ok {S : gS} {cN mN ty : Nat → Nat} {bd : Nat} {V : vL} (b8 : bd < 8) (b6 : sI S 6 = nI bd) (b7 : sA S 7 0 = nI V.length) (b60 : V.length ≤ 60) (bV : ∀ j v, V[j]? = some v → wkV S bd v.1 (mN (6 * bd + v.1)) j v.2) : vlOK S mN bd V.length (fun i => (vAt V i).1) := ⟨b6, b8, b7, b60, fun i hi => by
  have := bV i _ (vAt_s hi)
  exact ⟨this.2.2.2.2.2.1, this.2.1⟩⟩
theorem call_many {X M b E1 E2 : Nat} {h : xH} (H : INV X M b E1 E2 h) (w : Int64) (x : Int32) : CALL X M b E1 E2 h 123 201 [.long w, .int x] := by
  obtain ⟨G, S, cN, mN, ty, Lf, bd, V, z, dr, C, r, B, s1, s2⟩ := id H
  obtain ⟨SX, Kc, R, Q, P, κ0, SC, T, SQ, SP, SK0, β, SB, κ, SK, mt, W, h3, hC, hP, hT, hE, hR⟩ := C
  obtain ⟨σ0, σ1, σ2, g0, g1, g2, SS0, SS1, SS2, n1, n2, m0, m1, m2, ν0, ν1, ν2, SV0, SV1, SV2, ⟨r5, r6, r7⟩, -, c0, c1, c2, h1, hV, hmt⟩ := h3
  obtain ⟨rT, rU, rH, rR, ⟨b8, b6, b7, b60, bV, bB⟩, z1, z2, d1⟩ := r
  have e1 := c_many 78 h X σ0 V.length SX SS0 ν0 _ _ SV0 _ w x W.1.1 r5 c0.1.1 c0.stOK (vk_ok W.2.2.1 b8 hV)
  have e2 := m_many 77 h M S w x cN mN _ bd V.length rT.1 (vl_ok (cN := cN) (ty := ty) b8 b6 b7 b60 bV)
  rw [show oh 11 h M S = h from B.1] at e2
  rw [fnd_cg (ky_eq hV bV)] at e1
  refine call_0 H e1 (e2.trans ?_)
  cases hf : fnd (sL S 8) w V.length with
  | none => rfl
  | some i =>
    have hi := (fnd_lt hf).1
    obtain ⟨a1, a2, a3, a4⟩ := hV i _ (vAt_s hi)
    have k2 := bV i _ (vAt_s hi)
    have m8 := k2.2.2.2.1
    show some (some (Value.int (if inR x 0 (nI (mN (6 * bd + (vAt V i).1)) - nI 1).toInt64 = true then sA S 10 (8 * i + x.toNatClampNeg) else -nI 2)), h) = some (some (Value.int (if inR x 0 (nI (mN (6 * bd + (vAt V i).1)) - nI 1).toInt64 = true then sA (SV0 i) 0 x.toNatClampNeg else -nI 2)), h)
    cases hx : inR x 0 (nI (mN (6 * bd + (vAt V i).1)) - nI 1).toInt64 with
    | false => rfl
    | true =>
      obtain ⟨m, hm, rfl⟩ := (inR_pred (by omega)).mp hx
      rw [if_pos rfl, if_pos rfl, k_cl (by omega), (a4.2.1 m hm).1, (k2.2.2.2.2.2.2.2.1 m (by omega)).1]
def kNf (V : vL) (q : Nat) : Nat := (vAt V (q / 8)).2.2.1 (q % 8)
theorem kNf_at (V : vL) (v : Nat) {m : Nat} (hm : m < 8) : kNf V (8 * v + m) = (vAt V v).2.2.1 m := by
  unfold kNf
  rw [show (8 * v + m) / 8 = v by omega, show (8 * v + m) % 8 = m by omega]
theorem call_bits {X M b E1 E2 : Nat} {h : xH} (H : INV X M b E1 E2 h) (w : Int64) (x y : Int32) : CALL X M b E1 E2 h 124 202 [.long w, .int x, .int y] := by
  obtain ⟨G, S, cN, mN, ty, Lf, bd, V, z, dr, C, r, B, s1, s2⟩ := id H
  obtain ⟨SX, Kc, R, Q, P, κ0, SC, T, SQ, SP, SK0, β, SB, κ, SK, mt, W, h3, hC, hP, hT, hE, hR⟩ := C
  obtain ⟨σ0, σ1, σ2, g0, g1, g2, SS0, SS1, SS2, n1, n2, m0, m1, m2, ν0, ν1, ν2, SV0, SV1, SV2, ⟨r5, r6, r7⟩, -, c0, c1, c2, h1, hV, hmt⟩ := h3
  obtain ⟨rT, rU, rH, rR, ⟨b8, b6, b7, b60, bV, bB⟩, z1, z2, d1⟩ := r
  have e1 := c_bitsM 78 h X σ0 V.length SX SS0 ν0 _ _ (fun v m => (vAt V v).2.2.1 m) SV0 _ w x y W.1.1 r5 c0.1.1 c0.stOK (vk_ok W.2.2.1 b8 hV) (fun v m hv hm => (hV v _ (vAt_s hv)).2.2.2.2.1 m hm)
  have e2 := m_bits 77 h M S w x y cN mN _ (kNf V) bd V.length rT.1 (vl_ok (cN := cN) (ty := ty) b8 b6 b7 b60 bV) (fun v m hv hm => by
    rw [kNf_at V v hm]
    exact (bV v _ (vAt_s hv)).2.2.2.2.2.2.2.1 m hm)
  rw [show oh 11 h M S = h from B.1] at e2
  rw [fnd_cg (ky_eq hV bV)] at e1
  refine call_0 H e1 (e2.trans ?_)
  cases hf : fnd (sL S 8) w V.length with
  | none => rfl
  | some i =>
    have hi := (fnd_lt hf).1
    obtain ⟨a1, a2, a3, a4⟩ := hV i _ (vAt_s hi)
    have k2 := bV i _ (vAt_s hi)
    have m8 := k2.2.2.2.1
    generalize hn : mN (6 * bd + (vAt V i).1) = nn at *
    show some (some (Value.long (if inR x 0 (nI (mN (6 * bd + (vAt V i).1)) - nI 1).toInt64 = true then (if inR y 0 (nI (kNf V (8 * i + x.toNatClampNeg)) - nI 1).toInt64 = true then sL S 11 (64 * i + 8 * x.toNatClampNeg + y.toNatClampNeg) else 0) else 0)), h) = some (some (Value.long (if inR x 0 (nI (mN (6 * bd + (vAt V i).1)) - nI 1).toInt64 = true then (if inR y 0 (nI ((vAt V i).2.2.1 x.toNatClampNeg) - nI 1).toInt64 = true then sL (SV0 i) 1 (8 * x.toNatClampNeg + y.toNatClampNeg) else 0) else 0)), h)
    rw [hn]
    cases hx : inR x 0 (nI nn - nI 1).toInt64 with
    | false => rw [if_neg (show ¬ (false = true) by decide), if_neg (show ¬ (false = true) by decide)]
    | true =>
      obtain ⟨m, hm, rfl⟩ := (inR_pred (by omega)).mp hx
      rw [if_pos (show true = true from rfl), if_pos (show true = true from rfl), k_cl (by omega), kNf_at V i (by omega)]
      have k8 := (a4.2.1 m hm).2
      cases hy : inR y 0 (nI ((vAt V i).2.2.1 m) - nI 1).toInt64 with
      | false => rw [if_neg (show ¬ (false = true) by decide), if_neg (show ¬ (false = true) by decide)]
      | true =>
        obtain ⟨k, hk, rfl⟩ := (inR_pred (by omega)).mp hy
        rw [if_pos (show true = true from rfl), if_pos (show true = true from rfl), k_cl (by omega), a4.2.2 m k hm hk, k2.2.2.2.2.2.2.2.2 m k (by omega) (by omega)]
