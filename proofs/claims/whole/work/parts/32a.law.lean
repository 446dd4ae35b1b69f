/-! The law: one call of both after the other. -/
theorem xfin_ret {j : Nat} {ins : Jvm.ClassFile.Instr} {len : Nat} {st : List Value} {v : Value} (h : xfin j ins len st = some (some v)) : xret j v = true := by
  unfold xfin at h
  replace h := xif_inv h
  obtain ⟨rfl, h⟩ := h
  split at h
  · split at h
    · replace h := xif_inv h
      obtain ⟨hr, h⟩ := h
      cases h
      exact hr
    · cases h
  · split at h
    · replace h := xif_inv h
      obtain ⟨hr, h⟩ := h
      cases h
      exact hr
    · cases h
  · split at h
    · replace h := xif_inv h
      obtain ⟨hr, h⟩ := h
      cases h
      exact hr
    · replace h := xif_inv h
      obtain ⟨hr, h⟩ := h
      cases h
      exact hr
    · cases h
  · split at h
    · replace h := xif_inv h
      obtain ⟨hr, h⟩ := h
      cases h
    · cases h
  · cases h
theorem xe_ret {d : Nat} {call : Nat → List Value → xH → Option xR} {j : Nat} : ∀ {n pc : Nat} {ls : xL} {st : List Value} {h : xH} {v : Value} {h' : xH}, xe d call j n pc ls st h = some (some v, h') → xret j v = true
  | 0, _, _, _, _, _, _, e => by cases e
  | n + 1, pc, ls, st, h, v, h', e => by
    cases hd : decode (x_b j) pc with
    | error x => simp [xe, hd] at e
    | ok q =>
      obtain ⟨ins, len⟩ := q
      rw [xe_succ hd] at e
      split at e
      · rename_i u hu
        cases e
        exact xfin_ret hu
      · split at e
        · exact xe_ret e
        · cases e
theorem xm_ret {d j : Nat} {as : List Value} {h h' : xH} {v : Value} (e : xm d j as h = some (some v, h')) : xret j v = true := by
  cases d with
  | zero => cases e
  | succ d =>
    have e : (if j < x_n ∧ as.map Value.category = x_cs j then xrunc d (xm d) j 0 (xentL (x_nl j) (x_cs j) as) [] h else none) = some (some v, h') := e
    replace e := xif_inv e
    obtain ⟨n, hn⟩ := xrunc_to e.2
    exact xe_ret hn
theorem xm_int {d j : Nat} {as : List Value} {h h' : xH} {v : Value} (e : xm d j as h = some (some v, h')) (hj : x_rt j = some .int ∨ x_rt j = some .boolean) : ∃ x, v = .int x := by
  have hr := xm_ret e
  unfold xret at hr
  rcases hj with q | q
  · rw [q] at hr
    have hr : (decide (narrow .int v = v) && fits .int v) = true := hr
    rw [Bool.and_eq_true] at hr
    cases v with
    | int x => exact ⟨x, rfl⟩
    | _ => exact absurd hr.2 (by simp [fits])
  · rw [q] at hr
    have hr : (decide (narrow .boolean v = v) && fits .boolean v) = true := hr
    rw [Bool.and_eq_true] at hr
    cases v with
    | int x => exact ⟨x, rfl⟩
    | _ => exact absurd hr.2 (by simp [fits])
theorem xm_long {d j : Nat} {as : List Value} {h h' : xH} {v : Value} (e : xm d j as h = some (some v, h')) (hj : x_rt j = some .long) : ∃ x, v = .long x := by
  have hr := xm_ret e
  unfold xret at hr
  rw [hj] at hr
  have hr : (decide (narrow .long v = v) && fits .long v) = true := hr
  rw [Bool.and_eq_true] at hr
  cases v with
  | long x => exact ⟨x, rfl⟩
  | _ => exact absurd hr.2 (by simp [fits])
/-- the script -/
def scr (h : xH) (b L : Nat) (xs : Nat → Int32) : Prop := h.1 b = some (.inl (x_tS, L, fun k => .int (xs k)))
theorem scr.rd {α : Type} {h : xH} {b L i : Nat} {xs : Nat → Int32} (H : scr h b L xs) (hi : i < L) (hL : L < 4000) (F : Value → Option α) : xrd h b (nI i) 0 1 F = F (.int (xs i)) := by
  unfold xrd xar
  rw [H]
  show (if (x_tS = 0 ∨ x_tS = 1) ∧ xIn (nI i) L then F (.int (xs (nI i).toNatClampNeg)) else none) = _
  rw [if_pos ⟨by decide, nI_in hi (by omega)⟩, nI_clamp (by omega)]
theorem INV.x {X M b E1 E2 : Nat} {h : xH} (H : INV X M b E1 E2 h) : ∃ SX, isB 8 h X SX := by
  obtain ⟨G, S, cN, mN, ty, Lf, bd, V, z, dr, C, r, B, s1, s2⟩ := H
  obtain ⟨SX, Kc, R, Q, P, κ0, SC, T, SQ, SP, SK0, β, SB, κ, SK, mt, W, _⟩ := C
  exact ⟨SX, W.1.1⟩
def lw (x y : Int32) : Int64 := (x.toInt64 <<< ((nI 32).toInt64 &&& 63)) ||| (y.toInt64 &&& 4294967295)
theorem law_0 {X M b E1 E2 i L : Nat} {h : xH} {xs : Nat → Int32} (hI : INV X M b E1 E2 h) (hs : scr h b L xs) (hi : i + 6 < L) (hL : L < 4000) : ∃ h2, xrun 80 203 128 [(1, .ref b), (1, .ref X), (1, .ref M), (1, .int (nI i))] [] h = xrun 80 203 1155 [(1, .ref b), (1, .ref X), (1, .ref M), (1, .int (nI i))] [] h2 ∧ INV X M b (E1 + 200) (E2 + 800) h2 ∧ scr h2 b L xs := by
  obtain ⟨v, h', h2, e1, e2, hI2, s2, s1, S', HM⟩ := call_type hI (xs (i + 1)) (lw (xs (i + 2)) (xs (i + 3)))
  obtain ⟨y, rfl⟩ := xm_int e1 (Or.inl rfl)
  obtain ⟨SX, HX⟩ := hI.x
  have hs1 : scr h' b L xs := s1.trans hs
  have iX : ∀ {α : Type} (f : Option α), xis h X 8 f = f := fun f => h_is HX f
  have iM : ∀ {α : Type} (f : Option α), xis h' M 11 f = f := fun f => h_is HM f
  have r0 : ∀ {α : Type} {k : Nat} (hk : k < L) (F : Value → Option α), xrd h b (nI k) 0 1 F = F (.int (xs k)) := fun hk F => hs.rd hk hL F
  have r1 : ∀ {α : Type} {k : Nat} (hk : k < L) (F : Value → Option α), xrd h' b (nI k) 0 1 F = F (.int (xs k)) := fun hk F => hs1.rd hk hL F
  refine ⟨h2, ?_, hI2, s2.trans hs⟩
  unfold lw at e1 e2
  simp (disch := omega) only [q_203_0, q_203_3, q_203_4, q_203_7, q_203_8, q_203_11, q_203_12, q_203_15, q_203_16, q_203_17, q_203_19, q_203_20, q_203_21, q_203_23, q_203_24, q_203_27, q_203_28, q_203_29, q_203_30, q_203_32, q_203_33, q_203_128, q_203_129, q_203_130, q_203_131, q_203_132, q_203_133, q_203_134, q_203_135, q_203_136, q_203_137, q_203_138, q_203_139, q_203_140, q_203_142, q_203_143, q_203_144, q_203_145, q_203_146, q_203_147, q_203_148, q_203_149, q_203_152, q_203_153, q_203_154, q_203_157, q_203_158, q_203_159, q_203_160, q_203_161, q_203_162, q_203_163, q_203_164, q_203_165, q_203_166, q_203_167, q_203_168, q_203_169, q_203_171, q_203_172, q_203_173, q_203_174, q_203_175, q_203_176, q_203_177, q_203_178, q_203_181, q_203_182, q_203_183, q_203_186, q_203_189, o_is, o_ob, ↓reduceIte, k_cr, k_ci, k_oR, k_oN, k_aR, k_aN, and_true, true_and, and_self, eq_self, Nat.reduceLT, Nat.reduceLeDiff, Nat.reduceEqDiff, Nat.reduceAdd, Nat.reduceMul, Bool.true_eq_false, Bool.false_eq_true, Nat.add_sub_cancel, Nat.not_lt_zero, Nat.zero_le, k_sub, k_sb1, k_r, k_n, k_ret, k_t1, k_t0, k_nr, k_nn, k_z0, k_z1, k_zb, x_okI, lit_nI, k_in, k_cl, k_lt, k_le, k_eq, k_neg, nI_add, nI_mul, k_clt, k_cgt, k_cle, k_cge, k_ceq, bI_0, k_sh8, ne_eq, Nat.add_eq_zero_iff, Nat.one_ne_zero, Nat.succ_ne_zero, and_false, false_and, not_false_eq_true, not_true_eq_false, ite_true, ite_false, if_true, if_false, r0, r1, iX, iM, e1, e2]
