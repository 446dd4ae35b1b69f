/-! The class: inherit, as functions; a new Move. -/
theorem msT.ok {T : gS} {tg : Int32} {ms : mS} (h : msT T tg ms) : mvOK T ∧ (∀ i, mAh T i = ms.1 i) ∧ ∀ i, mDr T i = ms.2.2.2.2.1 i := by
  have b : ∀ x : Bool, decide (¬ bI x = nI 0) = x := by
    intro x
    cases x <;> decide
  have e4 : ∀ i, mAh T i = ms.1 i := by
    intro i
    unfold mAh
    rw [h.2.1 i trivial]
    exact b _
  have e5 : ∀ i, mDr T i = ms.2.2.2.2.1 i := by
    intro i
    unfold mDr
    rw [h.2.2.2.2.1 i trivial]
    exact b _
  refine ⟨⟨fun i => ?_, fun i => ?_⟩, e4, e5⟩
  · rw [e4]
    exact h.2.1 i trivial
  · rw [e5]
    exact h.2.2.2.2.1 i trivial
/-- the old MEMBER that new MEMBER i takes by its NAME -/
def ihW (eo en : kE) (nm : Nat → Int64) (ms : mS) (i : Nat) : Option Nat := if ms.1 i = true then none else (match eo.1 (nm i) with
  | none => none
  | some s => if ms.2.2.2.2.1 s = false ∧ eo.2.1 s = en.2.1 i then some s else none)
def ihM (eo en : kE) (nm : Nat → Int64) (ms : mS) (i : Nat) : mS := slCopy ms (some i) (ihW eo en nm ms i)
def ihP (eo en : kE) (nm : Nat → Int64) : Nat → Nat → mS → mS
  | 0, _, ms => ms
  | k + 1, i, ms => ihP eo en nm k (i + 1) (ihM eo en nm ms i)
theorem msT.ih1 {T SO SN : gS} {tg : Int32} {ms : mS} {nO nN i : Nat} (h : msT T tg ms) : msT (ihS T SO SN nO i) tg (ihM (eC SO nO) (eC SN nN) (sL SN 1) ms i) := by
  obtain ⟨_, e4, e5⟩ := h.ok
  have ew : ihO T SO SN nO i = ihW (eC SO nO) (eC SN nN) (sL SN 1) ms i := by
    unfold ihO ihW
    rw [e4 i]
    split
    · rfl
    · show (match fnd (sL SO 1) (sL SN 1 i) nO with
        | none => none
        | some s => if mDr T s = false ∧ kRow SO s = kRow SN i then some s else none) = (match fnd (sL SO 1) (sL SN 1 i) nO with
        | none => none
        | some s => if ms.2.2.2.2.1 s = false ∧ kRow SO s = kRow SN i then some s else none)
      cases fnd (sL SO 1) (sL SN 1 i) nO with
      | none => rfl
      | some s =>
        show (if mDr T s = false ∧ kRow SO s = kRow SN i then some s else none) = (if ms.2.2.2.2.1 s = false ∧ kRow SO s = kRow SN i then some s else none)
        rw [e5 s]
  unfold ihS ihM
  rw [ew]
  cases ihW (eC SO nO) (eC SN nN) (sL SN 1) ms i with
  | none => exact h
  | some s => exact h.copy i s
theorem msT.ih {SO SN : gS} {tg : Int32} {nO nN : Nat} : ∀ (k i : Nat) (T : gS) (ms : mS), msT T tg ms → msT (ihF SO SN nO k i T) tg (ihP (eC SO nO) (eC SN nN) (sL SN 1) k i ms)
  | 0, i, T, ms, h => h
  | k + 1, i, T, ms, h => msT.ih k (i + 1) _ _ h.ih1
theorem n_inherit (d : Nat) {Q P κ A κN : Nat} {SP SK SN T : gS} {nO nN N : Nat} {p : pP} {h : xH} {S : gS} {tg : Int32} {ms : mS} (hs : cS2 Q P κ A κN SP SK SN nO nN N p) (hh : cH2 P κ A κN SP SK SN T h) (hm : msT T tg ms) : ∃ T', xm (d + 2) 54 [.ref A, .ref κ, .ref κN] (oh 4 h Q S) = some (none, oh 4 (oh 3 h A T') Q S) ∧ msT T' tg (ihP (eC SK nO) (eC SN nN) (sL SN 1) nN 0 ms) := by
  have HA : isB 3 (oh 4 h Q S) A T := hh.1.2.2.frame hs.1.2.2.1
  have e1 := c_inherit_loop d (oh 4 h Q S) A κ κN nO nN SK SN (hh.1.2.1.frame hs.1.2.1) (hh.2.frame hs.2.1) hs.1.2.2.2.2.1 hs.2.2.1 hs.1.2.2.2.2.2.1 hs.2.2.2 nN 0 T (0, .null) (by omega) hm.ok.1
  rw [show oh 3 (oh 4 h Q S) A T = oh 4 h Q S from HA] at e1
  refine ⟨ihF SK SN nO nN 0 T, ?_, hm.ih nN 0 T ms⟩
  rw [← oh_comm hs.1.2.2.1.symm, E_54 _ _ _ _ _ rfl rfl rfl]
  simp (disch := omega) only [q_54_0, q_54_1, og_1_4, og_3_4, or_3_4, ow_3_4, og_1_1, or_1_1, ow_1_1, og_3_5, or_3_5, ow_3_5, o_is, o_ob, ofs_len1, ofs_len3, ↓reduceIte, k_cr, k_ci, k_oR, k_oN, k_aR, k_aN, and_true, true_and, and_self, eq_self, Nat.reduceLT, Nat.reduceLeDiff, Nat.reduceEqDiff, Nat.reduceAdd, Nat.reduceMul, Bool.true_eq_false, Bool.false_eq_true, Nat.add_sub_cancel, Nat.not_lt_zero, Nat.zero_le, k_sub, k_sb1, k_r, k_n, k_ret, k_t1, k_t0, k_nr, k_nn, k_z0, k_z1, k_zb, x_okI, lit_nI, k_in, k_cl, k_lt, k_le, k_eq, k_neg, nI_add, nI_mul, k_clt, k_cgt, k_cle, k_cge, k_ceq, bI_0, k_sh8, ne_eq, Nat.add_eq_zero_iff, Nat.one_ne_zero, Nat.succ_ne_zero, and_false, false_and, not_false_eq_true, not_true_eq_false, ite_true, ite_false, if_true, if_false, e1]
/-- a fresh Move -/
def ms0 : mS := (fun _ => false, fun _ => none, fun _ => 0, fun _ => 0, fun _ => false, fun _ => false)
theorem msT_new (t : Int32) : msT (mvS t 8) t ms0 := by
  refine ⟨rfl, fun i _ => ?_, fun i hi => ?_, fun i _ => ⟨?_, ?_⟩, fun i _ => ?_, fun i _ => ?_⟩
  · show (mvS t 8).2.2.1 4 i = bI false
    unfold mvS rA va_up
    rfl
  · show (mvS t 8).2.2.1 1 i = -nI 1
    unfold mvS rA va_up
    show fillF (fun _ => nI 0) (fun _ => -nI 1) 0 8 i = -nI 1
    unfold fillF
    rw [if_pos ⟨Nat.zero_le _, by omega⟩]
  · rfl
  · rfl
  · rfl
  · rfl
