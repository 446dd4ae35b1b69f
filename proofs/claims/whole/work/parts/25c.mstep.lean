/-! The reference: a whole step. -/
theorem nI_sur (x : Int32) : ∃ a, x = nI a := ⟨x.toBitVec.toNat, by
  unfold nI
  apply Int32.toBitVec_inj.mp
  show x.toBitVec = BitVec.ofNat 32 x.toBitVec.toNat
  rw [BitVec.ofNat_toNat, BitVec.setWidth_eq]⟩
section
variable {α β : Type}
def gm (φ : α → β) (u : Int64 × α) : Int64 × β := (u.1, φ u.2)
theorem insL_map (φ : α → β) (x : Int64 × α) (L : List (Int64 × α)) : insL (gm φ x) (L.map (gm φ)) = (insL x L).map (gm φ) := by
  have ep : insP (gm φ x) (L.map (gm φ)) = insP x L := by
    unfold insP
    rw [List.length_map]
    refine insF_ex _ (fun i _ => ?_)
    unfold kfL
    rw [List.getElem?_map]
    cases L[i]? <;> rfl
  unfold insL
  rw [ep, List.map_append, List.map_cons, List.map_take, List.map_drop]
theorem srt_map (φ : α → β) : ∀ (L A : List (Int64 × α)), srt (L.map (gm φ)) (A.map (gm φ)) = (srt L A).map (gm φ)
  | [], A => rfl
  | x :: L, A => by
    show srt (L.map (gm φ)) (insL (gm φ x) (A.map (gm φ))) = (srt L (insL x A)).map (gm φ)
    rw [insL_map, srt_map φ L]
def gm2 (φ : α → β) (u : (Int64 × α) × (Int64 × α)) : (Int64 × β) × (Int64 × β) := (gm φ u.1, gm φ u.2)
theorem rdp_map (φ : α → β) : ∀ (L : List (Int64 × α)) (st : Option ((Int64 × α) × (Int64 × α))), rdp (L.map (gm φ)) (st.map (gm2 φ)) = (rdp L st).map (gm2 φ)
  | [], st => rfl
  | x :: L, st => by
    show rdp (L.map (gm φ)) (rdQ (gm φ x) ((L.map (gm φ)).find? (fun y => decide (y.1 = (gm φ x).1))) (st.map (gm2 φ))) = (rdp L (rdQ x (L.find? (fun y => decide (y.1 = x.1))) st)).map (gm2 φ)
    rw [← rdp_map φ L]
    congr 1
    rw [List.find?_map]
    show rdQ (gm φ x) ((L.find? (fun y => decide (y.1 = x.1))).map (gm φ)) (st.map (gm2 φ)) = _
    cases L.find? (fun y => decide (y.1 = x.1)) with
    | none => rfl
    | some y =>
      cases st with
      | none => rfl
      | some f =>
        show (if f.1.1 ≤ x.1 then some (gm2 φ f) else some (gm φ x, gm φ y)) = (if f.1.1 ≤ x.1 then some f else some (x, y)).map (gm2 φ)
        split <;> rfl
theorem rdp_mem {W : List (Int64 × α)} : ∀ (L : List (Int64 × α)) (st : Option ((Int64 × α) × (Int64 × α))), (∀ x, x ∈ L → x ∈ W) → (∀ f, st = some f → f.1 ∈ W ∧ f.2 ∈ W) → ∀ f, rdp L st = some f → f.1 ∈ W ∧ f.2 ∈ W
  | [], st, hL, hs, f, h => hs f h
  | x :: L, st, hL, hs, f, h => by
    refine rdp_mem L (rdQ x (L.find? (fun y => decide (y.1 = x.1))) st) (fun y hy => hL y (List.mem_cons_of_mem _ hy)) (fun g hg => ?_) f h
    cases hq : L.find? (fun y => decide (y.1 = x.1)) with
    | none =>
      rw [hq] at hg
      exact hs g hg
    | some y =>
      have hy := hL y (List.mem_cons_of_mem _ (List.mem_of_find?_eq_some hq))
      have hx := hL x List.mem_cons_self
      rw [hq] at hg
      cases st with
      | none =>
        cases hg
        exact ⟨hx, hy⟩
      | some f2 =>
        have hg : (if f2.1.1 ≤ x.1 then some f2 else some (x, y)) = some g := hg
        split at hg
        · exact hs g hg
        · cases hg
          exact ⟨hx, hy⟩
theorem insL_mem {x y : Int64 × α} {L : List (Int64 × α)} : y ∈ insL x L ↔ y = x ∨ y ∈ L := by
  unfold insL
  rw [List.mem_append, List.mem_cons]
  have : y ∈ L ↔ y ∈ L.take (insP x L) ∨ y ∈ L.drop (insP x L) := by
    rw [← List.mem_append, List.take_append_drop]
  rw [this]
  constructor
  · rintro (h | h | h)
    · exact Or.inr (Or.inl h)
    · exact Or.inl h
    · exact Or.inr (Or.inr h)
  · rintro (h | h | h)
    · exact Or.inr (Or.inl h)
    · exact Or.inl h
    · exact Or.inr (Or.inr h)
theorem srt_mem {y : Int64 × α} : ∀ (L A : List (Int64 × α)), y ∈ srt L A ↔ y ∈ L ∨ y ∈ A
  | [], A => by
    show y ∈ A ↔ _
    exact ⟨Or.inr, fun h => h.elim (fun z => absurd z List.not_mem_nil) id⟩
  | x :: L, A => by
    show y ∈ srt L (insL x A) ↔ _
    rw [srt_mem L, insL_mem, List.mem_cons]
    constructor
    · rintro (h | h | h)
      · exact Or.inl (Or.inr h)
      · exact Or.inl (Or.inl h)
      · exact Or.inr h
    · rintro ((h | h) | h)
      · exact Or.inr (Or.inl h)
      · exact Or.inl h
      · exact Or.inr (Or.inr h)
theorem srt_len : ∀ (L A : List (Int64 × α)), (srt L A).length = L.length + A.length
  | [], A => (Nat.zero_add _).symm
  | x :: L, A => by
    show (srt L (insL x A)).length = _
    rw [srt_len L, insL_len, List.length_cons]
    omega
end
/-- with their places -/
def zp : List aX → Nat → List (Int64 × (Nat × aX))
  | [], _ => []
  | x :: L, i => (x.1, (i, x)) :: zp L (i + 1)
theorem zp_mem : ∀ (L : List aX) (i : Nat) (u : Int64 × (Nat × aX)), u ∈ zp L i → ∃ j, L[j]? = some u.2.2 ∧ u.2.1 = i + j
  | [], i, u, h => absurd h List.not_mem_nil
  | x :: L, i, u, h => by
    rcases List.mem_cons.mp h with q | q
    · subst q
      exact ⟨0, rfl, rfl⟩
    · obtain ⟨j, h1, h2⟩ := zp_mem L (i + 1) u q
      exact ⟨j + 1, h1, by rw [h2]; omega⟩
theorem zp_k {f : Nat → Int64} : ∀ (L : List aX) (i : Nat), (∀ j x, L[j]? = some x → f (i + j) = x.1) → kyL f L.length i = (zp L i).map (gm (fun u => u.1))
  | [], i, h => rfl
  | x :: L, i, h => by
    show (f i, i) :: kyL f L.length (i + 1) = (x.1, i) :: (zp L (i + 1)).map (gm (fun u => u.1))
    rw [zp_k L (i + 1) (fun j y hj => by
      have := h (j + 1) y hj
      rw [show i + (j + 1) = i + 1 + j by omega] at this
      exact this), show f i = x.1 from h 0 x rfl]
theorem zp_x : ∀ (L : List aX) (i : Nat), L = (zp L i).map (gm (fun u => u.2.2))
  | [], i => rfl
  | x :: L, i => by
    show x :: L = (x.1, x.2) :: (zp L (i + 1)).map (gm (fun u => u.2.2))
    rw [← zp_x L (i + 1)]
/-- a VALUE of the reference, by what it is -/
def rvX (u : Int64 × Nat × vW) : Int32 × (Nat → Int32) × (Nat → Int64) := (nI u.2.1, fun i => if i < 8 then nI (u.2.2.2.1 i) else nI 0, fun i => if i < 64 then u.2.2.2.2 (i / 8) (i % 8) else 0)
theorem wkV.rv {S : gS} {b n v : Nat} {x : aX} (h : wkV S b x.2.2.1 n v x.2.2.2) (hk : x.2.2.2.1 = x.1) : rvS S v = gm rvX x := by
  obtain ⟨h1, h2, h3, h4, h5, h6, h7, h8, h9⟩ := h
  unfold rvS gm rvX
  rw [h7, hk, h6]
  congr 1
  congr 1
  congr 1
  · funext i
    by_cases c : i < 8
    · rw [if_pos c, if_pos c, (h8 i c).1]
    · rw [if_neg c, if_neg c]
  · funext i
    by_cases c : i < 64
    · rw [if_pos c, if_pos c]
      have := h9 (i / 8) (i % 8) (by omega) (by omega)
      rw [show 64 * v + 8 * (i / 8) + i % 8 = 64 * v + i by omega] at this
      exact this
    · rw [if_neg c, if_neg c]
theorem wkV.of {S : gS} {b n v : Nat} {x : aX} (h1 : b < 8) (h2 : x.2.2.1 < 6) (h3 : sA S 2 (6 * b + x.2.2.1) = nI n) (h4 : n ≤ 8) (h5 : v < 180) (hk : x.2.2.2.1 = x.1) (h8 : ∀ m, m < 8 → x.2.2.2.2.1 m ≤ 8) (he : rvS S v = gm rvX x) : wkV S b x.2.2.1 n v x.2.2.2 := by
  have e1 := (Prod.mk.inj he).1
  have e2 := Prod.mk.inj (Prod.mk.inj he).2
  have e3 := Prod.mk.inj e2.2
  refine ⟨h1, h2, h3, h4, h5, e2.1, e1.trans hk.symm, fun m hm => ⟨?_, h8 m hm⟩, fun m k hm hk => ?_⟩
  · have := congrFun e3.1 m
    have this : (if m < 8 then sA S 10 (8 * v + m) else nI 0) = (if m < 8 then nI (x.2.2.2.2.1 m) else nI 0) := this
    rw [if_pos hm, if_pos hm] at this
    exact this
  · have := congrFun e3.2 (8 * m + k)
    have this : (if 8 * m + k < 64 then sL S 11 (64 * v + (8 * m + k)) else 0) = (if 8 * m + k < 64 then x.2.2.2.2.2 ((8 * m + k) / 8) ((8 * m + k) % 8) else 0) := this
    rw [if_pos (by omega), if_pos (by omega), show (8 * m + k) / 8 = m by omega, show (8 * m + k) % 8 = k by omega] at this
    rw [Nat.add_assoc]
    exact this
def lsK (f : Nat → rvT) : Nat → Nat → List rvT
  | 0, _ => []
  | k + 1, i => f i :: lsK f k (i + 1)
theorem lsK_cg {f g : Nat → rvT} : ∀ (k i : Nat), (∀ j, i ≤ j → f j = g j) → lsK f k i = lsK g k i
  | 0, i, h => rfl
  | k + 1, i, h => by
    show f i :: lsK f k (i + 1) = g i :: lsK g k (i + 1)
    rw [h i (Nat.le_refl _), lsK_cg k (i + 1) (fun j hj => h j (by omega))]
theorem lsK_x {f : Nat → rvT} : ∀ (L : List aX) (i : Nat), (∀ j x, L[j]? = some x → f (i + j) = gm rvX x) → lsK f L.length i = L.map (gm rvX)
  | [], i, h => rfl
  | x :: L, i, h => by
    show f i :: lsK f L.length (i + 1) = gm rvX x :: L.map (gm rvX)
    rw [lsK_x L (i + 1) (fun j y hj => by
      have := h (j + 1) y hj
      rw [show i + (j + 1) = i + 1 + j by omega] at this
      exact this), show f i = gm rvX x from h 0 x rfl]
def vl7 (k : Nat) : Bool := decide (k = 7) || decide (k = 8) || decide (k = 9) || decide (k = 10) || decide (k = 11)
theorem rvS_fr {P : Nat → Bool} {S T : gS} (h : fr P S T) (h8 : P 8 = false) (h9 : P 9 = false) (h10 : P 10 = false) (h11 : P 11 = false) (v : Nat) : rvS T v = rvS S v := by
  unfold rvS
  rw [(h 8 h8).2.2.2.1, (h 9 h9).2.2.1, (h 10 h10).2.2.1, (h 11 h11).2.2.2.1]
theorem pt_loop (d : Nat) (h : xH) (M : Nat) {N : Nat} (hN : N ≤ 60) {f t number l4 : Int32} {l6 l7 l8 : Nat × Value} : ∀ (k i : Nat) (S : gS), i + k = N → sA S 7 2 = nI N → sA S 7 1 = nI i → ∃ S', xrun (d + 2) 173 263 [(1, .ref M), (1, .int f), (1, .int t), (1, .int number), (1, .int l4), (1, .int (nI (120 + i))), l6, l7, l8] [] (oh 11 h M S) = some (some (.int (nI 1)), oh 11 h M S') ∧ fr vl7 S S' ∧ sA S' 7 1 = nI N ∧ sA S' 7 2 = nI N ∧ sA S' 7 0 = sA S 7 0 ∧ rvL S' 60 N = srt (lsK (rvS S) k (120 + i)) (rvL S 60 i) ∧ ∀ q, (q < 60 ∨ 120 ≤ q) → rvS S' q = rvS S q
  | 0, i, S, hi, h72, h71 => by
    have hi : i = N := hi
    subst hi
    have hle : 120 + i ≤ 120 + i := Nat.le_refl _
    refine ⟨S, ?_, fr.rfl, h71, h72, rfl, rfl, fun _ _ => rfl⟩
    rw [q_173_263]
    simp (disch := omega) only [q_173_265, q_173_267, q_173_268, q_173_271, q_173_272, q_173_273, q_173_274, q_173_277, q_173_278, q_173_280, q_173_283, q_173_286, q_173_289, q_173_290, og_11_13, or_11_13, ow_11_13, og_11_29, op_11_29, og_11_28, or_11_28, ow_11_28, og_11_14, or_11_14, ow_11_14, og_11_7, or_11_7, ow_11_7, og_11_9, or_11_9, ow_11_9, og_11_36, or_11_36, ow_11_36, og_11_63, op_11_63, og_11_1, or_11_1, ow_11_1, og_11_39, or_11_39, ow_11_39, og_11_17, o_is, o_ob, ofs_len11, ↓reduceIte, k_cr, k_ci, k_oR, k_oN, k_aR, k_aN, and_true, true_and, and_self, eq_self, Nat.reduceLT, Nat.reduceLeDiff, Nat.reduceEqDiff, Nat.reduceAdd, Nat.reduceMul, Bool.true_eq_false, Bool.false_eq_true, Nat.add_sub_cancel, Nat.not_lt_zero, Nat.zero_le, k_sub, k_sb1, k_r, k_n, k_ret, k_t1, k_t0, k_nr, k_nn, k_z0, k_z1, k_zb, x_okI, lit_nI, k_in, k_cl, k_lt, k_le, k_eq, k_neg, nI_add, nI_mul, k_clt, k_cgt, k_cle, k_cge, k_ceq, bI_0, k_sh8, ne_eq, Nat.add_eq_zero_iff, Nat.one_ne_zero, Nat.succ_ne_zero, and_false, false_and, not_false_eq_true, not_true_eq_false, ite_true, ite_false, if_true, if_false, h72, hle]
  | k + 1, i, S, hi, h72, h71 => by
    have hle : ¬ 120 + N ≤ 120 + i := by omega
    obtain ⟨S1, e1, f1, r1, q1⟩ := m_putSorted d h M S (120 + i) i (by omega) (by omega) h71
    have e7 : sA S1 7 = sA S 7 := (f1 7 (by decide)).2.2.1
    have f7 : fr vl7 S (uA S1 7 1 (nI (i + 1))) := (f1.mono (fun k hk => by
      unfold vl7 at hk
      unfold vlP
      simp only [Bool.or_eq_false_iff, decide_eq_false_iff_not] at hk ⊢
      omega)).uA (by decide)
    have rv : ∀ v, rvS (uA S1 7 1 (nI (i + 1))) v = rvS S1 v := fun v => rvS_fr (P := fun k => decide (k = 7)) (fr.rfl.uA (by decide)) rfl rfl rfl rfl v
    have rvl : ∀ o n, rvL (uA S1 7 1 (nI (i + 1))) o n = rvL S1 o n := fun o n => by
      unfold rvL
      congr 1
    obtain ⟨S', i1, i2, i3, i4, i5, i6, i7⟩ := pt_loop d h M hN (f := f) (t := t) (number := number) (l4 := l4) (l6 := l6) (l7 := l7) (l8 := l8) k (i + 1) (uA S1 7 1 (nI (i + 1))) (by omega) (by
      rw [sA_uA, if_neg (by decide), e7]
      exact h72) (by rw [sA_uA, if_pos ⟨rfl, rfl⟩])
    refine ⟨S', ?_, f7.trans i2, i3, i4, ?_, ?_, fun q hq => ?_⟩
    · rw [← i1, q_173_263]
      simp (disch := omega) only [q_173_265, q_173_267, q_173_268, q_173_271, q_173_272, q_173_273, q_173_274, q_173_277, q_173_278, q_173_280, q_173_283, q_173_286, q_173_289, q_173_290, og_11_13, or_11_13, ow_11_13, og_11_29, op_11_29, og_11_28, or_11_28, ow_11_28, og_11_14, or_11_14, ow_11_14, og_11_7, or_11_7, ow_11_7, og_11_9, or_11_9, ow_11_9, og_11_36, or_11_36, ow_11_36, og_11_63, op_11_63, og_11_1, or_11_1, ow_11_1, og_11_39, or_11_39, ow_11_39, og_11_17, o_is, o_ob, ofs_len11, ↓reduceIte, k_cr, k_ci, k_oR, k_oN, k_aR, k_aN, and_true, true_and, and_self, eq_self, Nat.reduceLT, Nat.reduceLeDiff, Nat.reduceEqDiff, Nat.reduceAdd, Nat.reduceMul, Bool.true_eq_false, Bool.false_eq_true, Nat.add_sub_cancel, Nat.not_lt_zero, Nat.zero_le, k_sub, k_sb1, k_r, k_n, k_ret, k_t1, k_t0, k_nr, k_nn, k_z0, k_z1, k_zb, x_okI, lit_nI, k_in, k_cl, k_lt, k_le, k_eq, k_neg, nI_add, nI_mul, k_clt, k_cgt, k_cle, k_cge, k_ceq, bI_0, k_sh8, ne_eq, Nat.add_eq_zero_iff, Nat.one_ne_zero, Nat.succ_ne_zero, and_false, false_and, not_false_eq_true, not_true_eq_false, ite_true, ite_false, if_true, if_false, h72, hle, e1, Nat.add_assoc]
    · rw [i5, sA_uA, if_neg (by decide), e7]
    · rw [i6, rvl, r1]
      show srt (lsK (rvS (uA S1 7 1 (nI (i + 1)))) k (120 + (i + 1))) (insL (rvS S (120 + i)) (rvL S 60 i)) = srt (lsK (rvS S) k (120 + i + 1)) (insL (rvS S (120 + i)) (rvL S 60 i))
      rw [show 120 + i + 1 = 120 + (i + 1) by omega, lsK_cg (f := rvS (uA S1 7 1 (nI (i + 1)))) (g := rvS S) k (120 + (i + 1)) (fun j hj => by rw [rv]; exact q1 j (by omega))]
    · rw [i7 q hq, rv, q1 q hq]
theorem tx_loop (d : Nat) (h : xH) (M : Nat) (S : gS) {f t number : Int32} {n r : Nat} (hn : n ≤ 700) (hr : r < 64) (h29 : sI S 29 = nI n) : ∀ (k i : Nat), i + k = n → xrun d 173 22 [(1, .ref M), (1, .int f), (1, .int t), (1, .int number), (1, .int (nI r)), (1, .int (nI i)), (0, .null), (0, .null), (0, .null)] [] (oh 11 h M (rA S 28 (fillF (sA S 28) (fun q => sA S 14 (700 * r + q)) 0 i))) = xrun d 173 58 [(1, .ref M), (1, .int f), (1, .int t), (1, .int number), (1, .int (nI r)), (1, .int (nI n)), (0, .null), (0, .null), (0, .null)] [] (oh 11 h M (rA S 28 (fillF (sA S 28) (fun q => sA S 14 (700 * r + q)) 0 n)))
  | 0, i, hk => by
    have : i = n := by omega
    subst this
    have h2 : i ≤ i := Nat.le_refl _
    have e29 : sI (rA S 28 (fillF (sA S 28) (fun q => sA S 14 (700 * r + q)) 0 i)) 29 = nI i := h29
    rw [q_173_22]
    simp (disch := omega) only [q_173_0, q_173_2, q_173_3, q_173_4, q_173_5, q_173_6, q_173_8, q_173_9, q_173_10, q_173_13, q_173_15, q_173_16, q_173_19, q_173_20, q_173_24, q_173_25, q_173_28, q_173_31, q_173_32, q_173_35, q_173_37, q_173_38, q_173_41, q_173_44, q_173_46, q_173_47, q_173_49, q_173_50, q_173_51, q_173_52, q_173_55, og_11_13, or_11_13, ow_11_13, og_11_29, op_11_29, og_11_28, or_11_28, ow_11_28, og_11_14, or_11_14, ow_11_14, og_11_7, or_11_7, ow_11_7, og_11_9, or_11_9, ow_11_9, og_11_36, or_11_36, ow_11_36, og_11_63, op_11_63, og_11_1, or_11_1, ow_11_1, og_11_39, or_11_39, ow_11_39, og_11_17, o_is, o_ob, ofs_len11, ↓reduceIte, k_cr, k_ci, k_oR, k_oN, k_aR, k_aN, and_true, true_and, and_self, eq_self, Nat.reduceLT, Nat.reduceLeDiff, Nat.reduceEqDiff, Nat.reduceAdd, Nat.reduceMul, Bool.true_eq_false, Bool.false_eq_true, Nat.add_sub_cancel, Nat.not_lt_zero, Nat.zero_le, k_sub, k_sb1, k_r, k_n, k_ret, k_t1, k_t0, k_nr, k_nn, k_z0, k_z1, k_zb, x_okI, lit_nI, k_in, k_cl, k_lt, k_le, k_eq, k_neg, nI_add, nI_mul, k_clt, k_cgt, k_cle, k_cge, k_ceq, bI_0, k_sh8, ne_eq, Nat.add_eq_zero_iff, Nat.one_ne_zero, Nat.succ_ne_zero, and_false, false_and, not_false_eq_true, not_true_eq_false, ite_true, ite_false, if_true, if_false, h2, e29]
  | k + 1, i, hk => by
    have h8 : ¬ n ≤ i := by omega
    have ih := tx_loop d h M S (f := f) (t := t) (number := number) hn hr h29 k (i + 1) (by omega)
    have hu : uA (rA S 28 (fillF (sA S 28) (fun q => sA S 14 (700 * r + q)) 0 i)) 28 i (sA S 14 (700 * r + i)) = rA S 28 (fillF (sA S 28) (fun q => sA S 14 (700 * r + q)) 0 (i + 1)) := by
      rw [uA_rA]
      have := fillF_s (sA S 28) (fun q => sA S 14 (700 * r + q)) 0 i
      rw [Nat.zero_add] at this
      rw [this]
    have e14 : sA (rA S 28 (fillF (sA S 28) (fun q => sA S 14 (700 * r + q)) 0 i)) 14 = sA S 14 := rfl
    have e29 : sI (rA S 28 (fillF (sA S 28) (fun q => sA S 14 (700 * r + q)) 0 i)) 29 = nI n := h29
    rw [← hu] at ih
    rw [q_173_22]
    simp (disch := omega) only [q_173_0, q_173_2, q_173_3, q_173_4, q_173_5, q_173_6, q_173_8, q_173_9, q_173_10, q_173_13, q_173_15, q_173_16, q_173_19, q_173_20, q_173_24, q_173_25, q_173_28, q_173_31, q_173_32, q_173_35, q_173_37, q_173_38, q_173_41, q_173_44, q_173_46, q_173_47, q_173_49, q_173_50, q_173_51, q_173_52, q_173_55, og_11_13, or_11_13, ow_11_13, og_11_29, op_11_29, og_11_28, or_11_28, ow_11_28, og_11_14, or_11_14, ow_11_14, og_11_7, or_11_7, ow_11_7, og_11_9, or_11_9, ow_11_9, og_11_36, or_11_36, ow_11_36, og_11_63, op_11_63, og_11_1, or_11_1, ow_11_1, og_11_39, or_11_39, ow_11_39, og_11_17, o_is, o_ob, ofs_len11, ↓reduceIte, k_cr, k_ci, k_oR, k_oN, k_aR, k_aN, and_true, true_and, and_self, eq_self, Nat.reduceLT, Nat.reduceLeDiff, Nat.reduceEqDiff, Nat.reduceAdd, Nat.reduceMul, Bool.true_eq_false, Bool.false_eq_true, Nat.add_sub_cancel, Nat.not_lt_zero, Nat.zero_le, k_sub, k_sb1, k_r, k_n, k_ret, k_t1, k_t0, k_nr, k_nn, k_z0, k_z1, k_zb, x_okI, lit_nI, k_in, k_cl, k_lt, k_le, k_eq, k_neg, nI_add, nI_mul, k_clt, k_cgt, k_cle, k_cge, k_ceq, bI_0, k_sh8, ne_eq, Nat.add_eq_zero_iff, Nat.one_ne_zero, Nat.succ_ne_zero, and_false, false_and, not_false_eq_true, not_true_eq_false, ite_true, ite_false, if_true, if_false, h8, e14, e29]
    exact ih
