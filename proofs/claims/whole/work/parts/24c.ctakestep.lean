/-! The class: takeStep. -/
theorem tkF.k {G G' : gG} {h h' : xH} {g Kc R m m' : Nat} (H : tkF G G' h h' g Kc R m m') {q : Nat} (hq : q < h.2.2.1) (h1 : (G q).1 ≠ g) (h2 : (G q).1 ≠ 0) : h'.1 q = h.1 q := H.2.1 q hq h1 (fun z => h2 (by rw [z])) (fun z => h2 (by rw [z]))
theorem tkF.n {G G' : gG} {h h' : xH} {g Kc R m m' : Nat} (H : tkF G G' h h' g Kc R m m') : h.2.2.1 ≤ h'.2.2.1 := by
  have a := H.2.2.2.1
  have b := H.2.2.2.2.1
  omega
def tsR (SC SC' : gS) (x y n' i : Nat) (P : aX → gS → Prop) (SVs' : Nat → gS) (A : List aX) (run : Option xR) (nxt : Nat × Value → Option xR) (h' : xH) : rfT ⊕ (List aX × Nat × Nat) → Prop
  | .inl q => (∃ SC0, fr cF SC SC0 ∧ sI SC0 12 = sI SC 12 ∧ SC' = rfC SC0 (nI q.1) (oI q.2.1) (oI q.2.2.1) q.2.2.2.1 q.2.2.2.2) ∧ run = some (some (.int (nI 0)), h')
  | .inr r => fr cF SC SC' ∧ sI SC' 12 = sI SC 12 ∧ sI SC' 10 = nI (x + r.2.1) ∧ sI SC' 11 = nI (y + r.2.2) ∧ stL (fun S x => P x S) SVs' n' (srt r.1 A) ∧ n' ≤ i ∧ ∃ l6, run = nxt l6
theorem ts_loop (d : Nat) {Kc R ρ lo hi β2 g2 g n1 n2 σ σ1 nf mf : Nat} {dr : Bool} {SB2 SS1 : gS} {PM : pM} {C : List cT} {mc : Nat} {κ1 κ2 : Nat → Nat} {SK1 SK2 : Nat → gS} {ν1 : Nat → Nat} {SV1 : Nat → gS} {z : sE} {number : Int32} (hN : tkN n2 SK2 z) (hg : 1 < g ∧ g < 5) (hg2 : 1 < g2 ∧ g2 < 5) (hgg : g ≠ g2) : ∀ (V : List (Nat × vW)) (i n m x y : Nat) (G : gG) (h : xH) (SC T SS : gS) (ν : Nat → Nat) (SVs : Nat → gS) (A : List aX) (l6 : Nat × Value), i + V.length = nf → (∀ j v, V[j]? = some v → svO n1 κ1 C PM n2 z (SV1 (i + j)) v) → hB G 0 6 h Kc SC → hB G 0 5 h R T → sR SC 0 = .ref R → tkB G h ρ lo hi β2 SB2 n2 κ2 SK2 (zm2 z) PM C mc → tkO G h n1 κ1 SK1 z → cSt g2 G h σ1 SS1 nf mf ν1 SV1 → cSt g G h σ SS n m ν SVs → stL (svA n2 κ2 (zm2 z)) SVs n A → n ≤ i → sI SC 9 = bI dr → sI SC 10 = nI x → sI SC 11 = nI y → ∃ G' h' SS' n' m' ν' SVs' SC' T', tkF G G' h h' g Kc R m m' ∧ hB G' 0 6 h' Kc SC' ∧ hB G' 0 5 h' R T' ∧ cSt g G' h' σ SS' n' m' ν' SVs' ∧ sI SS' 1 = sI SS 1 ∧ tsR SC SC' x y n' nf (fun x S => svA n2 κ2 (zm2 z) S x) SVs' A (xrun (d + 6) 78 9 [(1, .ref Kc), (1, .ref σ1), (1, .ref σ), (1, .ref ρ), (1, .int number), (1, .int (nI i)), l6, (0, .null)] [] h) (fun l6 => xrun (d + 6) 78 53 [(1, .ref Kc), (1, .ref σ1), (1, .ref σ), (1, .ref ρ), (1, .int number), (1, .int (nI 1)), l6, (0, .null)] [] h') h' (stF z dr V)
  | [], i, n, m, x, y, G, h, SC, T, SS, ν, SVs, A, l6, hi, hV, HC, HR, rC, hT, hO, h1, hS, hL, hn, h9, hx, hy => by
    have H1 := h1.1.1
    have k2 := h1.2.1
    have n60 : nf ≤ 60 := Nat.le_trans h1.2.2.1 h1.2.2.2.1
    have hi : i = nf := hi
    have hle : nf ≤ i := by omega
    refine ⟨G, h, SS, n, m, ν, SVs, SC, T, tkF.rfl, HC, HR, hS, rfl, fr.rfl, rfl, hx, hy, hL, by omega, l6, ?_⟩
    rw [q_78_9]
    simp (disch := omega) only [q_78_0, q_78_1, q_78_3, q_78_6, q_78_7, q_78_11, q_78_12, q_78_15, q_78_18, q_78_19, q_78_21, q_78_24, q_78_26, q_78_28, q_78_31, q_78_32, q_78_34, q_78_35, q_78_36, q_78_39, q_78_42, q_78_43, q_78_44, q_78_47, q_78_50, q_78_51, og_6_12, op_6_12, og_7_2, og_9_2, og_9_3, o_is, o_ob, ofs_len6, ofs_len7, ofs_len9, q_78_0, q_78_1, q_78_3, q_78_6, q_78_7, q_78_11, q_78_12, q_78_15, q_78_18, q_78_19, q_78_21, q_78_24, q_78_26, q_78_28, q_78_31, q_78_32, q_78_34, q_78_35, q_78_36, q_78_39, q_78_42, q_78_43, q_78_44, q_78_47, q_78_50, q_78_51, q_78_55, q_78_56, q_78_59, q_78_62, q_78_63, q_78_65, q_78_66, q_78_67, q_78_70, q_78_72, q_78_73, q_78_75, q_78_78, q_78_80, q_78_82, q_78_85, q_78_87, q_78_90, q_78_92, q_78_95, q_78_97, q_78_100, q_78_101, q_78_104, q_78_105, q_78_106, q_78_107, q_78_108, q_78_110, q_78_113, q_78_115, q_78_118, q_78_121, q_78_122, q_78_125, q_78_128, q_78_129, hg_7_2 H1, h_is H1, h_ob H1, ofs_len7, ↓reduceIte, k_cr, k_ci, k_oR, k_oN, k_aR, k_aN, and_true, true_and, and_self, eq_self, Nat.reduceLT, Nat.reduceLeDiff, Nat.reduceEqDiff, Nat.reduceAdd, Nat.reduceMul, Bool.true_eq_false, Bool.false_eq_true, Nat.add_sub_cancel, Nat.not_lt_zero, Nat.zero_le, k_sub, k_sb1, k_r, k_n, k_ret, k_t1, k_t0, k_nr, k_nn, k_z0, k_z1, k_zb, x_okI, lit_nI, k_in, k_cl, k_lt, k_le, k_eq, k_neg, nI_add, nI_mul, k_clt, k_cgt, k_cle, k_cge, k_ceq, bI_0, k_sh8, ne_eq, Nat.add_eq_zero_iff, Nat.one_ne_zero, Nat.succ_ne_zero, and_false, false_and, not_false_eq_true, not_true_eq_false, ite_true, ite_false, if_true, if_false, k2, hle]
  | v :: V, i, n, m, x, y, G, h, SC, T, SS, ν, SVs, A, l6, hi, hV, HC, HR, rC, hT, hO, h1, hS, hL, hn, h9, hx, hy => by
    have H1 := h1.1.1
    have k2 := h1.2.1
    have n60 : nf ≤ 60 := Nat.le_trans h1.2.2.1 h1.2.2.2.1
    have hi : i + (V.length + 1) = nf := hi
    have hlt : i < nf := by omega
    have hle : ¬ nf ≤ i := by omega
    have im : i < mf := Nat.lt_of_lt_of_le hlt h1.2.2.1
    have eA : xm (d + 6) 79 [.ref σ1, .int (nI i)] h = _ := c_sat (d + 5) h σ1 nf i SS1 ν1 SV1 H1 h1.stOK (by omega)
    rw [if_pos hlt] at eA
    have i7 : ∀ {α : Type} (f : Option α), xis h σ1 7 f = f := fun f => h_is H1 f
    have i6 : ∀ {α : Type} (f : Option α), xis h Kc 6 f = f := fun f => h_is HC.1 f
    obtain ⟨G1, h2, SS2, n', m', ν', SVs', SC', T', b, r1, r2, r3, r4, r5, r6, r7⟩ := c_takeV d HC HR rC hT hO hN (h1.2.2.2.2.1 i im).2 (hV 0 v rfl) hS (by omega) hg hg2 hgg h9 hx hy
    have gk : ∀ q, q < h.2.2.1 → (G q).1 = 1 ∨ (G q).1 = 5 → h2.1 q = h.1 q := fun q hq hc => r2.k hq (by omega) (by omega)
    -- it goes on
    have go : ∀ (l dd : Nat) (A1 : List aX) (f : rfT ⊕ (List aX × Nat × Nat) → rfT ⊕ (List aX × Nat × Nat)), b = 1 → fr cF SC SC' → sI SC' 12 = sI SC 12 → sI SC' 10 = nI (x + l) → sI SC' 11 = nI (y + dd) → stL (svA n2 κ2 (zm2 z)) SVs' n' A1 → n' ≤ i + 1 → (∀ q, f (.inl q) = .inl q) → (∀ r, ∃ L2, f (.inr r) = .inr (L2, l + r.2.1, dd + r.2.2) ∧ srt L2 A = srt r.1 A1) → ∃ G' h' SS' n' m' ν' SVs' SC' T', tkF G G' h h' g Kc R m m' ∧ hB G' 0 6 h' Kc SC' ∧ hB G' 0 5 h' R T' ∧ cSt g G' h' σ SS' n' m' ν' SVs' ∧ sI SS' 1 = sI SS 1 ∧ tsR SC SC' x y n' nf (fun x S => svA n2 κ2 (zm2 z) S x) SVs' A (xrun (d + 6) 78 9 [(1, .ref Kc), (1, .ref σ1), (1, .ref σ), (1, .ref ρ), (1, .int number), (1, .int (nI i)), l6, (0, .null)] [] h) (fun l6 => xrun (d + 6) 78 53 [(1, .ref Kc), (1, .ref σ1), (1, .ref σ), (1, .ref ρ), (1, .int number), (1, .int (nI 1)), l6, (0, .null)] [] h') h' (f (stF z dr V)) := by
      intro l dd A1 f hb f1 f12 f10 f11 hL1 hn1 fi fr1
      rw [hb] at r1
      obtain ⟨G3, h3, SS3, n3, m3, ν3, SV3, SC3, T3, s1, s2, s3, s4, s5, s6⟩ := ts_loop d hN hg hg2 hgg V (i + 1) n' m' (x + l) (y + dd) G1 h2 SC' T' SS2 ν' SVs' A1 (1, .ref (ν1 i)) (by omega) (fun j v hj => by
        have := hV (j + 1) v hj
        rw [show i + (j + 1) = i + 1 + j by omega] at this
        exact this) r3 r4 (((f1 0 (by decide)).2.2.2.2.1).trans rC) (hT.keep r2.1 gk r2.n) (hO.keep r2.1 (fun q hq e => gk q hq (Or.inl e)) r2.n) (h1.keep r2.1 (fun q hq e => r2.k hq (by omega) (by omega)) r2.n) r5 hL1 hn1 (((f1 9 (by decide)).1).trans h9) f10 f11
      have st : xrun (d + 6) 78 9 [(1, .ref Kc), (1, .ref σ1), (1, .ref σ), (1, .ref ρ), (1, .int number), (1, .int (nI i)), l6, (0, .null)] [] h = xrun (d + 6) 78 9 [(1, .ref Kc), (1, .ref σ1), (1, .ref σ), (1, .ref ρ), (1, .int number), (1, .int (nI (i + 1))), (1, .ref (ν1 i)), (0, .null)] [] h2 := by
        rw [q_78_9]
        simp (disch := omega) only [q_78_0, q_78_1, q_78_3, q_78_6, q_78_7, q_78_11, q_78_12, q_78_15, q_78_18, q_78_19, q_78_21, q_78_24, q_78_26, q_78_28, q_78_31, q_78_32, q_78_34, q_78_35, q_78_36, q_78_39, q_78_42, q_78_43, q_78_44, q_78_47, q_78_50, q_78_51, og_6_12, op_6_12, og_7_2, og_9_2, og_9_3, o_is, o_ob, ofs_len6, ofs_len7, ofs_len9, q_78_0, q_78_1, q_78_3, q_78_6, q_78_7, q_78_11, q_78_12, q_78_15, q_78_18, q_78_19, q_78_21, q_78_24, q_78_26, q_78_28, q_78_31, q_78_32, q_78_34, q_78_35, q_78_36, q_78_39, q_78_42, q_78_43, q_78_44, q_78_47, q_78_50, q_78_51, q_78_55, q_78_56, q_78_59, q_78_62, q_78_63, q_78_65, q_78_66, q_78_67, q_78_70, q_78_72, q_78_73, q_78_75, q_78_78, q_78_80, q_78_82, q_78_85, q_78_87, q_78_90, q_78_92, q_78_95, q_78_97, q_78_100, q_78_101, q_78_104, q_78_105, q_78_106, q_78_107, q_78_108, q_78_110, q_78_113, q_78_115, q_78_118, q_78_121, q_78_122, q_78_125, q_78_128, q_78_129, hg_7_2 H1, h_is H1, h_ob H1, ofs_len7, ↓reduceIte, k_cr, k_ci, k_oR, k_oN, k_aR, k_aN, and_true, true_and, and_self, eq_self, Nat.reduceLT, Nat.reduceLeDiff, Nat.reduceEqDiff, Nat.reduceAdd, Nat.reduceMul, Bool.true_eq_false, Bool.false_eq_true, Nat.add_sub_cancel, Nat.not_lt_zero, Nat.zero_le, k_sub, k_sb1, k_r, k_n, k_ret, k_t1, k_t0, k_nr, k_nn, k_z0, k_z1, k_zb, x_okI, lit_nI, k_in, k_cl, k_lt, k_le, k_eq, k_neg, nI_add, nI_mul, k_clt, k_cgt, k_cle, k_cge, k_ceq, bI_0, k_sh8, ne_eq, Nat.add_eq_zero_iff, Nat.one_ne_zero, Nat.succ_ne_zero, and_false, false_and, not_false_eq_true, not_true_eq_false, ite_true, ite_false, if_true, if_false, k2, hle, i7, i6, eA, r1]
      refine ⟨G3, h3, SS3, n3, m3, ν3, SV3, SC3, T3, r2.trans s1, s2, s3, s4, s5.trans r6, ?_⟩
      cases hq : stF z dr V with
      | inl q =>
        rw [hq] at s6
        rw [fi]
        obtain ⟨⟨SC0, z1, z2, z3⟩, z4⟩ := s6
        exact ⟨⟨SC0, f1.trans z1, z2.trans f12, z3⟩, st.trans z4⟩
      | inr r =>
        rw [hq] at s6
        obtain ⟨z1, z2, z3, z4, z5, z6, l7, z7⟩ := s6
        obtain ⟨L2, e1, e2⟩ := fr1 r
        rw [e1]
        refine ⟨f1.trans z1, z2.trans f12, z3.trans (by rw [Nat.add_assoc]), z4.trans (by rw [Nat.add_assoc]), ?_, z6, l7, st.trans z7⟩
        rw [e2]
        exact z5
    have e0 : stF z dr (v :: V) = (match oneV z dr v.1 v.2 with
      | .inl q => .inl (q.1, some v.1, q.2, v.2.1, 0)
      | .inr none => stD (stF z dr V)
      | .inr (some u) => stC (u.1.2.1, v.2.1, u.1.1, u.1.2) u.2 (stF z dr V)) := rfl
    rw [e0]
    cases hq : oneV z dr v.1 v.2 with
    | inl q =>
      rw [hq] at r7
      obtain ⟨u1, u2⟩ := r7
      rw [u1] at r1
      refine ⟨G1, h2, SS2, n', m', ν', SVs', SC', T', r2, r3, r4, r5, r6, ⟨SC, fr.rfl, rfl, u2⟩, ?_⟩
      rw [q_78_9]
      simp (disch := omega) only [q_78_0, q_78_1, q_78_3, q_78_6, q_78_7, q_78_11, q_78_12, q_78_15, q_78_18, q_78_19, q_78_21, q_78_24, q_78_26, q_78_28, q_78_31, q_78_32, q_78_34, q_78_35, q_78_36, q_78_39, q_78_42, q_78_43, q_78_44, q_78_47, q_78_50, q_78_51, og_6_12, op_6_12, og_7_2, og_9_2, og_9_3, o_is, o_ob, ofs_len6, ofs_len7, ofs_len9, q_78_0, q_78_1, q_78_3, q_78_6, q_78_7, q_78_11, q_78_12, q_78_15, q_78_18, q_78_19, q_78_21, q_78_24, q_78_26, q_78_28, q_78_31, q_78_32, q_78_34, q_78_35, q_78_36, q_78_39, q_78_42, q_78_43, q_78_44, q_78_47, q_78_50, q_78_51, q_78_55, q_78_56, q_78_59, q_78_62, q_78_63, q_78_65, q_78_66, q_78_67, q_78_70, q_78_72, q_78_73, q_78_75, q_78_78, q_78_80, q_78_82, q_78_85, q_78_87, q_78_90, q_78_92, q_78_95, q_78_97, q_78_100, q_78_101, q_78_104, q_78_105, q_78_106, q_78_107, q_78_108, q_78_110, q_78_113, q_78_115, q_78_118, q_78_121, q_78_122, q_78_125, q_78_128, q_78_129, hg_7_2 H1, h_is H1, h_ob H1, ofs_len7, ↓reduceIte, k_cr, k_ci, k_oR, k_oN, k_aR, k_aN, and_true, true_and, and_self, eq_self, Nat.reduceLT, Nat.reduceLeDiff, Nat.reduceEqDiff, Nat.reduceAdd, Nat.reduceMul, Bool.true_eq_false, Bool.false_eq_true, Nat.add_sub_cancel, Nat.not_lt_zero, Nat.zero_le, k_sub, k_sb1, k_r, k_n, k_ret, k_t1, k_t0, k_nr, k_nn, k_z0, k_z1, k_zb, x_okI, lit_nI, k_in, k_cl, k_lt, k_le, k_eq, k_neg, nI_add, nI_mul, k_clt, k_cgt, k_cle, k_cge, k_ceq, bI_0, k_sh8, ne_eq, Nat.add_eq_zero_iff, Nat.one_ne_zero, Nat.succ_ne_zero, and_false, false_and, not_false_eq_true, not_true_eq_false, ite_true, ite_false, if_true, if_false, k2, hle, i7, i6, eA, r1]
    | inr o =>
      cases o with
      | none =>
        rw [hq] at r7
        obtain ⟨u1, u2, u3, u4⟩ := r7
        refine go 0 1 A stD u1 ?_ ?_ ?_ ?_ ?_ (by omega) (fun q => rfl) (fun r => ⟨r.1, ?_, rfl⟩)
        · rw [u4]
          exact fr.rfl.uI (by decide)
        · rw [u4]
          rfl
        · rw [u4]
          exact hx
        · rw [u4]
          rfl
        · rw [u2, u3]
          exact hL
        · show Sum.inr (r.1, r.2.1, r.2.2 + 1) = _
          rw [Nat.zero_add, Nat.add_comm]
      | some u =>
        rw [hq] at r7
        obtain ⟨u1, u2, u3, SF, u4, u5⟩ := r7
        refine go u.2 0 (insL (u.1.2.1, v.2.1, u.1.1, u.1.2) A) (stC (u.1.2.1, v.2.1, u.1.1, u.1.2) u.2) u1 ?_ ?_ ?_ ?_ ?_ (by omega) (fun q => rfl) (fun r => ⟨(u.1.2.1, v.2.1, u.1.1, u.1.2) :: r.1, ?_, rfl⟩)
        · rw [u3]
          exact fr.rfl.uI (by decide)
        · rw [u3]
          rfl
        · rw [u3]
          rfl
        · rw [u3]
          exact hy
        · rw [u2, u4]
          exact hL.ins (svA.k _ _ _) u5
        · show Sum.inr ((u.1.2.1, v.2.1, u.1.1, u.1.2) :: r.1, u.2 + r.2.1, r.2.2) = _
          rw [Nat.zero_add]
def taR (h : xH) (Kc : Nat) (SC : gS) : Option (aX × aX) → Option xR
  | none => some (some (.int (nI 1)), h)
  | some f => some (some (.int (nI 0)), oh 6 h Kc (rfC SC (nI 3) (-nI 1) (-nI 1) f.1.2.1 f.2.2.1))
theorem ta_loop (d : Nat) {h : xH} {Kc σ n : Nat} {SC SS : gS} {ν : Nat → Nat} {SV : Nat → gS} {P : gS → aX → Prop} {A : List aX} {l1 l3 : Value} {number : Int32} (HC : isB 6 h Kc SC) (H7 : isB 7 h σ SS) (hS : stOK h SS n ν SV) (hL : stL P SV n A) (hP : ∀ S x, P S x → sJ S 2 = x.1 ∧ sJ S 3 = x.2.1) : ∀ (B : List aX) (i : Nat) (x : aX) (l6 l7 : Nat × Value), 0 < i → i + B.length = n → A[i - 1]? = some x → (∀ j y, B[j]? = some y → A[i + j]? = some y) → xrun (d + 6) 78 53 [(1, .ref Kc), (1, l1), (1, .ref σ), (1, l3), (1, .int number), (1, .int (nI i)), l6, l7] [] h = taR h Kc SC (adj (x :: B))
  | [], i, x, l6, l7, h0, hi, hx, hB => by
    have k2 := hS.1
    have n60 := hS.2.1
    have hi : i = n := hi
    have hle : n ≤ i := by omega
    show _ = some (some (Value.int (nI 1)), h)
    rw [q_78_53]
    simp (disch := omega) only [q_78_55, q_78_56, q_78_59, q_78_62, q_78_63, q_78_65, q_78_66, q_78_67, q_78_70, q_78_72, q_78_73, q_78_75, q_78_78, q_78_80, q_78_82, q_78_85, q_78_87, q_78_90, q_78_92, q_78_95, q_78_97, q_78_100, q_78_101, q_78_104, q_78_105, q_78_106, q_78_107, q_78_108, q_78_110, q_78_113, q_78_115, q_78_118, q_78_121, q_78_122, q_78_125, q_78_128, q_78_129, og_6_12, op_6_12, og_7_2, og_9_2, og_9_3, o_is, o_ob, ofs_len6, ofs_len7, ofs_len9, q_78_0, q_78_1, q_78_3, q_78_6, q_78_7, q_78_11, q_78_12, q_78_15, q_78_18, q_78_19, q_78_21, q_78_24, q_78_26, q_78_28, q_78_31, q_78_32, q_78_34, q_78_35, q_78_36, q_78_39, q_78_42, q_78_43, q_78_44, q_78_47, q_78_50, q_78_51, q_78_55, q_78_56, q_78_59, q_78_62, q_78_63, q_78_65, q_78_66, q_78_67, q_78_70, q_78_72, q_78_73, q_78_75, q_78_78, q_78_80, q_78_82, q_78_85, q_78_87, q_78_90, q_78_92, q_78_95, q_78_97, q_78_100, q_78_101, q_78_104, q_78_105, q_78_106, q_78_107, q_78_108, q_78_110, q_78_113, q_78_115, q_78_118, q_78_121, q_78_122, q_78_125, q_78_128, q_78_129, hg_7_2 H7, h_is H7, h_ob H7, ofs_len7, ↓reduceIte, k_cr, k_ci, k_oR, k_oN, k_aR, k_aN, and_true, true_and, and_self, eq_self, Nat.reduceLT, Nat.reduceLeDiff, Nat.reduceEqDiff, Nat.reduceAdd, Nat.reduceMul, Bool.true_eq_false, Bool.false_eq_true, Nat.add_sub_cancel, Nat.not_lt_zero, Nat.zero_le, k_sub, k_sb1, k_r, k_n, k_ret, k_t1, k_t0, k_nr, k_nn, k_z0, k_z1, k_zb, x_okI, lit_nI, k_in, k_cl, k_lt, k_le, k_eq, k_neg, nI_add, nI_mul, k_clt, k_cgt, k_cle, k_cge, k_ceq, bI_0, k_sh8, ne_eq, Nat.add_eq_zero_iff, Nat.one_ne_zero, Nat.succ_ne_zero, and_false, false_and, not_false_eq_true, not_true_eq_false, ite_true, ite_false, if_true, if_false, k2, hle]
  | y :: B, i, x, l6, l7, h0, hi, hx, hB => by
    have k2 := hS.1
    have n60 := hS.2.1
    have hi : i + (B.length + 1) = n := hi
    have hle : ¬ n ≤ i := by omega
    have e1 : xm (d + 6) 79 [.ref σ, .int (nI (i - 1))] h = _ := c_sat (d + 5) h σ n (i - 1) SS ν SV H7 hS (by omega)
    rw [if_pos (by omega)] at e1
    have e2 : xm (d + 6) 79 [.ref σ, .int (nI i)] h = _ := c_sat (d + 5) h σ n i SS ν SV H7 hS (by omega)
    rw [if_pos (by omega)] at e2
    have V1 := (hS.2.2 (i - 1) (by omega)).2
    have V2 := (hS.2.2 i (by omega)).2
    have hy : A[i]? = some y := hB 0 y rfl
    obtain ⟨p1, p2⟩ := hP _ _ (hL.2 _ _ hx)
    obtain ⟨p3, p4⟩ := hP _ _ (hL.2 _ _ hy)
    have i7 : ∀ {α : Type} (f : Option α), xis h σ 7 f = f := fun f => h_is H7 f
    have i6 : ∀ {α : Type} (f : Option α), xis h Kc 6 f = f := fun f => h_is HC f
    show _ = taR h Kc SC (if x.1 = y.1 then some (x, y) else adj (y :: B))
    by_cases c : x.1 = y.1
    · rw [if_pos c]
      have eF : xm (d + 6) 82 [.ref Kc, .int (nI 3), .int (-nI 1), .int (-nI 1), .long x.2.1, .long y.2.1] h = _ := c_refuseH (d + 5) HC (nI 3) (-nI 1) (-nI 1) x.2.1 y.2.1
      show _ = some (some (Value.int (nI 0)), oh 6 h Kc (rfC SC (nI 3) (-nI 1) (-nI 1) x.2.1 y.2.1))
      rw [q_78_53]
      simp (disch := omega) only [q_78_55, q_78_56, q_78_59, q_78_62, q_78_63, q_78_65, q_78_66, q_78_67, q_78_70, q_78_72, q_78_73, q_78_75, q_78_78, q_78_80, q_78_82, q_78_85, q_78_87, q_78_90, q_78_92, q_78_95, q_78_97, q_78_100, q_78_101, q_78_104, q_78_105, q_78_106, q_78_107, q_78_108, q_78_110, q_78_113, q_78_115, q_78_118, q_78_121, q_78_122, q_78_125, q_78_128, q_78_129, og_6_12, op_6_12, og_7_2, og_9_2, og_9_3, o_is, o_ob, ofs_len6, ofs_len7, ofs_len9, q_78_0, q_78_1, q_78_3, q_78_6, q_78_7, q_78_11, q_78_12, q_78_15, q_78_18, q_78_19, q_78_21, q_78_24, q_78_26, q_78_28, q_78_31, q_78_32, q_78_34, q_78_35, q_78_36, q_78_39, q_78_42, q_78_43, q_78_44, q_78_47, q_78_50, q_78_51, q_78_55, q_78_56, q_78_59, q_78_62, q_78_63, q_78_65, q_78_66, q_78_67, q_78_70, q_78_72, q_78_73, q_78_75, q_78_78, q_78_80, q_78_82, q_78_85, q_78_87, q_78_90, q_78_92, q_78_95, q_78_97, q_78_100, q_78_101, q_78_104, q_78_105, q_78_106, q_78_107, q_78_108, q_78_110, q_78_113, q_78_115, q_78_118, q_78_121, q_78_122, q_78_125, q_78_128, q_78_129, hg_7_2 H7, h_is H7, h_ob H7, ofs_len7, hg_9_2 V1, hg_9_3 V1, h_is V1, h_ob V1, ofs_len9, hg_9_2 V2, hg_9_3 V2, h_is V2, h_ob V2, ofs_len9, ↓reduceIte, k_cr, k_ci, k_oR, k_oN, k_aR, k_aN, and_true, true_and, and_self, eq_self, Nat.reduceLT, Nat.reduceLeDiff, Nat.reduceEqDiff, Nat.reduceAdd, Nat.reduceMul, Bool.true_eq_false, Bool.false_eq_true, Nat.add_sub_cancel, Nat.not_lt_zero, Nat.zero_le, k_sub, k_sb1, k_r, k_n, k_ret, k_t1, k_t0, k_nr, k_nn, k_z0, k_z1, k_zb, x_okI, lit_nI, k_in, k_cl, k_lt, k_le, k_eq, k_neg, nI_add, nI_mul, k_clt, k_cgt, k_cle, k_cge, k_ceq, bI_0, k_sh8, ne_eq, Nat.add_eq_zero_iff, Nat.one_ne_zero, Nat.succ_ne_zero, and_false, false_and, not_false_eq_true, not_true_eq_false, ite_true, ite_false, if_true, if_false, k2, hle, k_sub, i7, i6, e1, e2, p1, p2, p3, p4, c, eF]
    · rw [if_neg c]
      have ih := ta_loop d (l1 := l1) (l3 := l3) (number := number) HC H7 hS hL hP B (i + 1) y (1, .ref (ν (i - 1))) (1, .ref (ν i)) (by omega) (by omega) (by rw [Nat.add_sub_cancel]; exact hy) (fun j w hj => by
        have := hB (j + 1) w hj
        rw [show i + (j + 1) = i + 1 + j by omega] at this
        exact this)
      rw [← ih, q_78_53]
      simp (disch := omega) only [q_78_55, q_78_56, q_78_59, q_78_62, q_78_63, q_78_65, q_78_66, q_78_67, q_78_70, q_78_72, q_78_73, q_78_75, q_78_78, q_78_80, q_78_82, q_78_85, q_78_87, q_78_90, q_78_92, q_78_95, q_78_97, q_78_100, q_78_101, q_78_104, q_78_105, q_78_106, q_78_107, q_78_108, q_78_110, q_78_113, q_78_115, q_78_118, q_78_121, q_78_122, q_78_125, q_78_128, q_78_129, og_6_12, op_6_12, og_7_2, og_9_2, og_9_3, o_is, o_ob, ofs_len6, ofs_len7, ofs_len9, q_78_0, q_78_1, q_78_3, q_78_6, q_78_7, q_78_11, q_78_12, q_78_15, q_78_18, q_78_19, q_78_21, q_78_24, q_78_26, q_78_28, q_78_31, q_78_32, q_78_34, q_78_35, q_78_36, q_78_39, q_78_42, q_78_43, q_78_44, q_78_47, q_78_50, q_78_51, q_78_55, q_78_56, q_78_59, q_78_62, q_78_63, q_78_65, q_78_66, q_78_67, q_78_70, q_78_72, q_78_73, q_78_75, q_78_78, q_78_80, q_78_82, q_78_85, q_78_87, q_78_90, q_78_92, q_78_95, q_78_97, q_78_100, q_78_101, q_78_104, q_78_105, q_78_106, q_78_107, q_78_108, q_78_110, q_78_113, q_78_115, q_78_118, q_78_121, q_78_122, q_78_125, q_78_128, q_78_129, hg_7_2 H7, h_is H7, h_ob H7, ofs_len7, hg_9_2 V1, hg_9_3 V1, h_is V1, h_ob V1, ofs_len9, hg_9_2 V2, hg_9_3 V2, h_is V2, h_ob V2, ofs_len9, ↓reduceIte, k_cr, k_ci, k_oR, k_oN, k_aR, k_aN, and_true, true_and, and_self, eq_self, Nat.reduceLT, Nat.reduceLeDiff, Nat.reduceEqDiff, Nat.reduceAdd, Nat.reduceMul, Bool.true_eq_false, Bool.false_eq_true, Nat.add_sub_cancel, Nat.not_lt_zero, Nat.zero_le, k_sub, k_sb1, k_r, k_n, k_ret, k_t1, k_t0, k_nr, k_nn, k_z0, k_z1, k_zb, x_okI, lit_nI, k_in, k_cl, k_lt, k_le, k_eq, k_neg, nI_add, nI_mul, k_clt, k_cgt, k_cle, k_cge, k_ceq, bI_0, k_sh8, ne_eq, Nat.add_eq_zero_iff, Nat.one_ne_zero, Nat.succ_ne_zero, and_false, false_and, not_false_eq_true, not_true_eq_false, ite_true, ite_false, if_true, if_false, k2, hle, k_sub, i7, e1, e2, p1, p3, c]
def tsQ (SC SC' : gS) (x y n' b nf : Nat) (number : Int32) (P : gS → aX → Prop) (SVs' : Nat → gS) : rfT ⊕ (List aX × Nat × Nat) → Prop
  | .inl q => b = 0 ∧ ∃ SC0, fr cF SC SC0 ∧ sI SC0 12 = number ∧ SC' = rfC SC0 (nI q.1) (oI q.2.1) (oI q.2.2.1) q.2.2.2.1 q.2.2.2.2
  | .inr r => b = 1 ∧ fr cF SC SC' ∧ sI SC' 10 = nI (x + r.2.1) ∧ sI SC' 11 = nI (y + r.2.2) ∧ stL P SVs' n' r.1 ∧ n' ≤ nf
theorem c_takeStep (d : Nat) {G : gG} {h : xH} {Kc R ρ lo hi β2 g2 g n1 n2 σ σ1 nf mf m x y : Nat} {dr : Bool} {SC T SB2 SS SS1 : gS} {PM : pM} {C : List cT} {mc : Nat} {κ1 κ2 : Nat → Nat} {SK1 SK2 : Nat → gS} {ν1 ν : Nat → Nat} {SV1 SVs : Nat → gS} {z : sE} {number : Int32} {V : List (Nat × vW)} (hN : tkN n2 SK2 z) (hg : 1 < g ∧ g < 5) (hg2 : 1 < g2 ∧ g2 < 5) (hgg : g ≠ g2) (hV : V.length = nf) (hsv : ∀ j v, V[j]? = some v → svO n1 κ1 C PM n2 z (SV1 j) v) (HC : hB G 0 6 h Kc SC) (HR : hB G 0 5 h R T) (rC : sR SC 0 = .ref R) (hT : tkB G h ρ lo hi β2 SB2 n2 κ2 SK2 (zm2 z) PM C mc) (hO : tkO G h n1 κ1 SK1 z) (h1 : cSt g2 G h σ1 SS1 nf mf ν1 SV1) (hS : cSt g G h σ SS 0 m ν SVs) (h9 : sI SC 9 = bI dr) (hx : sI SC 10 = nI x) (hy : sI SC 11 = nI y) : ∃ G' h' SS' n' m' ν' SVs' SC' T' b, xm (d + 7) 78 [.ref Kc, .ref σ1, .ref σ, .ref ρ, .int number] h = some (some (.int (nI b)), h') ∧ tkF G G' h h' g Kc R m m' ∧ hB G' 0 6 h' Kc SC' ∧ hB G' 0 5 h' R T' ∧ cSt g G' h' σ SS' n' m' ν' SVs' ∧ sI SS' 1 = sI SS 1 ∧ tsQ SC SC' x y n' b nf number (svA n2 κ2 (zm2 z)) SVs' (stZ z dr V) := by
  have KR : Kc ≠ R := HC.ne HR (by decide)
  have HC1 := HC.1
  have HCn : hB G 0 6 (oh 6 h Kc (uI SC 12 number)) Kc (uI SC 12 number) := hB.set HC
  have kp0 : ∀ q, (G q).1 ≠ 0 → (oh 6 h Kc (uI SC 12 number)).1 q = h.1 q := fun q hq => oh_same (by
    cases hc : ofp 6 Kc q with
    | false => rfl
    | true =>
      rw [HC.2.1 q hc] at hq
      exact absurd rfl hq)
  have kF : tkF G G h (oh 6 h Kc (uI SC 12 number)) g Kc R m m := ⟨fun _ _ => rfl, fun q hq c1 c2 c3 => oh_same (by
    cases hc : ofp 6 Kc q with
    | false => rfl
    | true => exact absurd (HC.2.1 q hc) c2), rfl, Nat.le_refl _, rfl, rfl⟩
  obtain ⟨G', h', SS', n', m', ν', SVs', SC', T', s1, s2, s3, s4, s5, s6⟩ := ts_loop d (number := number) (dr := dr) hN hg hg2 hgg V 0 0 m x y G (oh 6 h Kc (uI SC 12 number)) (uI SC 12 number) T SS ν SVs [] (0, .null) (by omega) (fun j v hj => by
    rw [Nat.zero_add]
    exact hsv j v hj) HCn (HR.frame HC.2.1 (fun z => KR z.2.symm)) rC (hT.keep (fun _ _ => rfl) (fun q _ hq => kp0 q (by omega)) (Nat.le_refl _)) (hO.keep (fun _ _ => rfl) (fun q _ hq => kp0 q (by omega)) (Nat.le_refl _)) (h1.fr0 HC.2.1 (by omega) _) (hS.fr0 HC.2.1 (by omega) _) ⟨rfl, fun i x hx => by cases hx⟩ (Nat.le_refl _) h9 hx hy
  have st : xm (d + 7) 78 [.ref Kc, .ref σ1, .ref σ, .ref ρ, .int number] h = xrun (d + 6) 78 9 [(1, .ref Kc), (1, .ref σ1), (1, .ref σ), (1, .ref ρ), (1, .int number), (1, .int (nI 0)), (0, .null), (0, .null)] [] (oh 6 h Kc (uI SC 12 number)) := by
    rw [E_78 _ _ _ _ _ _ _ rfl rfl rfl rfl]
    simp (disch := omega) only [q_78_0, q_78_1, q_78_3, q_78_6, q_78_7, q_78_0, q_78_1, q_78_3, q_78_6, q_78_7, q_78_11, q_78_12, q_78_15, q_78_18, q_78_19, q_78_21, q_78_24, q_78_26, q_78_28, q_78_31, q_78_32, q_78_34, q_78_35, q_78_36, q_78_39, q_78_42, q_78_43, q_78_44, q_78_47, q_78_50, q_78_51, q_78_55, q_78_56, q_78_59, q_78_62, q_78_63, q_78_65, q_78_66, q_78_67, q_78_70, q_78_72, q_78_73, q_78_75, q_78_78, q_78_80, q_78_82, q_78_85, q_78_87, q_78_90, q_78_92, q_78_95, q_78_97, q_78_100, q_78_101, q_78_104, q_78_105, q_78_106, q_78_107, q_78_108, q_78_110, q_78_113, q_78_115, q_78_118, q_78_121, q_78_122, q_78_125, q_78_128, q_78_129, hg_6_12 HC1, hp_6_12 HC1, h_is HC1, h_ob HC1, ofs_len6, ↓reduceIte, k_cr, k_ci, k_oR, k_oN, k_aR, k_aN, and_true, true_and, and_self, eq_self, Nat.reduceLT, Nat.reduceLeDiff, Nat.reduceEqDiff, Nat.reduceAdd, Nat.reduceMul, Bool.true_eq_false, Bool.false_eq_true, Nat.add_sub_cancel, Nat.not_lt_zero, Nat.zero_le, k_sub, k_sb1, k_r, k_n, k_ret, k_t1, k_t0, k_nr, k_nn, k_z0, k_z1, k_zb, x_okI, lit_nI, k_in, k_cl, k_lt, k_le, k_eq, k_neg, nI_add, nI_mul, k_clt, k_cgt, k_cle, k_cge, k_ceq, bI_0, k_sh8, ne_eq, Nat.add_eq_zero_iff, Nat.one_ne_zero, Nat.succ_ne_zero, and_false, false_and, not_false_eq_true, not_true_eq_false, ite_true, ite_false, if_true, if_false]
  have fc : fr cF SC (uI SC 12 number) := fr.rfl.uI (by decide)
  unfold stZ
  cases hq : stF z dr V with
  | inl q =>
    rw [hq] at s6
    obtain ⟨⟨SC0, z1, z2, z3⟩, z4⟩ := s6
    exact ⟨G', h', SS', n', m', ν', SVs', SC', T', 0, st.trans z4, kF.trans s1, s2, s3, s4, s5, rfl, SC0, fc.trans z1, z2, z3⟩
  | inr r =>
    rw [hq] at s6
    obtain ⟨z1, z2, z3, z4, z5, z6, l6, z7⟩ := s6
    show ∃ G' h' SS' n' m' ν' SVs' SC' T' b, _ ∧ _ ∧ _ ∧ _ ∧ _ ∧ _ ∧ tsQ SC SC' x y n' b nf number (svA n2 κ2 (zm2 z)) SVs' (match adj (srt r.1 []) with
      | some f => .inl (3, none, none, f.1.2.1, f.2.2.1)
      | none => .inr (srt r.1 [], r.2.1, r.2.2))
    have hst := s4.stOK
    have fin : xrun (d + 6) 78 53 [(1, .ref Kc), (1, .ref σ1), (1, .ref σ), (1, .ref ρ), (1, .int number), (1, .int (nI 1)), l6, (0, .null)] [] h' = taR h' Kc SC' (adj (srt r.1 [])) := by
      generalize srt r.1 [] = A at z5
      cases A with
      | nil =>
        have H7 := s4.1.1
        have k2 := s4.2.1
        have e0 : n' = 0 := z5.1.symm
        subst e0
        show _ = some (some (Value.int (nI 1)), h')
        rw [q_78_53]
        simp (disch := omega) only [q_78_55, q_78_56, q_78_59, q_78_62, q_78_63, q_78_65, q_78_66, q_78_67, q_78_70, q_78_72, q_78_73, q_78_75, q_78_78, q_78_80, q_78_82, q_78_85, q_78_87, q_78_90, q_78_92, q_78_95, q_78_97, q_78_100, q_78_101, q_78_104, q_78_105, q_78_106, q_78_107, q_78_108, q_78_110, q_78_113, q_78_115, q_78_118, q_78_121, q_78_122, q_78_125, q_78_128, q_78_129, og_6_12, op_6_12, og_7_2, og_9_2, og_9_3, o_is, o_ob, ofs_len6, ofs_len7, ofs_len9, q_78_0, q_78_1, q_78_3, q_78_6, q_78_7, q_78_11, q_78_12, q_78_15, q_78_18, q_78_19, q_78_21, q_78_24, q_78_26, q_78_28, q_78_31, q_78_32, q_78_34, q_78_35, q_78_36, q_78_39, q_78_42, q_78_43, q_78_44, q_78_47, q_78_50, q_78_51, q_78_55, q_78_56, q_78_59, q_78_62, q_78_63, q_78_65, q_78_66, q_78_67, q_78_70, q_78_72, q_78_73, q_78_75, q_78_78, q_78_80, q_78_82, q_78_85, q_78_87, q_78_90, q_78_92, q_78_95, q_78_97, q_78_100, q_78_101, q_78_104, q_78_105, q_78_106, q_78_107, q_78_108, q_78_110, q_78_113, q_78_115, q_78_118, q_78_121, q_78_122, q_78_125, q_78_128, q_78_129, hg_7_2 H7, h_is H7, h_ob H7, ofs_len7, ↓reduceIte, k_cr, k_ci, k_oR, k_oN, k_aR, k_aN, and_true, true_and, and_self, eq_self, Nat.reduceLT, Nat.reduceLeDiff, Nat.reduceEqDiff, Nat.reduceAdd, Nat.reduceMul, Bool.true_eq_false, Bool.false_eq_true, Nat.add_sub_cancel, Nat.not_lt_zero, Nat.zero_le, k_sub, k_sb1, k_r, k_n, k_ret, k_t1, k_t0, k_nr, k_nn, k_z0, k_z1, k_zb, x_okI, lit_nI, k_in, k_cl, k_lt, k_le, k_eq, k_neg, nI_add, nI_mul, k_clt, k_cgt, k_cle, k_cge, k_ceq, bI_0, k_sh8, ne_eq, Nat.add_eq_zero_iff, Nat.one_ne_zero, Nat.succ_ne_zero, and_false, false_and, not_false_eq_true, not_true_eq_false, ite_true, ite_false, if_true, if_false, k2]
      | cons w A =>
        have el : A.length + 1 = n' := z5.1
        exact ta_loop d (P := svA n2 κ2 (zm2 z)) s2.1 s4.1.1 hst z5 (fun S x hx => ⟨svA.k _ _ _ S x hx, hx.1⟩) A 1 w l6 (0, .null) (by omega) (by omega) rfl (fun j y hj => by
          rw [Nat.add_comm]
          exact hj)
    cases ha : adj (srt r.1 []) with
    | none =>
      rw [ha] at fin
      exact ⟨G', h', SS', n', m', ν', SVs', SC', T', 1, st.trans (z7.trans fin), kF.trans s1, s2, s3, s4, s5, rfl, fc.trans z1, z3, z4, z5, z6⟩
    | some f =>
      rw [ha] at fin
      have kF2 : tkF G' G' h' (oh 6 h' Kc (rfC SC' (nI 3) (-nI 1) (-nI 1) f.1.2.1 f.2.2.1)) g Kc R m' m' := ⟨fun _ _ => rfl, fun q hq c1 c2 c3 => oh_same (by
        cases hc : ofp 6 Kc q with
        | false => rfl
        | true => exact absurd (s2.2.1 q hc) c2), rfl, Nat.le_refl _, rfl, rfl⟩
      exact ⟨G', _, SS', n', m', ν', SVs', _, T', 0, st.trans (z7.trans fin), (kF.trans s1).trans kF2, hB.set s2, s3.frame s2.2.1 (fun z => KR z.2.symm), s4.fr0 s2.2.1 (by omega) _, s5, rfl, SC', fc.trans z1, z2, rfl⟩
