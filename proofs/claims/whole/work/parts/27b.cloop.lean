/-! The class: the loop of the way. -/
def tkW (G G' : gG) (h h' : xH) (ga gb Kc R m m' : Nat) : Prop := (∀ q, q < h.2.2.1 → G' q = G q) ∧ (∀ q, q < h.2.2.1 → (G q).1 ≠ ga → (G q).1 ≠ gb → G q ≠ (0, Kc) → G q ≠ (0, R) → h'.1 q = h.1 q) ∧ h'.2.1 = h.2.1 ∧ m ≤ m' ∧ h'.2.2.1 + 3 * m = h.2.2.1 + 3 * m' ∧ h'.2.2.2 + 78 * m = h.2.2.2 + 78 * m'
theorem tkW.trans {G G' G'' : gG} {h h' h'' : xH} {ga gb Kc R m m' m'' : Nat} (a : tkW G G' h h' ga gb Kc R m m') (b : tkW G' G'' h' h'' ga gb Kc R m' m'') : tkW G G'' h h'' ga gb Kc R m m'' := by
  obtain ⟨a1, a2, a3, a4, a5, a6⟩ := a
  obtain ⟨b1, b2, b3, b4, b5, b6⟩ := b
  refine ⟨fun q hq => (b1 q (by omega)).trans (a1 q hq), fun q hq c1 c2 c3 c4 => ?_, b3.trans a3, by omega, by omega, by omega⟩
  have e := a1 q hq
  exact (b2 q (by omega) (by rw [e]; exact c1) (by rw [e]; exact c2) (by rw [e]; exact c3) (by rw [e]; exact c4)).trans (a2 q hq c1 c2 c3 c4)
theorem tkW.rfl {G : gG} {h : xH} {ga gb Kc R m : Nat} : tkW G G h h ga gb Kc R m m := ⟨fun _ _ => Eq.refl _, fun _ _ _ _ _ _ => Eq.refl _, Eq.refl _, Nat.le_refl _, Eq.refl _, Eq.refl _⟩
theorem tkW.swap {G G' : gG} {h h' : xH} {ga gb Kc R m m' k k' : Nat} (a : tkW G G' h h' ga gb Kc R m m') (e : m = k) (e' : m' = k') : tkW G G' h h' gb ga Kc R k k' := by
  subst e e'
  exact ⟨a.1, fun q hq c1 c2 c3 c4 => a.2.1 q hq c2 c1 c3 c4, a.2.2⟩
theorem tkF.W {G G' : gG} {h h' : xH} {gb Kc R m m' : Nat} (a : tkF G G' h h' gb Kc R m m') (ga k : Nat) : tkW G G' h h' ga gb Kc R (k + m) (k + m') := by
  obtain ⟨a1, a2, a3, a4, a5, a6⟩ := a
  exact ⟨a1, fun q hq _ c2 c3 c4 => a2 q hq c2 c3 c4, a3, by omega, by omega, by omega⟩
theorem tkW.n {G G' : gG} {h h' : xH} {ga gb Kc R m m' : Nat} (a : tkW G G' h h' ga gb Kc R m m') : h.2.2.1 ≤ h'.2.2.1 := by
  have a4 := a.2.2.2.1
  have a5 := a.2.2.2.2.1
  omega
/-- a Store that holds VALUES of BUILD t -/
def stV (κ : Nat → Nat → Nat) (cN mN : Nat → Nat) (t : Nat) (SS : gS) (n : Nat) (SV : Nat → gS) (V : vL) : Prop := n = V.length ∧ sI SS 1 = nI t ∧ ∀ j v, V[j]? = some v → svC κ cN mN t (SV j) v
def trR (κ : Nat → Nat → Nat) (cN mN : Nat → Nat) (t σa σb na nb : Nat) (SSa SSb : gS) (SVa SVb : Nat → gS) (SC SC' : gS) (h' : xH) (run : Option xR) (nxt : Nat → Option xR → Prop) : (rfT × Nat) ⊕ (vL × Nat × Nat) → Prop
  | .inl q => (∃ SC0, fr cF SC SC0 ∧ sI SC0 12 = nI q.2 ∧ SC' = rfC SC0 (nI q.1.1) (oI q.1.2.1) (oI q.1.2.2.1) q.1.2.2.2.1 q.1.2.2.2.2) ∧ run = some (some (.int (-nI 1)), h')
  | .inr r => fr cF SC SC' ∧ sI SC' 10 = nI r.2.1 ∧ sI SC' 11 = nI r.2.2 ∧ (stV κ cN mN t SSa na SVa r.1 ∧ nxt σa run ∨ stV κ cN mN t SSb nb SVb r.1 ∧ nxt σb run)
def sdF (H : Nat → Bool) (bd t : Nat) : Int32 := if H (8 * bd + t) = true then nI t - nI bd else if bd < t then nI 1 else -nI 1
theorem sd_ok {H : Nat → Bool} {bd t a b : Nat} {P : List Nat} (h : pOK H bd t a (b :: P)) : nI a + sdF H bd t = nI b := by
  obtain ⟨h1, h2, h3, h4, _⟩ := h
  unfold sdF
  rcases h4 with ⟨c1, c2, c3⟩ | ⟨c1, ⟨c2, c3⟩ | ⟨c2, c3⟩⟩
  · rw [if_pos c1, c3, c2, Int32.add_comm, Int32.sub_add_cancel]
  · rw [if_neg (by rw [c1]; decide), if_pos c2, c3, nI_add]
  · rw [if_neg (by rw [c1]; decide), if_neg (by omega), k_am1, k_sub (by omega), ← c3, Nat.add_sub_cancel]
theorem toV_get {A : List aX} {j : Nat} {v : Nat × vW} (h : (toV A)[j]? = some v) : ∃ x, A[j]? = some x ∧ v = (x.2.2.1, x.2.2.2) := by
  have h : (A.map (fun x => (x.2.2.1, x.2.2.2)))[j]? = some v := h
  rw [List.getElem?_map] at h
  cases hc : A[j]? with
  | none => rw [hc] at h; cases h
  | some x =>
    rw [hc] at h
    cases h
    exact ⟨x, rfl, rfl⟩
theorem tr_loop (d : Nat) {X Kc R bd t : Nat} {SX : gS} {β : Nat → Nat} {SB : Nat → gS} {κ : Nat → Nat → Nat} {SK : Nat → Nat → gS} {S : gS} {cN mN ty : Nat → Nat} {Lf : Nat → List mT} {dr : Bool} {fg : Int32} (hK : refT S cN mN ty) (hds : dsA S cN mN ty Lf) (hRu : ∀ a b, a < 8 → b < 8 → hz S (8 * a + b) = true → ruG S cN mN ty Lf a b) (ht : t < 8) : ∀ (P : List Nat) (a k x y σa σb ga gb ma nb mb : Nat) (V : vL) (G : gG) (h : xH) (SC T SSa SSb : gS) (νa νb : Nat → Nat) (SVa SVb : Nat → gS) (l6 l7 : Nat × Value), pOK (hz S) bd t a P → alH (hz S) a P = true → k + P.length ≤ 8 → (k % 2 = 1 ∧ sR SX 7 = .ref σb ∧ sR SX 6 = .ref σa ∨ k % 2 = 0 ∧ sR SX 6 = .ref σb ∧ sR SX 7 = .ref σa) → wyB G h X Kc SX β SB κ SK S cN mN Lf → hB G 0 6 h Kc SC → hB G 0 5 h R T → sR SC 0 = .ref R → cSt ga G h σa SSa V.length ma νa SVa → cSt gb G h σb SSb nb mb νb SVb → (1 < ga ∧ ga < 5) → (1 < gb ∧ gb < 5) → gb ≠ ga → sI SSa 1 = nI a → (∀ j v, V[j]? = some v → svC κ cN mN a (SVa j) v) → vlB S cN mN ty a V → sI SC 9 = bI dr → sI SC 10 = nI x → sI SC 11 = nI y → ∃ G' h' SC' T' SSa' na' ma' νa' SVa' SSb' nb' mb' νb' SVb', cSt ga G' h' σa SSa' na' ma' νa' SVa' ∧ cSt gb G' h' σb SSb' nb' mb' νb' SVb' ∧ tkW G G' h h' ga gb Kc R (ma + mb) (ma' + mb') ∧ hB G' 0 6 h' Kc SC' ∧ hB G' 0 5 h' R T' ∧ trR κ cN mN t σa σb na' nb' SSa' SSb' SVa' SVb' SC SC' h' (xrun (d + 7) 75 64 [(1, .ref X), (1, .int (nI t)), (1, .int fg), (1, .int (sdF (hz S) bd t)), (1, .ref σa), (1, .int (nI k)), l6, l7] [] h) (fun σ run => ∃ k2 l6 l7, run = xrun (d + 7) 75 163 [(1, .ref X), (1, .int (nI t)), (1, .int fg), (1, .int (sdF (hz S) bd t)), (1, .ref σ), (1, .int k2), l6, l7] [] h') (wlk (fun a b => zK S cN mN ty a b (Lf (8 * a + b))) dr P a k V x y)
  | [], a, k, x, y, σa, σb, ga, gb, ma, nb, mb, V, G, h, SC, T, SSa, SSb, νa, νb, SVa, SVb, l6, l7, hP, hal, hk8, hsp, W, HC, HR, rC, cA, cB, hga, hgb, hgg, h1, hV, hvb, h9, hx, hy => by
    have hP : a = t := hP
    subst hP
    have HA := cA.1.1
    have hk8 : k ≤ 8 := hk8
    refine ⟨G, h, SC, T, SSa, V.length, ma, νa, SVa, SSb, nb, mb, νb, SVb, cA, cB, tkW.rfl, HC, HR, fr.rfl, hx, hy, Or.inl ⟨⟨rfl, h1, hV⟩, nI k, l6, l7, ?_⟩⟩
    rw [q_75_64]
    by_cases c : 8 ≤ k
    · simp (disch := omega) only [q_75_0, q_75_1, q_75_2, q_75_5, q_75_8, q_75_9, q_75_10, q_75_13, q_75_16, q_75_19, q_75_21, q_75_22, q_75_23, q_75_24, q_75_27, q_75_28, q_75_29, q_75_32, q_75_34, q_75_35, q_75_36, q_75_39, q_75_40, q_75_43, q_75_44, q_75_47, q_75_48, q_75_51, q_75_52, q_75_55, q_75_56, q_75_59, q_75_61, q_75_62, q_75_66, q_75_68, q_75_71, q_75_73, q_75_76, q_75_77, q_75_80, q_75_82, q_75_83, q_75_84, q_75_87, q_75_88, q_75_91, q_75_94, q_75_95, q_75_98, q_75_100, q_75_102, q_75_104, q_75_107, q_75_108, q_75_109, q_75_112, q_75_113, q_75_115, q_75_118, q_75_120, q_75_123, q_75_126, q_75_128, q_75_130, q_75_133, q_75_134, q_75_137, q_75_139, q_75_141, q_75_143, q_75_145, q_75_148, q_75_151, q_75_152, q_75_153, q_75_155, q_75_157, q_75_160, og_8_5, og_7_1, og_8_4, og_8_10, og_8_6, og_8_7, og_7_2, o_is, o_ob, ofs_len7, ofs_len8, q_75_0, q_75_1, q_75_2, q_75_5, q_75_8, q_75_9, q_75_10, q_75_13, q_75_16, q_75_19, q_75_21, q_75_22, q_75_23, q_75_24, q_75_27, q_75_28, q_75_29, q_75_32, q_75_34, q_75_35, q_75_36, q_75_39, q_75_40, q_75_43, q_75_44, q_75_47, q_75_48, q_75_51, q_75_52, q_75_55, q_75_56, q_75_59, q_75_61, q_75_62, q_75_66, q_75_68, q_75_71, q_75_73, q_75_76, q_75_77, q_75_80, q_75_82, q_75_83, q_75_84, q_75_87, q_75_88, q_75_91, q_75_94, q_75_95, q_75_98, q_75_100, q_75_102, q_75_104, q_75_107, q_75_108, q_75_109, q_75_112, q_75_113, q_75_115, q_75_118, q_75_120, q_75_123, q_75_126, q_75_128, q_75_130, q_75_133, q_75_134, q_75_137, q_75_139, q_75_141, q_75_143, q_75_145, q_75_148, q_75_151, q_75_152, q_75_153, q_75_155, q_75_157, q_75_160, q_75_163, q_75_164, q_75_167, q_75_170, q_75_171, q_75_174, q_75_175, q_75_177, q_75_180, q_75_182, q_75_185, hg_7_1 HA, hg_7_2 HA, h_is HA, h_ob HA, ofs_len7, ↓reduceIte, k_cr, k_ci, k_oR, k_oN, k_aR, k_aN, and_true, true_and, and_self, eq_self, Nat.reduceLT, Nat.reduceLeDiff, Nat.reduceEqDiff, Nat.reduceAdd, Nat.reduceMul, Bool.true_eq_false, Bool.false_eq_true, Nat.add_sub_cancel, Nat.not_lt_zero, Nat.zero_le, k_sub, k_sb1, k_r, k_n, k_ret, k_t1, k_t0, k_nr, k_nn, k_z0, k_z1, k_zb, x_okI, lit_nI, k_in, k_cl, k_lt, k_le, k_eq, k_neg, nI_add, nI_mul, k_clt, k_cgt, k_cle, k_cge, k_ceq, bI_0, k_sh8, ne_eq, Nat.add_eq_zero_iff, Nat.one_ne_zero, Nat.succ_ne_zero, and_false, false_and, not_false_eq_true, not_true_eq_false, ite_true, ite_false, if_true, if_false, c]
    · simp (disch := omega) only [q_75_0, q_75_1, q_75_2, q_75_5, q_75_8, q_75_9, q_75_10, q_75_13, q_75_16, q_75_19, q_75_21, q_75_22, q_75_23, q_75_24, q_75_27, q_75_28, q_75_29, q_75_32, q_75_34, q_75_35, q_75_36, q_75_39, q_75_40, q_75_43, q_75_44, q_75_47, q_75_48, q_75_51, q_75_52, q_75_55, q_75_56, q_75_59, q_75_61, q_75_62, q_75_66, q_75_68, q_75_71, q_75_73, q_75_76, q_75_77, q_75_80, q_75_82, q_75_83, q_75_84, q_75_87, q_75_88, q_75_91, q_75_94, q_75_95, q_75_98, q_75_100, q_75_102, q_75_104, q_75_107, q_75_108, q_75_109, q_75_112, q_75_113, q_75_115, q_75_118, q_75_120, q_75_123, q_75_126, q_75_128, q_75_130, q_75_133, q_75_134, q_75_137, q_75_139, q_75_141, q_75_143, q_75_145, q_75_148, q_75_151, q_75_152, q_75_153, q_75_155, q_75_157, q_75_160, og_8_5, og_7_1, og_8_4, og_8_10, og_8_6, og_8_7, og_7_2, o_is, o_ob, ofs_len7, ofs_len8, q_75_0, q_75_1, q_75_2, q_75_5, q_75_8, q_75_9, q_75_10, q_75_13, q_75_16, q_75_19, q_75_21, q_75_22, q_75_23, q_75_24, q_75_27, q_75_28, q_75_29, q_75_32, q_75_34, q_75_35, q_75_36, q_75_39, q_75_40, q_75_43, q_75_44, q_75_47, q_75_48, q_75_51, q_75_52, q_75_55, q_75_56, q_75_59, q_75_61, q_75_62, q_75_66, q_75_68, q_75_71, q_75_73, q_75_76, q_75_77, q_75_80, q_75_82, q_75_83, q_75_84, q_75_87, q_75_88, q_75_91, q_75_94, q_75_95, q_75_98, q_75_100, q_75_102, q_75_104, q_75_107, q_75_108, q_75_109, q_75_112, q_75_113, q_75_115, q_75_118, q_75_120, q_75_123, q_75_126, q_75_128, q_75_130, q_75_133, q_75_134, q_75_137, q_75_139, q_75_141, q_75_143, q_75_145, q_75_148, q_75_151, q_75_152, q_75_153, q_75_155, q_75_157, q_75_160, q_75_163, q_75_164, q_75_167, q_75_170, q_75_171, q_75_174, q_75_175, q_75_177, q_75_180, q_75_182, q_75_185, hg_7_1 HA, hg_7_2 HA, h_is HA, h_ob HA, ofs_len7, ↓reduceIte, k_cr, k_ci, k_oR, k_oN, k_aR, k_aN, and_true, true_and, and_self, eq_self, Nat.reduceLT, Nat.reduceLeDiff, Nat.reduceEqDiff, Nat.reduceAdd, Nat.reduceMul, Bool.true_eq_false, Bool.false_eq_true, Nat.add_sub_cancel, Nat.not_lt_zero, Nat.zero_le, k_sub, k_sb1, k_r, k_n, k_ret, k_t1, k_t0, k_nr, k_nn, k_z0, k_z1, k_zb, x_okI, lit_nI, k_in, k_cl, k_lt, k_le, k_eq, k_neg, nI_add, nI_mul, k_clt, k_cgt, k_cle, k_cge, k_ceq, bI_0, k_sh8, ne_eq, Nat.add_eq_zero_iff, Nat.one_ne_zero, Nat.succ_ne_zero, and_false, false_and, not_false_eq_true, not_true_eq_false, ite_true, ite_false, if_true, if_false, c, h1]
  | b :: P, a, k, x, y, σa, σb, ga, gb, ma, nb, mb, V, G, h, SC, T, SSa, SSb, νa, νb, SVa, SVb, l6, l7, hP, hal, hk8, hsp, W, HC, HR, rC, cA, cB, hga, hgb, hgg, h1, hV, hvb, h9, hx, hy => by
    have hsd := sd_ok hP
    obtain ⟨ha8, hb8, hne, hnx, hP'⟩ := hP
    have hal : (hz S (8 * a + b) && alH (hz S) b P) = true := hal
    rw [Bool.and_eq_true] at hal
    rw [List.length_cons] at hk8
    obtain ⟨G1, h2, SSb1, n1, mb1, νb1, SVb1, SC1, T1, bb, ρ, t1, t2, t3, t4, t5, t6, t7, t8⟩ := tr_it d (fg := fg) (l6 := l6) (l7 := l7) (sd := sdF (hz S) bd t) W hK hds HC HR rC ha8 hb8 hne ht (by omega) hsd hal.1 (hsp.elim (fun z => Or.inr ⟨z.1, z.2.1⟩) (fun z => Or.inl ⟨z.1, z.2.1⟩)) cA cB hga hgb hgg h1 hV hvb h9 hx hy
    have hga1 := hga.1
    have hgb1 := hgb.1
    have hgb2 := hgb.2
    have cA1 : cSt ga G1 h2 σa SSa V.length ma νa SVa := cA.keep t3.1 (fun q hq e => t3.k hq (by omega) (by omega)) t3.n
    show ∃ G' h' SC' T' SSa' na' ma' νa' SVa' SSb' nb' mb' νb' SVb', cSt ga G' h' σa SSa' na' ma' νa' SVa' ∧ cSt gb G' h' σb SSb' nb' mb' νb' SVb' ∧ tkW G G' h h' ga gb Kc R (ma + mb) (ma' + mb') ∧ hB G' 0 6 h' Kc SC' ∧ hB G' 0 5 h' R T' ∧ trR κ cN mN t σa σb na' nb' SSa' SSb' SVa' SVb' SC SC' h' _ _ (match stZ (zK S cN mN ty a b (Lf (8 * a + b))) dr V with
      | .inl q => .inl (q, k)
      | .inr r => wlk (fun a b => zK S cN mN ty a b (Lf (8 * a + b))) dr P b (k + 1) (toV r.1) (x + r.2.1) (y + r.2.2))
    cases hq : stZ (zK S cN mN ty a b (Lf (8 * a + b))) dr V with
    | inl q =>
      rw [hq] at t8
      obtain ⟨u1, SC0, u2, u3, u4⟩ := t8
      exact ⟨G1, h2, SC1, T1, SSa, V.length, ma, νa, SVa, SSb1, n1, mb1, νb1, SVb1, cA1, t6, t3.W ga ma, t4, t5, ⟨SC0, u2, u3, u4⟩, t1 u1⟩
    | inr r =>
      rw [hq] at t8
      obtain ⟨u1, u2, u3, u4, u5, u6⟩ := t8
      obtain ⟨w1, w2, w3⟩ := st_next hK ha8 (hRu a b ha8 hb8 hal.1) hvb hq
      have el : (toV r.1).length = n1 := (List.length_map _).trans u5.1
      rw [← el] at t6
      have XK : X ≠ Kc := W.1.ne HC (by decide)
      have XR : X ≠ R := W.1.ne HR (by decide)
      obtain ⟨G', h', SC', T', SSb', nb', mb', νb', SVb', SSa', na', ma', νa', SVa', i1, i2, i3, i4, i5, i6⟩ := tr_loop d (fg := fg) (dr := dr) (bd := bd) (β := β) (SB := SB) (SK := SK) hK hds hRu ht P b (k + 1) (x + r.2.1) (y + r.2.2) σb σa gb ga mb1 V.length ma (toV r.1) G1 h2 SC1 T1 SSb1 SSa νb1 νa SVb1 SVa (1, .ref σb) (1, .ref ρ) hP' hal.2 (by omega) (by
        rcases hsp with ⟨z1, z2, z3⟩ | ⟨z1, z2, z3⟩
        · exact Or.inr ⟨by omega, z3, z2⟩
        · exact Or.inl ⟨by omega, z3, z2⟩) (W.keep t3.1 (fun q hq hc => t3.2.1 q hq (by
        rcases hc with e | e | e
        · omega
        · omega
        · rw [e]
          show 0 ≠ gb
          omega) (by
        rcases hc with e | e | e
        · intro z
          rw [z] at e
          cases e
        · intro z
          rw [z] at e
          cases e
        · rw [e]
          exact fun z => XK (Prod.mk.inj z).2) (by
        rcases hc with e | e | e
        · intro z
          rw [z] at e
          cases e
        · intro z
          rw [z] at e
          cases e
        · rw [e]
          exact fun z => XR (Prod.mk.inj z).2)) t3.n) t4 t5 (((u2 0 (by decide)).2.2.2.2.1).trans rC) t6 cA1 hgb hga (fun z => hgg z.symm) t7 (fun j v hj => by
        obtain ⟨y1, y2, y3⟩ := toV_get hj
        subst y3
        obtain ⟨z1, z2, z3, z4, z5, z6⟩ := u5.2 j y1 y2
        exact ⟨z2, z3, z4, z5⟩) w1 (((u2 9 (by decide)).1).trans h9) u3 u4
      refine ⟨G', h', SC', T', SSa', na', ma', νa', SVa', SSb', nb', mb', νb', SVb', i2, i1, (t3.W ga ma).trans (i3.swap (by omega) (by omega)), i4, i5, ?_⟩
      show trR κ cN mN t σa σb na' nb' SSa' SSb' SVa' SVb' SC SC' h' _ _ (wlk (fun a b => zK S cN mN ty a b (Lf (8 * a + b))) dr P b (k + 1) (toV r.1) (x + r.2.1) (y + r.2.2))
      rw [t2 u1]
      cases hw : wlk (fun a b => zK S cN mN ty a b (Lf (8 * a + b))) dr P b (k + 1) (toV r.1) (x + r.2.1) (y + r.2.2) with
      | inl q =>
        rw [hw] at i6
        obtain ⟨⟨SC0, y1, y2, y3⟩, y4⟩ := i6
        exact ⟨⟨SC0, u2.trans y1, y2, y3⟩, y4⟩
      | inr r2 =>
        rw [hw] at i6
        obtain ⟨y1, y2, y3, y4⟩ := i6
        exact ⟨u2.trans y1, y2, y3, y4.symm⟩
