/-! The class: the members of a VALUE that is carried. -/
def fwV (n : Nat) (SF : gS) (w : vW) : Prop := (∀ m, m < n → sA SF 0 m = nI (w.2.1 m) ∧ w.2.1 m ≤ 8) ∧ ∀ m k, m < n → k < 8 → sL SF 1 (8 * m + k) = w.2.2 m k
theorem fiM_8p {e : kE} {vw : vW} {ty : Nat → Nat} {t : Nat} {pl : Option (List aT) × Option Nat} {x : Nat × (Nat → Int64)} (h : fiM e vw ty t pl = .inr (some x)) (h8 : ∀ m, pl.2 = some m → vw.2.1 m ≤ 8) : x.1 ≤ 8 := by
  unfold fiM at h
  split at h
  · unfold fiW at h
    split at h
    · cases h
    · split at h
      · cases h
        show 1 ≤ 8
        omega
      · cases h
  · exact fiC_8 h h8
theorem c_refuseH (d : Nat) {h : xH} {Kc : Nat} {S : gS} (H : isB 6 h Kc S) (w c m : Int32) (k o : Int64) : xm (d + 1) 82 [.ref Kc, .int w, .int c, .int m, .long k, .long o] h = some (some (.int (nI 0)), oh 6 h Kc (rfC S w c m k o)) := by
  have e := c_refuseC d h Kc S w c m k o
  rw [show oh 6 h Kc S = h from H] at e
  exact e
theorem tv_loop (d : Nat) (g : xH) {Kc R ρ A V F C1 C2 N κO κN nO nN c σ : Nat} {SC SR TM SV SK SN : gS} {f1 f2 : Nat → Int32} {vw : vW} {e : kE} {ty tn : Nat → Nat} {pl : Nat → Option (List aT) × Option Nat} {key : Int64} (hh : flH2 g Kc R ρ A V F C1 C2 N κO κN nO nN SC SR TM SV SK SN f1 f2) (hv : ckV nO SV vw) (hEn : ∀ w m, e.1 w = some m → m < nO) (hty : ∀ q, q < nO → sA SK 2 q = nI (ty q) ∧ ty q ≤ 7) (htn : ∀ i, i < nN → sA SN 2 i = nI (tn i) ∧ tn i ≤ 7) (hpl : ∀ i, i < nN → plM TM e vw N f1 f2 i (pl i)) (hp2 : ∀ i o, i < nN → (pl i).2 = some o → o < nO) (v4 : sI SV 4 = nI c) : ∀ (k i : Nat) (SF T : gS) (w : vW) (l10 : Nat × Value), i + k = nN → sR SF 5 = .ref κN → fwV nN SF w → (∀ m, i ≤ m → m < nN → (pl m).1 ≠ none → w.2.1 m = 1) → ∃ SF' T', fr fiF SF SF' ∧ fr ckF3 T T' ∧ (∀ w', nvS (fun i => fiM e vw ty (tn i) (pl i)) k i w = .inr w' → fwV nN SF' w' ∧ w'.1 = w.1 ∧ ∃ m9 m10, xrun (d + 5) 80 176 [(1, .ref Kc), (1, .ref V), (1, .ref σ), (1, .ref ρ), (1, .ref A), (1, .ref κN), (2, .long key), (0, .null), (1, .ref F), (1, .int (nI i)), l10] [] (oh 5 (oh 9 g F SF) R T) = xrun (d + 5) 80 236 [(1, .ref Kc), (1, .ref V), (1, .ref σ), (1, .ref ρ), (1, .ref A), (1, .ref κN), (2, .long key), (0, .null), (1, .ref F), (1, .int m9), m10] [] (oh 5 (oh 9 g F SF') R T')) ∧ ∀ q m, nvS (fun i => fiM e vw ty (tn i) (pl i)) k i w = .inl (q, m) → xrun (d + 5) 80 176 [(1, .ref Kc), (1, .ref V), (1, .ref σ), (1, .ref ρ), (1, .ref A), (1, .ref κN), (2, .long key), (0, .null), (1, .ref F), (1, .int (nI i)), l10] [] (oh 5 (oh 9 g F SF) R T) = some (some (.int (nI 0)), oh 6 (oh 5 (oh 9 g F SF') R T') Kc (rfC SC (nI q) (nI c) (nI m) vw.1 0))
  | 0, i, SF, T, w, l10, hi, h5, hw, h1 => by
    have hh0 := hh
    obtain ⟨HC, rC, hk, HO, HN, kO, kN, v5, ⟨dF6, dF10, dF3, dF9, dFO, dFN, oF1, oF2⟩, ⟨dR6, dRF, dRO, dRN⟩⟩ := hh
    have HN' : isB 1 (oh 5 (oh 9 g F SF) R T) κN SN := (HN.frame dFN).frame dRN
    have n8 := kN.2.1
    have k4 := kN.1
    have hle : nN ≤ i := by omega
    refine ⟨SF, T, fr.rfl, fr.rfl, fun w' hw' => ?_, fun q m hq => by cases hq⟩
    have hw' : w = w' := Sum.inr.inj hw'
    subst hw'
    refine ⟨hw, rfl, nI i, l10, ?_⟩
    rw [q_80_176]
    simp (disch := omega) only [q_80_178, q_80_180, q_80_183, q_80_0, q_80_1, q_80_2, q_80_5, q_80_8, q_80_10, q_80_12, q_80_15, q_80_16, q_80_19, q_80_22, q_80_23, q_80_25, q_80_26, q_80_29, q_80_30, q_80_31, q_80_34, q_80_35, q_80_38, q_80_39, q_80_41, q_80_44, q_80_45, q_80_48, q_80_49, q_80_52, q_80_54, q_80_57, q_80_60, q_80_62, q_80_64, q_80_67, q_80_68, q_80_69, q_80_72, q_80_73, q_80_74, q_80_77, q_80_78, q_80_79, q_80_80, q_80_83, q_80_85, q_80_87, q_80_89, q_80_92, q_80_95, q_80_96, q_80_99, q_80_100, q_80_102, q_80_104, q_80_105, q_80_108, q_80_111, q_80_112, q_80_113, q_80_116, q_80_119, q_80_120, q_80_123, q_80_124, q_80_125, q_80_128, q_80_129, q_80_132, q_80_133, q_80_134, q_80_137, q_80_140, q_80_142, q_80_143, q_80_145, q_80_147, q_80_150, q_80_152, q_80_155, q_80_157, q_80_159, q_80_162, q_80_163, q_80_164, q_80_166, q_80_167, q_80_170, q_80_173, q_80_174, q_80_178, q_80_180, q_80_183, q_80_186, q_80_188, q_80_190, q_80_193, q_80_194, q_80_196, q_80_198, q_80_199, q_80_200, q_80_202, q_80_205, q_80_207, q_80_209, q_80_212, q_80_213, q_80_215, q_80_216, q_80_219, q_80_221, q_80_222, q_80_225, q_80_226, q_80_229, q_80_230, q_80_233, q_80_236, q_80_237, q_80_238, q_80_240, q_80_243, q_80_244, hg_1_4 HN', h_is HN', h_ob HN', ofs_len1, ↓reduceIte, k_cr, k_ci, k_oR, k_oN, k_aR, k_aN, and_true, true_and, and_self, eq_self, Nat.reduceLT, Nat.reduceLeDiff, Nat.reduceEqDiff, Nat.reduceAdd, Nat.reduceMul, Bool.true_eq_false, Bool.false_eq_true, Nat.add_sub_cancel, Nat.not_lt_zero, Nat.zero_le, k_sub, k_sb1, k_r, k_n, k_ret, k_t1, k_t0, k_nr, k_nn, k_z0, k_z1, k_zb, x_okI, lit_nI, k_in, k_cl, k_lt, k_le, k_eq, k_neg, nI_add, nI_mul, k_clt, k_cgt, k_cle, k_cge, k_ceq, bI_0, k_sh8, ne_eq, Nat.add_eq_zero_iff, Nat.one_ne_zero, Nat.succ_ne_zero, and_false, false_and, not_false_eq_true, not_true_eq_false, ite_true, ite_false, if_true, if_false, k4, hle]
  | k + 1, i, SF, T, w, l10, hi, h5, hw, h1 => by
    have hh0 := hh
    obtain ⟨HC, rC, hk, HO, HN, kO, kN, v5, ⟨dF6, dF10, dF3, dF9, dFO, dFN, oF1, oF2⟩, ⟨dR6, dRF, dRO, dRN⟩⟩ := hh
    have n8 := kN.2.1
    have k4 := kN.1
    have hle : ¬ nN ≤ i := by omega
    have h8 : ¬ 8 ≤ i := by omega
    have HN' : isB 1 (oh 5 (oh 9 g F SF) R T) κN SN := (HN.frame dFN).frame dRN
    have HC' : isB 6 (oh 5 (oh 9 g F SF) R T) Kc SC := (HC.frame dF6).frame dR6
    have iC : ∀ {α : Type} (f : Option α), xis (oh 5 (oh 9 g F SF) R T) Kc 6 f = f := fun f => h_is HC' f
    obtain ⟨SF1, T1, eF, fT, fF, gF⟩ := c_fillM d g (SF := SF) (T := T) (e := e) (ty := ty) (pl := pl i) hh0 hv hEn h5 (show i < nN by omega) (htn i (by omega)) hty (hpl i (by omega)) (fun o ho => hp2 i o (by omega) ho) (fun hne => by
      rw [(hw.1 i (by omega)).1, h1 i (Nat.le_refl _) (by omega) hne])
    have eN : nvS (fun i => fiM e vw ty (tn i) (pl i)) (k + 1) i w = (match fiM e vw ty (tn i) (pl i) with
      | .inl q => .inl (q, i)
      | .inr none => nvS (fun i => fiM e vw ty (tn i) (pl i)) k (i + 1) w
      | .inr (some x) => nvS (fun i => fiM e vw ty (tn i) (pl i)) k (i + 1) (nvU w i x)) := rfl
    rw [eN]
    have fF1 := fF.1
    cases hq : fiM e vw ty (tn i) (pl i) with
    | inl q =>
      rw [hq] at eF
      have eF : xm (d + 5) 96 [.ref Kc, .ref F, .int (nI i), .ref V, .ref ρ, .ref A] (oh 5 (oh 9 g F SF) R T) = some (some (.int (nI q)), oh 5 (oh 9 g F SF1) R T1) := eF
      have hq5 := fiM_ne hq
      have q0 : ¬ q = 0 := hq5.1
      have q1 := hq5.2
      have HC1 : isB 6 (oh 5 (oh 9 g F SF1) R T1) Kc SC := (HC.frame dF6).frame dR6
      have HV1 : isB 9 (oh 5 (oh 9 g F SF1) R T1) V SV := (hk.2.2.1.frame dF9).frame hk.2.2.2.2.2.2.2.2.2.2.1
      have iC1 : ∀ {α : Type} (f : Option α), xis (oh 5 (oh 9 g F SF1) R T1) Kc 6 f = f := fun f => h_is HC1 f
      have eR : xm (d + 5) 82 [.ref Kc, .int (nI q), .int (nI c), .int (nI i), .long vw.1, .long 0] (oh 5 (oh 9 g F SF1) R T1) = _ := c_refuseH (d + 4) HC1 (nI q) (nI c) (nI i) vw.1 0
      refine ⟨SF1, T1, fF1, fT, fun w' hw' => (by cases hw'), fun q2 m2 h2 => ?_⟩
      cases h2
      have v2 := hv.1
      rw [q_80_176]
      simp (disch := omega) only [q_80_178, q_80_180, q_80_183, q_80_186, q_80_188, q_80_190, q_80_193, q_80_194, q_80_196, q_80_198, q_80_199, q_80_200, q_80_202, q_80_205, q_80_207, q_80_209, q_80_212, q_80_213, q_80_215, q_80_216, q_80_219, q_80_221, q_80_222, q_80_225, q_80_226, q_80_229, q_80_230, q_80_233, q_80_236, q_80_237, q_80_238, q_80_240, q_80_243, q_80_244, og_9_4, og_6_9, og_9_2, og_10_3, og_3_0, og_6_11, op_6_11, og_6_0, og_5_2, og_5_3, og_9_3, op_9_3, og_1_4, o_is, o_ob, ofs_len1, ofs_len3, ofs_len5, ofs_len6, ofs_len9, ofs_len10, q_80_0, q_80_1, q_80_2, q_80_5, q_80_8, q_80_10, q_80_12, q_80_15, q_80_16, q_80_19, q_80_22, q_80_23, q_80_25, q_80_26, q_80_29, q_80_30, q_80_31, q_80_34, q_80_35, q_80_38, q_80_39, q_80_41, q_80_44, q_80_45, q_80_48, q_80_49, q_80_52, q_80_54, q_80_57, q_80_60, q_80_62, q_80_64, q_80_67, q_80_68, q_80_69, q_80_72, q_80_73, q_80_74, q_80_77, q_80_78, q_80_79, q_80_80, q_80_83, q_80_85, q_80_87, q_80_89, q_80_92, q_80_95, q_80_96, q_80_99, q_80_100, q_80_102, q_80_104, q_80_105, q_80_108, q_80_111, q_80_112, q_80_113, q_80_116, q_80_119, q_80_120, q_80_123, q_80_124, q_80_125, q_80_128, q_80_129, q_80_132, q_80_133, q_80_134, q_80_137, q_80_140, q_80_142, q_80_143, q_80_145, q_80_147, q_80_150, q_80_152, q_80_155, q_80_157, q_80_159, q_80_162, q_80_163, q_80_164, q_80_166, q_80_167, q_80_170, q_80_173, q_80_174, q_80_178, q_80_180, q_80_183, q_80_186, q_80_188, q_80_190, q_80_193, q_80_194, q_80_196, q_80_198, q_80_199, q_80_200, q_80_202, q_80_205, q_80_207, q_80_209, q_80_212, q_80_213, q_80_215, q_80_216, q_80_219, q_80_221, q_80_222, q_80_225, q_80_226, q_80_229, q_80_230, q_80_233, q_80_236, q_80_237, q_80_238, q_80_240, q_80_243, q_80_244, hg_1_4 HN', h_is HN', h_ob HN', ofs_len1, hg_9_4 HV1, hg_9_2 HV1, hg_9_3 HV1, hp_9_3 HV1, h_is HV1, h_ob HV1, ofs_len9, ↓reduceIte, k_cr, k_ci, k_oR, k_oN, k_aR, k_aN, and_true, true_and, and_self, eq_self, Nat.reduceLT, Nat.reduceLeDiff, Nat.reduceEqDiff, Nat.reduceAdd, Nat.reduceMul, Bool.true_eq_false, Bool.false_eq_true, Nat.add_sub_cancel, Nat.not_lt_zero, Nat.zero_le, k_sub, k_sb1, k_r, k_n, k_ret, k_t1, k_t0, k_nr, k_nn, k_z0, k_z1, k_zb, x_okI, lit_nI, k_in, k_cl, k_lt, k_le, k_eq, k_neg, nI_add, nI_mul, k_clt, k_cgt, k_cle, k_cge, k_ceq, bI_0, k_sh8, ne_eq, Nat.add_eq_zero_iff, Nat.one_ne_zero, Nat.succ_ne_zero, and_false, false_and, not_false_eq_true, not_true_eq_false, ite_true, ite_false, if_true, if_false, k4, hle, h8, iC, iC1, eF, q0, v4, v2, eR]
    | inr gx =>
      rw [hq] at eF
      have eF : xm (d + 5) 96 [.ref Kc, .ref F, .int (nI i), .ref V, .ref ρ, .ref A] (oh 5 (oh 9 g F SF) R T) = some (some (.int (nI 0)), oh 5 (oh 9 g F SF1) R T1) := eF
      have gR := gF gx hq
      have st : xrun (d + 5) 80 176 [(1, .ref Kc), (1, .ref V), (1, .ref σ), (1, .ref ρ), (1, .ref A), (1, .ref κN), (2, .long key), (0, .null), (1, .ref F), (1, .int (nI i)), l10] [] (oh 5 (oh 9 g F SF) R T) = xrun (d + 5) 80 176 [(1, .ref Kc), (1, .ref V), (1, .ref σ), (1, .ref ρ), (1, .ref A), (1, .ref κN), (2, .long key), (0, .null), (1, .ref F), (1, .int (nI (i + 1))), (1, .int (nI 0))] [] (oh 5 (oh 9 g F SF1) R T1) := by
        rw [q_80_176]
        simp (disch := omega) only [q_80_178, q_80_180, q_80_183, q_80_186, q_80_188, q_80_190, q_80_193, q_80_194, q_80_196, q_80_198, q_80_199, q_80_200, q_80_202, q_80_205, q_80_207, q_80_209, q_80_212, q_80_213, q_80_215, q_80_216, q_80_219, q_80_221, q_80_222, q_80_225, q_80_226, q_80_229, q_80_230, q_80_233, q_80_236, q_80_237, q_80_238, q_80_240, q_80_243, q_80_244, og_9_4, og_6_9, og_9_2, og_10_3, og_3_0, og_6_11, op_6_11, og_6_0, og_5_2, og_5_3, og_9_3, op_9_3, og_1_4, o_is, o_ob, ofs_len1, ofs_len3, ofs_len5, ofs_len6, ofs_len9, ofs_len10, q_80_0, q_80_1, q_80_2, q_80_5, q_80_8, q_80_10, q_80_12, q_80_15, q_80_16, q_80_19, q_80_22, q_80_23, q_80_25, q_80_26, q_80_29, q_80_30, q_80_31, q_80_34, q_80_35, q_80_38, q_80_39, q_80_41, q_80_44, q_80_45, q_80_48, q_80_49, q_80_52, q_80_54, q_80_57, q_80_60, q_80_62, q_80_64, q_80_67, q_80_68, q_80_69, q_80_72, q_80_73, q_80_74, q_80_77, q_80_78, q_80_79, q_80_80, q_80_83, q_80_85, q_80_87, q_80_89, q_80_92, q_80_95, q_80_96, q_80_99, q_80_100, q_80_102, q_80_104, q_80_105, q_80_108, q_80_111, q_80_112, q_80_113, q_80_116, q_80_119, q_80_120, q_80_123, q_80_124, q_80_125, q_80_128, q_80_129, q_80_132, q_80_133, q_80_134, q_80_137, q_80_140, q_80_142, q_80_143, q_80_145, q_80_147, q_80_150, q_80_152, q_80_155, q_80_157, q_80_159, q_80_162, q_80_163, q_80_164, q_80_166, q_80_167, q_80_170, q_80_173, q_80_174, q_80_178, q_80_180, q_80_183, q_80_186, q_80_188, q_80_190, q_80_193, q_80_194, q_80_196, q_80_198, q_80_199, q_80_200, q_80_202, q_80_205, q_80_207, q_80_209, q_80_212, q_80_213, q_80_215, q_80_216, q_80_219, q_80_221, q_80_222, q_80_225, q_80_226, q_80_229, q_80_230, q_80_233, q_80_236, q_80_237, q_80_238, q_80_240, q_80_243, q_80_244, hg_1_4 HN', h_is HN', h_ob HN', ofs_len1, ↓reduceIte, k_cr, k_ci, k_oR, k_oN, k_aR, k_aN, and_true, true_and, and_self, eq_self, Nat.reduceLT, Nat.reduceLeDiff, Nat.reduceEqDiff, Nat.reduceAdd, Nat.reduceMul, Bool.true_eq_false, Bool.false_eq_true, Nat.add_sub_cancel, Nat.not_lt_zero, Nat.zero_le, k_sub, k_sb1, k_r, k_n, k_ret, k_t1, k_t0, k_nr, k_nn, k_z0, k_z1, k_zb, x_okI, lit_nI, k_in, k_cl, k_lt, k_le, k_eq, k_neg, nI_add, nI_mul, k_clt, k_cgt, k_cle, k_cge, k_ceq, bI_0, k_sh8, ne_eq, Nat.add_eq_zero_iff, Nat.one_ne_zero, Nat.succ_ne_zero, and_false, false_and, not_false_eq_true, not_true_eq_false, ite_true, ite_false, if_true, if_false, k4, hle, h8, iC, eF]
      have h5' : sR SF1 5 = .ref κN := ((fF1 5 (by decide)).2.2.2.2.1).trans h5
      have go : ∀ w1 : vW, fwV nN SF1 w1 → w1.1 = w.1 → (∀ m, i + 1 ≤ m → w1.2.1 m = w.2.1 m) → ∃ SF' T', fr fiF SF SF' ∧ fr ckF3 T T' ∧ (∀ w', nvS (fun i => fiM e vw ty (tn i) (pl i)) k (i + 1) w1 = .inr w' → fwV nN SF' w' ∧ w'.1 = w.1 ∧ ∃ m9 m10, xrun (d + 5) 80 176 [(1, .ref Kc), (1, .ref V), (1, .ref σ), (1, .ref ρ), (1, .ref A), (1, .ref κN), (2, .long key), (0, .null), (1, .ref F), (1, .int (nI i)), l10] [] (oh 5 (oh 9 g F SF) R T) = xrun (d + 5) 80 236 [(1, .ref Kc), (1, .ref V), (1, .ref σ), (1, .ref ρ), (1, .ref A), (1, .ref κN), (2, .long key), (0, .null), (1, .ref F), (1, .int m9), m10] [] (oh 5 (oh 9 g F SF') R T')) ∧ ∀ q m, nvS (fun i => fiM e vw ty (tn i) (pl i)) k (i + 1) w1 = .inl (q, m) → xrun (d + 5) 80 176 [(1, .ref Kc), (1, .ref V), (1, .ref σ), (1, .ref ρ), (1, .ref A), (1, .ref κN), (2, .long key), (0, .null), (1, .ref F), (1, .int (nI i)), l10] [] (oh 5 (oh 9 g F SF) R T) = some (some (.int (nI 0)), oh 6 (oh 5 (oh 9 g F SF') R T') Kc (rfC SC (nI q) (nI c) (nI m) vw.1 0)) := by
        intro w1 hw1 hk1 hm1
        obtain ⟨SF', T', i1, i2, i3, i4⟩ := tv_loop d g (σ := σ) (key := key) hh0 hv hEn hty htn hpl hp2 v4 k (i + 1) SF1 T1 w1 (1, .int (nI 0)) (by omega) h5' hw1 (fun m h2 h3 h4 => by
          rw [hm1 m h2]
          exact h1 m (by omega) h3 h4)
        refine ⟨SF', T', fF1.trans i1, fT.trans i2, fun w' hw' => ?_, fun q m hq2 => st.trans (i4 q m hq2)⟩
        obtain ⟨j1, j2, m9, m10, j3⟩ := i3 w' hw'
        exact ⟨j1, j2.trans hk1, m9, m10, st.trans j3⟩
      cases gx with
      | none =>
        have gR : SF1 = SF := gR
        subst gR
        exact go w hw rfl (fun m _ => rfl)
      | some x =>
        have hx8 : x.1 ≤ 8 := fiM_8p hq (fun m hm => (hv.2.1 m (hp2 i m (by omega) hm)).2)
        refine go (nvU w i x) ⟨fun m hm => ?_, fun m kk hm hk => ?_⟩ rfl (fun m hm => ?_)
        · show sA SF1 0 m = nI (up w.2.1 i x.1 m) ∧ up w.2.1 i x.1 m ≤ 8
          unfold up
          by_cases hmi : m = i
          · rw [if_pos hmi, hmi]
            exact ⟨gR.1, hx8⟩
          · rw [if_neg hmi, fF.2.1 m hmi]
            exact hw.1 m hm
        · show sL SF1 1 (8 * m + kk) = if m = i ∧ kk < x.1 then x.2 kk else w.2.2 m kk
          by_cases hmi : m = i
          · subst hmi
            rw [gR.2 kk hk]
            by_cases hkx : kk < x.1
            · rw [if_pos hkx, if_pos ⟨rfl, hkx⟩]
            · rw [if_neg hkx, if_neg (fun z => hkx z.2)]
              exact hw.2 m kk hm hk
          · rw [if_neg (fun z => hmi z.1), fF.2.2 _ (by omega)]
            exact hw.2 m kk hm hk
        · show up w.2.1 i x.1 m = w.2.1 m
          unfold up
          rw [if_neg (by omega)]
