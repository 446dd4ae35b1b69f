/-! The class: what a new MEMBER gets. -/
/-- all that fill leans on: the Carrier at Kc, its Reckoner at R, the RuleSet at ρ, the Move at A, the old VALUE at V, the new one at F -/
def flH2 (h : xH) (Kc R ρ A V F C1 C2 N κO κN nO nN : Nat) (SC SR TM SV SK SN : gS) (f1 f2 : Nat → Int32) : Prop := isB 6 h Kc SC ∧ sR SC 0 = .ref R ∧ rkH h R ρ A V C1 C2 N SR TM SV f1 f2 ∧ isB 1 h κO SK ∧ isB 1 h κN SN ∧ kOK SK nO ∧ kOK SN nN ∧ sR SV 5 = .ref κO ∧ (dj 9 F 6 Kc ∧ dj 9 F 10 ρ ∧ dj 9 F 3 A ∧ dj 9 F 9 V ∧ dj 9 F 1 κO ∧ dj 9 F 1 κN ∧ ofp 9 F C1 = false ∧ ofp 9 F C2 = false) ∧ (dj 5 R 6 Kc ∧ dj 5 R 9 F ∧ dj 5 R 1 κO ∧ dj 5 R 1 κN)
/-- the Move's plan for slot i: an E's codes, or an old MEMBER -/
def plM (TM : gS) (e : kE) (vw : vW) (N : Nat) (f1 f2 : Nat → Int32) (i : Nat) (pl : Option (List aT) × Option Nat) : Prop := match pl.1 with
  | some B => ∃ s, sA TM 2 i = nI s ∧ sA TM 3 i = nI (s + B.length) ∧ s + B.length ≤ N ∧ 0 < B.length ∧ (∀ q a, B[q]? = some a → f1 (s + q) = (cod e a).1 ∧ f2 (s + q) = (cod e a).2) ∧ (∀ a, a ∈ B → actW e a ∧ actV e vw a) ∧ hOK 48 B 0 = some 1
  | none => ¬ sA TM 2 i < sA TM 3 i ∧ (i < 8 → sA TM 1 i = oI pl.2)
def fiR (SF SF' : gS) (m : Nat) : Option (Nat × (Nat → Int64)) → Prop
  | none => SF' = SF
  | some g => sA SF' 0 m = nI g.1 ∧ ∀ k, k < 8 → sL SF' 1 (8 * m + k) = if k < g.1 then g.2 k else sL SF 1 (8 * m + k)
def fiF (k : Nat) : Bool := decide (k = 0) || decide (k = 1)
def fiK (SF SF' : gS) (m : Nat) : Prop := fr fiF SF SF' ∧ (∀ q, q ≠ m → sA SF' 0 q = sA SF 0 q) ∧ ∀ q, (q < 8 * m ∨ 8 * m + 8 ≤ q) → sL SF' 1 q = sL SF 1 q
theorem fl_loop (d : Nat) (g : xH) {Kc ρ A V F i o n tt to nv : Nat} {SV : gS} {vw : vW} {ty : Nat → Nat} (HV : ∀ SF, isB 9 (oh 9 g F SF) V SV) (hv : ckV nv SV vw) (hn8 : nv ≤ 8) (hi : i < 8) (ho : o < nv) (htt : tt ≤ 7) (hto : ty o ≤ 7) (hn : vw.2.1 o = n) : ∀ (k j : Nat) (SF : gS) (l11 : Nat × Value), j + k = n → ∃ SF', fr fiF SF SF' ∧ (∀ q, sA SF' 0 q = if q = i ∧ cpQ vw ty tt o k j = true then nI n else sA SF 0 q) ∧ (∀ q, (q < 8 * i + j ∨ 8 * i + (j + k) ≤ q) → sL SF' 1 q = sL SF 1 q) ∧ (cpQ vw ty tt o k j = true → ∀ x, j ≤ x → x < j + k → sL SF' 1 (8 * i + x) = tnC (vw.2.2 o x) (ty o) tt) ∧ xrun (d + 4) 96 121 [(1, .ref Kc), (1, .ref F), (1, .int (nI i)), (1, .ref V), (1, .ref ρ), (1, .ref A), (1, .int (nI tt)), (1, .int (nI o)), (1, .int (nI (ty o))), (1, .int (nI n)), (1, .int (nI j)), l11, (0, .null)] [] (oh 9 g F SF) = some (some (.int (if cpQ vw ty tt o k j = true then nI 0 else nI 1)), oh 9 g F SF')
  | 0, j, SF, l11, hj => by
    have h8 := (hv.2.1 o ho).2
    rw [hn] at h8
    have hle : n ≤ j := by omega
    have eZ : xm (d + 4) 37 [.ref F, .int (nI i), .int (nI n)] (oh 9 g F SF) = _ := c_resize (d + 3) (oh 9 g F SF) F i n SF (isB_oh _ _ _ _) hi h8
    rw [oh_oh] at eZ
    have iF : ∀ {α : Type} (f : Option α), xis (oh 9 g F SF) F 9 f = f := fun f => h_is (isB_oh _ _ _ _) f
    refine ⟨uA SF 0 i (nI n), fr.rfl.uA (by decide), fun q => ?_, fun q _ => rfl, fun _ x h1 h2 => by omega, ?_⟩
    · rw [sA_uA]
      by_cases c : q = i
      · rw [if_pos ⟨rfl, c⟩, if_pos ⟨c, rfl⟩]
      · rw [if_neg (fun z => c z.2), if_neg (fun z => c z.1)]
    · show _ = some (some (Value.int (nI 0)), oh 9 g F (uA SF 0 i (nI n)))
      rw [q_96_121]
      simp (disch := omega) only [q_96_0, q_96_1, q_96_4, q_96_5, q_96_8, q_96_10, q_96_12, q_96_13, q_96_16, q_96_19, q_96_20, q_96_23, q_96_25, q_96_27, q_96_28, q_96_29, q_96_32, q_96_35, q_96_36, q_96_39, q_96_42, q_96_43, q_96_44, q_96_47, q_96_50, q_96_51, q_96_53, q_96_56, q_96_59, q_96_60, q_96_61, q_96_62, q_96_63, q_96_64, q_96_65, q_96_68, q_96_71, q_96_72, q_96_74, q_96_77, q_96_80, q_96_81, q_96_82, q_96_84, q_96_87, q_96_88, q_96_89, q_96_91, q_96_93, q_96_94, q_96_97, q_96_98, q_96_99, q_96_100, q_96_103, q_96_105, q_96_108, q_96_110, q_96_111, q_96_113, q_96_116, q_96_118, q_96_119, q_96_123, q_96_125, q_96_128, q_96_129, q_96_131, q_96_133, q_96_136, q_96_138, q_96_140, q_96_142, q_96_144, q_96_147, q_96_150, q_96_151, q_96_152, q_96_153, q_96_154, q_96_156, q_96_158, q_96_160, q_96_162, q_96_165, q_96_168, q_96_171, q_96_174, q_96_175, q_96_176, q_96_178, q_96_181, q_96_182, og_9_5, og_6_0, og_5_2, og_5_3, og_3_1, or_3_1, ow_3_1, o_is, o_ob, ofs_len3, ofs_len5, ofs_len6, ofs_len9, ↓reduceIte, k_cr, k_ci, k_oR, k_oN, k_aR, k_aN, and_true, true_and, and_self, eq_self, Nat.reduceLT, Nat.reduceLeDiff, Nat.reduceEqDiff, Nat.reduceAdd, Nat.reduceMul, Bool.true_eq_false, Bool.false_eq_true, Nat.add_sub_cancel, Nat.not_lt_zero, Nat.zero_le, k_sub, k_sb1, k_r, k_n, k_ret, k_t1, k_t0, k_nr, k_nn, k_z0, k_z1, k_zb, x_okI, lit_nI, k_in, k_cl, k_lt, k_le, k_eq, k_neg, nI_add, nI_mul, k_clt, k_cgt, k_cle, k_cge, k_ceq, bI_0, k_sh8, ne_eq, Nat.add_eq_zero_iff, Nat.one_ne_zero, Nat.succ_ne_zero, and_false, false_and, not_false_eq_true, not_true_eq_false, ite_true, ite_false, if_true, if_false, hle, iF, eZ]
  | k + 1, j, SF, l11, hj => by
    have h8 := (hv.2.1 o ho).2
    rw [hn] at h8
    have hle : ¬ n ≤ j := by omega
    have eB : xm (d + 4) 86 [.ref V, .int (nI o), .int (nI j)] (oh 9 g F SF) = _ := c_bitsAt (d + 3) (oh 9 g F SF) V o j n SV (HV SF) (by omega) (by omega) (fun _ => by rw [(hv.2.1 o ho).1, hn]) h8
    rw [if_pos ⟨by omega, by omega⟩, hv.2.2 o j ho (by omega)] at eB
    have eT := c_fits d (oh 9 g F SF) (vw.2.2 o j) hto htt
    have eU := c_turned d (oh 9 g F SF) (vw.2.2 o j) hto htt
    have eP : xm (d + 4) 34 [.ref F, .int (nI i), .int (nI j), .long (tnC (vw.2.2 o j) (ty o) tt)] (oh 9 g F SF) = _ := c_put (d + 3) (oh 9 g F SF) F i j (tnC (vw.2.2 o j) (ty o) tt) SF (isB_oh _ _ _ _) hi (by omega)
    rw [oh_oh] at eP
    have iF : ∀ {α : Type} (f : Option α), xis (oh 9 g F SF) F 9 f = f := fun f => h_is (isB_oh _ _ _ _) f
    have iV : ∀ {α : Type} (f : Option α), xis (oh 9 g F SF) V 9 f = f := fun f => h_is (HV SF) f
    have ec : cpQ vw ty tt o (k + 1) j = (ftC (vw.2.2 o j) (ty o) tt && cpQ vw ty tt o k (j + 1)) := rfl
    cases hb : ftC (vw.2.2 o j) (ty o) tt with
    | false =>
      rw [hb, bI_f] at eT
      rw [ec, hb, Bool.false_and]
      refine ⟨SF, fr.rfl, fun q => by rw [if_neg (fun z => by cases z.2)], fun _ _ => rfl, fun z => (by cases z), ?_⟩
      rw [if_neg (by decide), q_96_121]
      simp (disch := omega) only [q_96_0, q_96_1, q_96_4, q_96_5, q_96_8, q_96_10, q_96_12, q_96_13, q_96_16, q_96_19, q_96_20, q_96_23, q_96_25, q_96_27, q_96_28, q_96_29, q_96_32, q_96_35, q_96_36, q_96_39, q_96_42, q_96_43, q_96_44, q_96_47, q_96_50, q_96_51, q_96_53, q_96_56, q_96_59, q_96_60, q_96_61, q_96_62, q_96_63, q_96_64, q_96_65, q_96_68, q_96_71, q_96_72, q_96_74, q_96_77, q_96_80, q_96_81, q_96_82, q_96_84, q_96_87, q_96_88, q_96_89, q_96_91, q_96_93, q_96_94, q_96_97, q_96_98, q_96_99, q_96_100, q_96_103, q_96_105, q_96_108, q_96_110, q_96_111, q_96_113, q_96_116, q_96_118, q_96_119, q_96_123, q_96_125, q_96_128, q_96_129, q_96_131, q_96_133, q_96_136, q_96_138, q_96_140, q_96_142, q_96_144, q_96_147, q_96_150, q_96_151, q_96_152, q_96_153, q_96_154, q_96_156, q_96_158, q_96_160, q_96_162, q_96_165, q_96_168, q_96_171, q_96_174, q_96_175, q_96_176, q_96_178, q_96_181, q_96_182, og_9_5, og_6_0, og_5_2, og_5_3, og_3_1, or_3_1, ow_3_1, o_is, o_ob, ofs_len3, ofs_len5, ofs_len6, ofs_len9, ↓reduceIte, k_cr, k_ci, k_oR, k_oN, k_aR, k_aN, and_true, true_and, and_self, eq_self, Nat.reduceLT, Nat.reduceLeDiff, Nat.reduceEqDiff, Nat.reduceAdd, Nat.reduceMul, Bool.true_eq_false, Bool.false_eq_true, Nat.add_sub_cancel, Nat.not_lt_zero, Nat.zero_le, k_sub, k_sb1, k_r, k_n, k_ret, k_t1, k_t0, k_nr, k_nn, k_z0, k_z1, k_zb, x_okI, lit_nI, k_in, k_cl, k_lt, k_le, k_eq, k_neg, nI_add, nI_mul, k_clt, k_cgt, k_cle, k_cge, k_ceq, bI_0, k_sh8, ne_eq, Nat.add_eq_zero_iff, Nat.one_ne_zero, Nat.succ_ne_zero, and_false, false_and, not_false_eq_true, not_true_eq_false, ite_true, ite_false, if_true, if_false, hle, iV, eB, eT]
    | true =>
      rw [hb, bI_t] at eT
      rw [ec, hb, Bool.true_and]
      obtain ⟨SF', i1, i2, i3, i4, i5⟩ := fl_loop d g (Kc := Kc) (ρ := ρ) (A := A) (to := to) HV hv hn8 hi ho htt hto hn k (j + 1) (uL SF 1 (8 * i + j) (tnC (vw.2.2 o j) (ty o) tt)) (2, .long (vw.2.2 o j)) (by omega)
      have h11 : ∀ q, sL (uL SF 1 (8 * i + j) (tnC (vw.2.2 o j) (ty o) tt)) 1 q = if q = 8 * i + j then tnC (vw.2.2 o j) (ty o) tt else sL SF 1 q := fun q => by
        rw [sL_uL]
        by_cases c : q = 8 * i + j
        · rw [if_pos ⟨rfl, c⟩, if_pos c]
        · rw [if_neg (fun z => c z.2), if_neg c]
      refine ⟨SF', (fr.rfl.uL (by decide)).trans i1, i2, fun q hq => ?_, fun hc x h1 h2 => ?_, ?_⟩
      · rw [i3 q (by omega), h11, if_neg (by omega)]
      · by_cases hx : x = j
        · subst hx
          rw [i3 _ (by omega), h11, if_pos rfl]
        · exact i4 hc x (by omega) (by omega)
      · rw [← i5, q_96_121]
        simp (disch := omega) only [q_96_0, q_96_1, q_96_4, q_96_5, q_96_8, q_96_10, q_96_12, q_96_13, q_96_16, q_96_19, q_96_20, q_96_23, q_96_25, q_96_27, q_96_28, q_96_29, q_96_32, q_96_35, q_96_36, q_96_39, q_96_42, q_96_43, q_96_44, q_96_47, q_96_50, q_96_51, q_96_53, q_96_56, q_96_59, q_96_60, q_96_61, q_96_62, q_96_63, q_96_64, q_96_65, q_96_68, q_96_71, q_96_72, q_96_74, q_96_77, q_96_80, q_96_81, q_96_82, q_96_84, q_96_87, q_96_88, q_96_89, q_96_91, q_96_93, q_96_94, q_96_97, q_96_98, q_96_99, q_96_100, q_96_103, q_96_105, q_96_108, q_96_110, q_96_111, q_96_113, q_96_116, q_96_118, q_96_119, q_96_123, q_96_125, q_96_128, q_96_129, q_96_131, q_96_133, q_96_136, q_96_138, q_96_140, q_96_142, q_96_144, q_96_147, q_96_150, q_96_151, q_96_152, q_96_153, q_96_154, q_96_156, q_96_158, q_96_160, q_96_162, q_96_165, q_96_168, q_96_171, q_96_174, q_96_175, q_96_176, q_96_178, q_96_181, q_96_182, og_9_5, og_6_0, og_5_2, og_5_3, og_3_1, or_3_1, ow_3_1, o_is, o_ob, ofs_len3, ofs_len5, ofs_len6, ofs_len9, ↓reduceIte, k_cr, k_ci, k_oR, k_oN, k_aR, k_aN, and_true, true_and, and_self, eq_self, Nat.reduceLT, Nat.reduceLeDiff, Nat.reduceEqDiff, Nat.reduceAdd, Nat.reduceMul, Bool.true_eq_false, Bool.false_eq_true, Nat.add_sub_cancel, Nat.not_lt_zero, Nat.zero_le, k_sub, k_sb1, k_r, k_n, k_ret, k_t1, k_t0, k_nr, k_nn, k_z0, k_z1, k_zb, x_okI, lit_nI, k_in, k_cl, k_lt, k_le, k_eq, k_neg, nI_add, nI_mul, k_clt, k_cgt, k_cle, k_cge, k_ceq, bI_0, k_sh8, ne_eq, Nat.add_eq_zero_iff, Nat.one_ne_zero, Nat.succ_ne_zero, and_false, false_and, not_false_eq_true, not_true_eq_false, ite_true, ite_false, if_true, if_false, hle, iV, iF, eB, eT, eU, eP]
theorem c_fillM (d : Nat) (h : xH) {Kc R ρ A V F C1 C2 N κO κN nO nN i tt : Nat} {SC SR TM SV SK SN SF T : gS} {f1 f2 : Nat → Int32} {vw : vW} {e : kE} {ty : Nat → Nat} {pl : Option (List aT) × Option Nat} (hh : flH2 h Kc R ρ A V F C1 C2 N κO κN nO nN SC SR TM SV SK SN f1 f2) (hv : ckV nO SV vw) (hEn : ∀ w m, e.1 w = some m → m < nO) (hF5 : sR SF 5 = .ref κN) (hi : i < nN) (htt : sA SN 2 i = nI tt ∧ tt ≤ 7) (hty : ∀ q, q < nO → sA SK 2 q = nI (ty q) ∧ ty q ≤ 7) (hpl : plM TM e vw N f1 f2 i pl) (hp2 : ∀ o, pl.2 = some o → o < nO) (hc1 : pl.1 ≠ none → sA SF 0 i = nI 1) : ∃ SF' T', xm (d + 5) 96 [.ref Kc, .ref F, .int (nI i), .ref V, .ref ρ, .ref A] (oh 5 (oh 9 h F SF) R T) = some (some (.int (nI (fiQ (fiM e vw ty tt pl)))), oh 5 (oh 9 h F SF') R T') ∧ fr ckF3 T T' ∧ fiK SF SF' i ∧ ∀ g, fiM e vw ty tt pl = .inr g → fiR SF SF' i g := by
  obtain ⟨HC, rC, hk, HO, HN, kO, kN, v5, ⟨dF6, dF10, dF3, dF9, dFO, dFN, oF1, oF2⟩, ⟨dR6, dRF, dRO, dRN⟩⟩ := hh
  obtain ⟨HR, HM, HV, r1, r2, a1, a2, hN, d10, d3, d9, o1, o2⟩ := hk
  have n8 : nN ≤ 8 := kN.2.1
  have m8 : nO ≤ 8 := kO.2.1
  have hk' : ∀ SF, rkH (oh 9 h F SF) R ρ A V C1 C2 N SR TM SV f1 f2 := fun SF => ⟨HR.frame dF10, HM.frame dF3, HV.frame dF9, r1, r2, a1.frame oF1, a2.frame oF2, hN, d10, d3, d9, o1, o2⟩
  have HC' : isB 6 (oh 5 (oh 9 h F SF) R T) Kc SC := (HC.frame dF6).frame dR6
  have HF' : isB 9 (oh 5 (oh 9 h F SF) R T) F SF := (isB_oh _ _ _ _ : isB 9 (oh 9 h F SF) F SF).frame dRF
  have HN' : isB 1 (oh 5 (oh 9 h F SF) R T) κN SN := (HN.frame dFN).frame dRN
  have HM' : isB 3 (oh 5 (oh 9 h F SF) R T) A TM := (HM.frame dF3).frame d3
  have HV' : isB 9 (oh 5 (oh 9 h F SF) R T) V SV := (HV.frame dF9).frame d9
  have HO' : isB 1 (oh 5 (oh 9 h F SF) R T) κO SK := (HO.frame dFO).frame dRO
  have eT : xm (d + 4) 32 [.ref κN, .int (nI i)] (oh 5 (oh 9 h F SF) R T) = _ := c_typeAt (d + 3) (oh 5 (oh 9 h F SF) R T) κN nN i SN HN' kN (by omega)
  rw [if_pos hi, htt.1] at eT
  have eW : xm (d + 4) 83 [.ref A, .int (nI i)] (oh 5 (oh 9 h F SF) R T) = _ := c_isWorked (d + 3) (oh 5 (oh 9 h F SF) R T) A i TM HM' (by omega)
  have eE : xm (d + 5) 96 [.ref Kc, .ref F, .int (nI i), .ref V, .ref ρ, .ref A] (oh 5 (oh 9 h F SF) R T) = _ := E_96 (d + 4) (oh 5 (oh 9 h F SF) R T) (.ref Kc) (.ref F) (nI i) (.ref V) (.ref ρ) (.ref A) rfl rfl rfl rfl rfl
  have iN : ∀ {α : Type} (f : Option α), xis (oh 5 (oh 9 h F SF) R T) κN 1 f = f := fun f => h_is HN' f
  have iA : ∀ {α : Type} (f : Option α), xis (oh 5 (oh 9 h F SF) R T) A 3 f = f := fun f => h_is HM' f
  have iV : ∀ {α : Type} (f : Option α), xis (oh 5 (oh 9 h F SF) R T) V 9 f = f := fun f => h_is HV' f
  have iO : ∀ {α : Type} (f : Option α), xis (oh 5 (oh 9 h F SF) R T) κO 1 f = f := fun f => h_is HO' f
  rw [eE]
  obtain ⟨p1, p2⟩ := pl
  cases p1 with
  | some B =>
    obtain ⟨s, s1, s2, s3, s4, s5, s6, s7⟩ := hpl
    have c10 := hc1 (fun z => by cases z)
    rw [decide_eq_true (show sA TM 2 i < sA TM 3 i by rw [s1, s2, k_lt (by omega) (by omega)]; omega), bI_t] at eW
    obtain ⟨T1, eR, fR, gR⟩ := c_reckon (d + 1) (oh 9 h F SF) (T := T) (e := e) (hk' SF) hv m8 hEn (show i < 9 by omega) s1 s2 s3 s5 s6 s7
    have eR : xm (d + 4) 84 [.ref R, .ref ρ, .ref A, .int (nI i), .ref V] (oh 5 (oh 9 h F SF) R T) = _ := eR
    have iR : ∀ (T : gS) {α : Type} (f : Option α), xis (oh 5 (oh 9 h F SF) R T) R 5 f = f := fun T _ f => h_is (isB_oh _ _ _ _) f
    have HC1 : isB 6 (oh 5 (oh 9 h F SF) R T1) Kc SC := (HC.frame dF6).frame dR6
    have HF1 : isB 9 (oh 5 (oh 9 h F SF) R T1) F SF := (isB_oh _ _ _ _ : isB 9 (oh 9 h F SF) F SF).frame dRF
    show ∃ SF' T', _ = some (some (Value.int (nI (fiQ (fiW (evF e vw B (fun _ => 0) 0) tt)))), oh 5 (oh 9 h F SF') R T') ∧ fr ckF3 T T' ∧ fiK SF SF' i ∧ ∀ g, fiW (evF e vw B (fun _ => 0) 0) tt = .inr g → fiR SF SF' i g
    cases hev : evF e vw B (fun _ => 0) 0 with
    | inl q =>
      rw [hev] at eR gR
      have eR : xm (d + 4) 84 [.ref R, .ref ρ, .ref A, .int (nI i), .ref V] (oh 5 (oh 9 h F SF) R T) = some (some (.int (nI 0)), oh 5 (oh 9 h F SF) R T1) := eR
      have gR2 : sI T1 2 = nI q := gR.1
      refine ⟨SF, T1, ?_, fR, ⟨fr.rfl, fun _ _ => rfl, fun _ _ => rfl⟩, fun g hg => by cases hg⟩
      show _ = some (some (Value.int (nI q)), oh 5 (oh 9 h F SF) R T1)
      simp (disch := omega) only [q_96_0, q_96_1, q_96_4, q_96_5, q_96_8, q_96_10, q_96_12, q_96_13, q_96_16, q_96_19, q_96_20, q_96_23, q_96_25, q_96_27, q_96_28, q_96_29, q_96_32, q_96_35, q_96_36, q_96_39, q_96_42, q_96_43, q_96_44, q_96_47, q_96_50, q_96_51, q_96_53, q_96_56, q_96_59, q_96_60, q_96_61, q_96_62, q_96_63, q_96_64, q_96_65, q_96_68, q_96_71, q_96_72, q_96_74, q_96_77, q_96_80, q_96_81, og_9_5, og_6_0, og_5_2, og_5_3, og_3_1, or_3_1, ow_3_1, o_is, o_ob, ofs_len3, ofs_len5, ofs_len6, ofs_len9, q_96_0, q_96_1, q_96_4, q_96_5, q_96_8, q_96_10, q_96_12, q_96_13, q_96_16, q_96_19, q_96_20, q_96_23, q_96_25, q_96_27, q_96_28, q_96_29, q_96_32, q_96_35, q_96_36, q_96_39, q_96_42, q_96_43, q_96_44, q_96_47, q_96_50, q_96_51, q_96_53, q_96_56, q_96_59, q_96_60, q_96_61, q_96_62, q_96_63, q_96_64, q_96_65, q_96_68, q_96_71, q_96_72, q_96_74, q_96_77, q_96_80, q_96_81, q_96_82, q_96_84, q_96_87, q_96_88, q_96_89, q_96_91, q_96_93, q_96_94, q_96_97, q_96_98, q_96_99, q_96_100, q_96_103, q_96_105, q_96_108, q_96_110, q_96_111, q_96_113, q_96_116, q_96_118, q_96_119, q_96_123, q_96_125, q_96_128, q_96_129, q_96_131, q_96_133, q_96_136, q_96_138, q_96_140, q_96_142, q_96_144, q_96_147, q_96_150, q_96_151, q_96_152, q_96_153, q_96_154, q_96_156, q_96_158, q_96_160, q_96_162, q_96_165, q_96_168, q_96_171, q_96_174, q_96_175, q_96_176, q_96_178, q_96_181, q_96_182, hg_6_0 HC', h_is HC', h_ob HC', ofs_len6, hg_6_0 HC1, h_is HC1, h_ob HC1, ofs_len6, hg_9_5 HF', h_is HF', h_ob HF', ofs_len9, hg_3_1 HM', hr_3_1 HM', hw_3_1 HM', h_is HM', h_ob HM', ofs_len3, ↓reduceIte, k_cr, k_ci, k_oR, k_oN, k_aR, k_aN, and_true, true_and, and_self, eq_self, Nat.reduceLT, Nat.reduceLeDiff, Nat.reduceEqDiff, Nat.reduceAdd, Nat.reduceMul, Bool.true_eq_false, Bool.false_eq_true, Nat.add_sub_cancel, Nat.not_lt_zero, Nat.zero_le, k_sub, k_sb1, k_r, k_n, k_ret, k_t1, k_t0, k_nr, k_nn, k_z0, k_z1, k_zb, x_okI, lit_nI, k_in, k_cl, k_lt, k_le, k_eq, k_neg, nI_add, nI_mul, k_clt, k_cgt, k_cle, k_cge, k_ceq, bI_0, k_sh8, ne_eq, Nat.add_eq_zero_iff, Nat.one_ne_zero, Nat.succ_ne_zero, and_false, false_and, not_false_eq_true, not_true_eq_false, ite_true, ite_false, if_true, if_false, rC, hF5, iN, iA, iR, eT, eW, eR, gR2]
    | inr z =>
      rw [hev] at eR gR
      have eR : xm (d + 4) 84 [.ref R, .ref ρ, .ref A, .int (nI i), .ref V] (oh 5 (oh 9 h F SF) R T) = some (some (.int (nI 1)), oh 5 (oh 9 h F SF) R T1) := eR
      have gR3 : sJ T1 3 = z.1 0 := gR.2 rfl
      have eT2 := c_fits d (oh 5 (oh 9 h F SF) R T1) (z.1 0) (f := 5) (by omega) htt.2
      have eU := c_turned d (oh 5 (oh 9 h F SF) R T1) (z.1 0) (f := 5) (by omega) htt.2
      show ∃ SF' T', _ = some (some (Value.int (nI (fiQ (if ftC (z.1 0) 5 tt = true then .inr (some (1, fun _ => tnC (z.1 0) 5 tt)) else .inl 1)))), oh 5 (oh 9 h F SF') R T') ∧ fr ckF3 T T' ∧ fiK SF SF' i ∧ ∀ g, (if ftC (z.1 0) 5 tt = true then .inr (some (1, fun _ => tnC (z.1 0) 5 tt)) else .inl 1 : Nat ⊕ Option (Nat × (Nat → Int64))) = .inr g → fiR SF SF' i g
      cases hb : ftC (z.1 0) 5 tt with
      | false =>
        rw [hb, bI_f] at eT2
        refine ⟨SF, T1, ?_, fR, ⟨fr.rfl, fun _ _ => rfl, fun _ _ => rfl⟩, fun g hg => by cases hg⟩
        show _ = some (some (Value.int (nI 1)), oh 5 (oh 9 h F SF) R T1)
        simp (disch := omega) only [q_96_0, q_96_1, q_96_4, q_96_5, q_96_8, q_96_10, q_96_12, q_96_13, q_96_16, q_96_19, q_96_20, q_96_23, q_96_25, q_96_27, q_96_28, q_96_29, q_96_32, q_96_35, q_96_36, q_96_39, q_96_42, q_96_43, q_96_44, q_96_47, q_96_50, q_96_51, q_96_53, q_96_56, q_96_59, q_96_60, q_96_61, q_96_62, q_96_63, q_96_64, q_96_65, q_96_68, q_96_71, q_96_72, q_96_74, q_96_77, q_96_80, q_96_81, og_9_5, og_6_0, og_5_2, og_5_3, og_3_1, or_3_1, ow_3_1, o_is, o_ob, ofs_len3, ofs_len5, ofs_len6, ofs_len9, q_96_0, q_96_1, q_96_4, q_96_5, q_96_8, q_96_10, q_96_12, q_96_13, q_96_16, q_96_19, q_96_20, q_96_23, q_96_25, q_96_27, q_96_28, q_96_29, q_96_32, q_96_35, q_96_36, q_96_39, q_96_42, q_96_43, q_96_44, q_96_47, q_96_50, q_96_51, q_96_53, q_96_56, q_96_59, q_96_60, q_96_61, q_96_62, q_96_63, q_96_64, q_96_65, q_96_68, q_96_71, q_96_72, q_96_74, q_96_77, q_96_80, q_96_81, q_96_82, q_96_84, q_96_87, q_96_88, q_96_89, q_96_91, q_96_93, q_96_94, q_96_97, q_96_98, q_96_99, q_96_100, q_96_103, q_96_105, q_96_108, q_96_110, q_96_111, q_96_113, q_96_116, q_96_118, q_96_119, q_96_123, q_96_125, q_96_128, q_96_129, q_96_131, q_96_133, q_96_136, q_96_138, q_96_140, q_96_142, q_96_144, q_96_147, q_96_150, q_96_151, q_96_152, q_96_153, q_96_154, q_96_156, q_96_158, q_96_160, q_96_162, q_96_165, q_96_168, q_96_171, q_96_174, q_96_175, q_96_176, q_96_178, q_96_181, q_96_182, hg_6_0 HC', h_is HC', h_ob HC', ofs_len6, hg_6_0 HC1, h_is HC1, h_ob HC1, ofs_len6, hg_9_5 HF', h_is HF', h_ob HF', ofs_len9, hg_3_1 HM', hr_3_1 HM', hw_3_1 HM', h_is HM', h_ob HM', ofs_len3, ↓reduceIte, k_cr, k_ci, k_oR, k_oN, k_aR, k_aN, and_true, true_and, and_self, eq_self, Nat.reduceLT, Nat.reduceLeDiff, Nat.reduceEqDiff, Nat.reduceAdd, Nat.reduceMul, Bool.true_eq_false, Bool.false_eq_true, Nat.add_sub_cancel, Nat.not_lt_zero, Nat.zero_le, k_sub, k_sb1, k_r, k_n, k_ret, k_t1, k_t0, k_nr, k_nn, k_z0, k_z1, k_zb, x_okI, lit_nI, k_in, k_cl, k_lt, k_le, k_eq, k_neg, nI_add, nI_mul, k_clt, k_cgt, k_cle, k_cge, k_ceq, bI_0, k_sh8, ne_eq, Nat.add_eq_zero_iff, Nat.one_ne_zero, Nat.succ_ne_zero, and_false, false_and, not_false_eq_true, not_true_eq_false, ite_true, ite_false, if_true, if_false, rC, hF5, iN, iA, iR, eT, eW, eR, gR3, eT2]
      | true =>
        rw [hb, bI_t] at eT2
        have eP : xm (d + 4) 34 [.ref F, .int (nI i), .int (nI 0), .long (tnC (z.1 0) 5 tt)] (oh 5 (oh 9 h F SF) R T1) = _ := c_put (d + 3) (oh 5 (oh 9 h F SF) R T1) F i 0 (tnC (z.1 0) 5 tt) SF HF1 (by omega) (by omega)
        rw [show 8 * i + 0 = 8 * i from rfl, oh_comm dRF.symm, oh_oh] at eP
        have iF : ∀ {α : Type} (f : Option α), xis (oh 5 (oh 9 h F SF) R T1) F 9 f = f := fun f => h_is HF1 f
        have h11 : ∀ q, sL (uL SF 1 (8 * i) (tnC (z.1 0) 5 tt)) 1 q = if q = 8 * i then tnC (z.1 0) 5 tt else sL SF 1 q := fun q => by
          rw [sL_uL]
          by_cases c : q = 8 * i
          · rw [if_pos ⟨rfl, c⟩, if_pos c]
          · rw [if_neg (fun z => c z.2), if_neg c]
        refine ⟨uL SF 1 (8 * i) (tnC (z.1 0) 5 tt), T1, ?_, fR, ⟨fr.rfl.uL (by decide), fun _ _ => rfl, fun q hq => by rw [h11, if_neg (by omega)]⟩, fun g hg => ?_⟩
        · show _ = some (some (Value.int (nI 0)), oh 5 (oh 9 h F (uL SF 1 (8 * i) (tnC (z.1 0) 5 tt))) R T1)
          simp (disch := omega) only [q_96_0, q_96_1, q_96_4, q_96_5, q_96_8, q_96_10, q_96_12, q_96_13, q_96_16, q_96_19, q_96_20, q_96_23, q_96_25, q_96_27, q_96_28, q_96_29, q_96_32, q_96_35, q_96_36, q_96_39, q_96_42, q_96_43, q_96_44, q_96_47, q_96_50, q_96_51, q_96_53, q_96_56, q_96_59, q_96_60, q_96_61, q_96_62, q_96_63, q_96_64, q_96_65, q_96_68, q_96_71, q_96_72, q_96_74, q_96_77, q_96_80, q_96_81, og_9_5, og_6_0, og_5_2, og_5_3, og_3_1, or_3_1, ow_3_1, o_is, o_ob, ofs_len3, ofs_len5, ofs_len6, ofs_len9, q_96_0, q_96_1, q_96_4, q_96_5, q_96_8, q_96_10, q_96_12, q_96_13, q_96_16, q_96_19, q_96_20, q_96_23, q_96_25, q_96_27, q_96_28, q_96_29, q_96_32, q_96_35, q_96_36, q_96_39, q_96_42, q_96_43, q_96_44, q_96_47, q_96_50, q_96_51, q_96_53, q_96_56, q_96_59, q_96_60, q_96_61, q_96_62, q_96_63, q_96_64, q_96_65, q_96_68, q_96_71, q_96_72, q_96_74, q_96_77, q_96_80, q_96_81, q_96_82, q_96_84, q_96_87, q_96_88, q_96_89, q_96_91, q_96_93, q_96_94, q_96_97, q_96_98, q_96_99, q_96_100, q_96_103, q_96_105, q_96_108, q_96_110, q_96_111, q_96_113, q_96_116, q_96_118, q_96_119, q_96_123, q_96_125, q_96_128, q_96_129, q_96_131, q_96_133, q_96_136, q_96_138, q_96_140, q_96_142, q_96_144, q_96_147, q_96_150, q_96_151, q_96_152, q_96_153, q_96_154, q_96_156, q_96_158, q_96_160, q_96_162, q_96_165, q_96_168, q_96_171, q_96_174, q_96_175, q_96_176, q_96_178, q_96_181, q_96_182, hg_6_0 HC', h_is HC', h_ob HC', ofs_len6, hg_6_0 HC1, h_is HC1, h_ob HC1, ofs_len6, hg_9_5 HF', h_is HF', h_ob HF', ofs_len9, hg_3_1 HM', hr_3_1 HM', hw_3_1 HM', h_is HM', h_ob HM', ofs_len3, ↓reduceIte, k_cr, k_ci, k_oR, k_oN, k_aR, k_aN, and_true, true_and, and_self, eq_self, Nat.reduceLT, Nat.reduceLeDiff, Nat.reduceEqDiff, Nat.reduceAdd, Nat.reduceMul, Bool.true_eq_false, Bool.false_eq_true, Nat.add_sub_cancel, Nat.not_lt_zero, Nat.zero_le, k_sub, k_sb1, k_r, k_n, k_ret, k_t1, k_t0, k_nr, k_nn, k_z0, k_z1, k_zb, x_okI, lit_nI, k_in, k_cl, k_lt, k_le, k_eq, k_neg, nI_add, nI_mul, k_clt, k_cgt, k_cle, k_cge, k_ceq, bI_0, k_sh8, ne_eq, Nat.add_eq_zero_iff, Nat.one_ne_zero, Nat.succ_ne_zero, and_false, false_and, not_false_eq_true, not_true_eq_false, ite_true, ite_false, if_true, if_false, rC, hF5, iN, iA, iR, iF, eT, eW, eR, gR3, eT2, eU, eP]
        · have hg : (.inr (some (1, fun _ => tnC (z.1 0) 5 tt)) : Nat ⊕ Option (Nat × (Nat → Int64))) = .inr g := hg
          cases hg
          refine ⟨c10, fun k hk => ?_⟩
          rw [h11]
          by_cases c0 : k = 0
          · subst c0
            rw [if_pos (Nat.add_zero _), if_pos (by show 0 < 1; omega)]
          · rw [if_neg (by omega), if_neg (by show ¬ k < 1; omega)]
  | none =>
    obtain ⟨w1, w2⟩ := hpl
    have w2 := w2 (by omega)
    rw [decide_eq_false w1, bI_f] at eW
    show ∃ SF' T', _ = some (some (Value.int (nI (fiQ (fiC vw ty tt p2)))), oh 5 (oh 9 h F SF') R T') ∧ fr ckF3 T T' ∧ fiK SF SF' i ∧ ∀ g, fiC vw ty tt p2 = .inr g → fiR SF SF' i g
    cases p2 with
    | none =>
      refine ⟨SF, T, ?_, fr.rfl, ⟨fr.rfl, fun _ _ => rfl, fun _ _ => rfl⟩, fun g hg => ?_⟩
      · have w2 : sA TM 1 i = -nI 1 := w2
        show _ = some (some (Value.int (nI 0)), oh 5 (oh 9 h F SF) R T)
        simp (disch := omega) only [q_96_0, q_96_1, q_96_4, q_96_5, q_96_8, q_96_10, q_96_12, q_96_13, q_96_16, q_96_19, q_96_20, q_96_23, q_96_25, q_96_27, q_96_28, q_96_29, q_96_32, q_96_35, q_96_36, q_96_39, q_96_42, q_96_43, q_96_44, q_96_47, q_96_50, q_96_51, q_96_53, q_96_56, q_96_59, q_96_60, q_96_61, q_96_62, q_96_63, q_96_64, q_96_65, q_96_68, q_96_71, q_96_72, q_96_74, q_96_77, q_96_80, q_96_81, q_96_82, q_96_84, q_96_87, q_96_88, q_96_89, q_96_91, q_96_93, q_96_94, q_96_97, q_96_98, q_96_99, q_96_100, q_96_103, q_96_105, q_96_108, q_96_110, q_96_111, q_96_113, q_96_116, q_96_118, q_96_119, og_9_5, og_6_0, og_5_2, og_5_3, og_3_1, or_3_1, ow_3_1, o_is, o_ob, ofs_len3, ofs_len5, ofs_len6, ofs_len9, q_96_0, q_96_1, q_96_4, q_96_5, q_96_8, q_96_10, q_96_12, q_96_13, q_96_16, q_96_19, q_96_20, q_96_23, q_96_25, q_96_27, q_96_28, q_96_29, q_96_32, q_96_35, q_96_36, q_96_39, q_96_42, q_96_43, q_96_44, q_96_47, q_96_50, q_96_51, q_96_53, q_96_56, q_96_59, q_96_60, q_96_61, q_96_62, q_96_63, q_96_64, q_96_65, q_96_68, q_96_71, q_96_72, q_96_74, q_96_77, q_96_80, q_96_81, q_96_82, q_96_84, q_96_87, q_96_88, q_96_89, q_96_91, q_96_93, q_96_94, q_96_97, q_96_98, q_96_99, q_96_100, q_96_103, q_96_105, q_96_108, q_96_110, q_96_111, q_96_113, q_96_116, q_96_118, q_96_119, q_96_123, q_96_125, q_96_128, q_96_129, q_96_131, q_96_133, q_96_136, q_96_138, q_96_140, q_96_142, q_96_144, q_96_147, q_96_150, q_96_151, q_96_152, q_96_153, q_96_154, q_96_156, q_96_158, q_96_160, q_96_162, q_96_165, q_96_168, q_96_171, q_96_174, q_96_175, q_96_176, q_96_178, q_96_181, q_96_182, hg_9_5 HF', h_is HF', h_ob HF', ofs_len9, hg_3_1 HM', hr_3_1 HM', hw_3_1 HM', h_is HM', h_ob HM', ofs_len3, ↓reduceIte, k_cr, k_ci, k_oR, k_oN, k_aR, k_aN, and_true, true_and, and_self, eq_self, Nat.reduceLT, Nat.reduceLeDiff, Nat.reduceEqDiff, Nat.reduceAdd, Nat.reduceMul, Bool.true_eq_false, Bool.false_eq_true, Nat.add_sub_cancel, Nat.not_lt_zero, Nat.zero_le, k_sub, k_sb1, k_r, k_n, k_ret, k_t1, k_t0, k_nr, k_nn, k_z0, k_z1, k_zb, x_okI, lit_nI, k_in, k_cl, k_lt, k_le, k_eq, k_neg, nI_add, nI_mul, k_clt, k_cgt, k_cle, k_cge, k_ceq, bI_0, k_sh8, ne_eq, Nat.add_eq_zero_iff, Nat.one_ne_zero, Nat.succ_ne_zero, and_false, false_and, not_false_eq_true, not_true_eq_false, ite_true, ite_false, if_true, if_false, hF5, iN, iA, eT, eW, w2]
      · have hg : (.inr none : Nat ⊕ Option (Nat × (Nat → Int64))) = .inr g := hg
        cases hg
        exact rfl
    | some o =>
      have ho := hp2 o rfl
      have w2 : sA TM 1 i = nI o := w2
      have no1 : ¬ nI o = -nI 1 := by
        rw [k_neg (by omega)]
        exact fun q => q
      have eT2 : xm (d + 4) 32 [.ref κO, .int (nI o)] (oh 5 (oh 9 h F SF) R T) = _ := c_typeAt (d + 3) (oh 5 (oh 9 h F SF) R T) κO nO o SK HO' kO (by omega)
      rw [if_pos ho, (hty o ho).1] at eT2
      have eC : xm (d + 4) 36 [.ref V, .int (nI o)] (oh 5 (oh 9 h F SF) R T) = _ := c_countOf (d + 3) (oh 5 (oh 9 h F SF) R T) V o SV HV' (by omega)
      rw [if_pos (by omega), (hv.2.1 o ho).1] at eC
      have hnn := (hv.2.1 o ho).2
      obtain ⟨SF', i1, i2, i3, i4, i5⟩ := fl_loop d (oh 5 h R T) (Kc := Kc) (ρ := ρ) (A := A) (F := F) (to := 0) (ty := ty) (tt := tt) (i := i) (o := o) (fun SF => (HV.frame d9).frame dF9) hv m8 (by omega) ho htt.2 (hty o ho).2 rfl (vw.2.1 o) 0 SF (0, .null) (by omega)
      rw [oh_comm dRF.symm, oh_comm dRF.symm] at i5
      have f1' : fiK SF SF' i := ⟨i1, fun q hq => by rw [i2, if_neg (fun z => hq z.1)], fun q hq => i3 q (by omega)⟩
      refine ⟨SF', T, ?_, fr.rfl, f1', fun g hg => ?_⟩
      · have eo2 : nI (fiQ (fiC vw ty tt (some o))) = if cpQ vw ty tt o (vw.2.1 o) 0 = true then nI 0 else nI 1 := by
          show nI (fiQ (if cpQ vw ty tt o (vw.2.1 o) 0 = true then .inr _ else .inl 1)) = _
          split <;> rfl
        rw [eo2, ← i5]
        simp (disch := omega) only [q_96_0, q_96_1, q_96_4, q_96_5, q_96_8, q_96_10, q_96_12, q_96_13, q_96_16, q_96_19, q_96_20, q_96_23, q_96_25, q_96_27, q_96_28, q_96_29, q_96_32, q_96_35, q_96_36, q_96_39, q_96_42, q_96_43, q_96_44, q_96_47, q_96_50, q_96_51, q_96_53, q_96_56, q_96_59, q_96_60, q_96_61, q_96_62, q_96_63, q_96_64, q_96_65, q_96_68, q_96_71, q_96_72, q_96_74, q_96_77, q_96_80, q_96_81, q_96_82, q_96_84, q_96_87, q_96_88, q_96_89, q_96_91, q_96_93, q_96_94, q_96_97, q_96_98, q_96_99, q_96_100, q_96_103, q_96_105, q_96_108, q_96_110, q_96_111, q_96_113, q_96_116, q_96_118, q_96_119, og_9_5, og_6_0, og_5_2, og_5_3, og_3_1, or_3_1, ow_3_1, o_is, o_ob, ofs_len3, ofs_len5, ofs_len6, ofs_len9, q_96_0, q_96_1, q_96_4, q_96_5, q_96_8, q_96_10, q_96_12, q_96_13, q_96_16, q_96_19, q_96_20, q_96_23, q_96_25, q_96_27, q_96_28, q_96_29, q_96_32, q_96_35, q_96_36, q_96_39, q_96_42, q_96_43, q_96_44, q_96_47, q_96_50, q_96_51, q_96_53, q_96_56, q_96_59, q_96_60, q_96_61, q_96_62, q_96_63, q_96_64, q_96_65, q_96_68, q_96_71, q_96_72, q_96_74, q_96_77, q_96_80, q_96_81, q_96_82, q_96_84, q_96_87, q_96_88, q_96_89, q_96_91, q_96_93, q_96_94, q_96_97, q_96_98, q_96_99, q_96_100, q_96_103, q_96_105, q_96_108, q_96_110, q_96_111, q_96_113, q_96_116, q_96_118, q_96_119, q_96_123, q_96_125, q_96_128, q_96_129, q_96_131, q_96_133, q_96_136, q_96_138, q_96_140, q_96_142, q_96_144, q_96_147, q_96_150, q_96_151, q_96_152, q_96_153, q_96_154, q_96_156, q_96_158, q_96_160, q_96_162, q_96_165, q_96_168, q_96_171, q_96_174, q_96_175, q_96_176, q_96_178, q_96_181, q_96_182, hg_9_5 HF', h_is HF', h_ob HF', ofs_len9, hg_3_1 HM', hr_3_1 HM', hw_3_1 HM', h_is HM', h_ob HM', ofs_len3, hg_9_5 HV', h_is HV', h_ob HV', ofs_len9, ↓reduceIte, k_cr, k_ci, k_oR, k_oN, k_aR, k_aN, and_true, true_and, and_self, eq_self, Nat.reduceLT, Nat.reduceLeDiff, Nat.reduceEqDiff, Nat.reduceAdd, Nat.reduceMul, Bool.true_eq_false, Bool.false_eq_true, Nat.add_sub_cancel, Nat.not_lt_zero, Nat.zero_le, k_sub, k_sb1, k_r, k_n, k_ret, k_t1, k_t0, k_nr, k_nn, k_z0, k_z1, k_zb, x_okI, lit_nI, k_in, k_cl, k_lt, k_le, k_eq, k_neg, nI_add, nI_mul, k_clt, k_cgt, k_cle, k_cge, k_ceq, bI_0, k_sh8, ne_eq, Nat.add_eq_zero_iff, Nat.one_ne_zero, Nat.succ_ne_zero, and_false, false_and, not_false_eq_true, not_true_eq_false, ite_true, ite_false, if_true, if_false, hF5, v5, iN, iA, iV, iO, eT, eW, w2, no1, eT2, eC]
      · have hg : (if cpQ vw ty tt o (vw.2.1 o) 0 = true then .inr (some (vw.2.1 o, fun k => tnC (vw.2.2 o k) (ty o) tt)) else .inl 1 : Nat ⊕ Option (Nat × (Nat → Int64))) = .inr g := hg
        split at hg
        · rename_i hc
          cases hg
          refine ⟨by rw [i2, if_pos ⟨rfl, hc⟩], fun k hk => ?_⟩
          by_cases hkn : k < vw.2.1 o
          · rw [if_pos hkn]
            exact i4 hc k (Nat.zero_le _) (by omega)
          · rw [if_neg hkn]
            exact i3 _ (by omega)
        · cases hg
