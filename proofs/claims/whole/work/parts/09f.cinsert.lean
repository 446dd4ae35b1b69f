/-! Store.insert. -/
theorem k_am1 (n : Nat) : nI n + -nI 1 = nI n - nI 1 := (Int32.sub_eq_add_neg _ _).symm
theorem k_m1lt : (nI 0 - nI 1 < nI 0) = True := by
  have : nI 0 - nI 1 < nI 0 := by decide
  simp [this]
theorem c_insert_loop (d : Nat) (h1 : xH) (a n f κ : Nat) (S SF : gS) (ν : Nat → Nat) (SV : Nat → gS) (w : Int64) (c : Int32) (hn : sI S 2 = nI n) (h60 : n < 60) (hz : ∀ i, i < n → sQ S 0 i = .ref (ν i) ∧ isB 9 h1 (ν i) (SV i) ∧ dj 7 a 9 (ν i)) (hf : isB 9 h1 f SF) (hd : dj 7 a 9 f) : ∀ (p : Nat) (u : Nat × Value), p ≤ n →
    xrun d 25 69 [(1, .ref a), (2, .long w), (0, .null), (1, .int c), (1, .ref κ), (1, .ref f), (1, .int (nI p)), (1, .int (nI p - nI 1)), u] [] (oh 7 h1 a (rQ S 0 (shQ (sQ S 0) p n))) = some (some (.ref f), oh 7 h1 a (uI (rQ S 0 (va_up (shQ (sQ S 0) (insF (fun i => sJ (SV i) 2) w p) n) (insF (fun i => sJ (SV i) 2) w p) (.ref f))) 2 (nI (n + 1))))
  | 0, u, hp => by
    rw [q_25_69]
    have hF : isB 9 (oh 7 h1 a (rQ S 0 (shQ (sQ S 0) 0 n))) f SF := hf.frame hd
    simp (disch := omega) only [q_25_0, q_25_1, q_25_4, q_25_6, q_25_9, q_25_10, q_25_11, q_25_12, q_25_15, q_25_16, q_25_19, q_25_20, q_25_23, q_25_26, q_25_27, q_25_29, q_25_32, q_25_35, q_25_36, q_25_39, q_25_40, q_25_43, q_25_44, q_25_46, q_25_48, q_25_49, q_25_50, q_25_52, q_25_55, q_25_56, q_25_59, q_25_61, q_25_62, q_25_65, q_25_66, q_25_67, q_25_71, q_25_74, q_25_75, q_25_78, q_25_80, q_25_81, q_25_83, q_25_85, q_25_88, q_25_90, q_25_93, q_25_94, q_25_95, q_25_98, q_25_101, q_25_102, q_25_105, q_25_107, q_25_108, q_25_109, q_25_111, q_25_112, q_25_114, q_25_116, q_25_119, q_25_122, q_25_123, q_25_126, q_25_128, q_25_130, q_25_131, q_25_132, q_25_133, q_25_136, q_25_137, q_25_138, q_25_141, q_25_143, og_7_2, op_7_2, og_7_0, or_7_0, ow_7_0, on_7_0, og_9_2, o_is, o_ob, ofs_len7, ofs_len9, k_cr, k_ci, k_oR, k_oN, k_aR, k_aN, and_true, true_and, and_self, eq_self, Nat.reduceLT, Nat.reduceLeDiff, Nat.reduceEqDiff, Nat.reduceAdd, Nat.reduceMul, Bool.true_eq_false, Bool.false_eq_true, Nat.add_sub_cancel, Nat.not_lt_zero, Nat.zero_le, k_sub, k_sb1, k_r, k_n, k_ret, k_t1, k_t0, k_nr, k_nn, k_z0, k_z1, k_zb, x_okI, lit_nI, k_in, k_cl, k_lt, k_le, k_eq, k_neg, nI_add, nI_mul, k_clt, k_cgt, k_cle, k_cge, k_ceq, bI_0, k_sh8, ne_eq, Nat.add_eq_zero_iff, Nat.one_ne_zero, Nat.succ_ne_zero, and_false, false_and, not_false_eq_true, not_true_eq_false, ite_true, ite_false, if_true, if_false, sI_uI, sJ_uI, sA_uI, sL_uI, sR_uI, sQ_uI, sI_uJ, sJ_uJ, sA_uJ, sL_uJ, sR_uJ, sQ_uJ, sI_uA, sJ_uA, sA_uA, sL_uA, sR_uA, sQ_uA, sI_uL, sJ_uL, sA_uL, sL_uL, sR_uL, sQ_uL, sI_uR, sJ_uR, sA_uR, sL_uR, sR_uR, sQ_uR, sI_uQ, sJ_uQ, sA_uQ, sL_uQ, sR_uQ, sQ_uQ, k_m1lt, h_is hF, uQ_rQ, sI_rQ, hn]
    rfl
  | p + 1, u, hp => by
    rw [q_25_69]
    obtain ⟨z1, z2, z3⟩ := hz p (by omega)
    have hF : isB 9 (oh 7 h1 a (rQ S 0 (shQ (sQ S 0) (p + 1) n))) f SF := hf.frame hd
    have hB : isB 9 (oh 7 h1 a (rQ S 0 (shQ (sQ S 0) (p + 1) n))) (ν p) (SV p) := z2.frame z3
    have hr : sQ (rQ S 0 (shQ (sQ S 0) (p + 1) n)) 0 p = .ref (ν p) := by
      rw [sQ_rQ, if_pos rfl]
      unfold shQ
      rw [if_neg (by omega), z1]
    have hu : rQ S 0 (va_up (shQ (sQ S 0) (p + 1) n) (p + 1) (.ref (ν p))) = rQ S 0 (shQ (sQ S 0) p n) := by
      rw [← z1, shQ_s (sQ S 0) (by omega)]
    have ih := c_insert_loop d h1 a n f κ S SF ν SV w c hn h60 hz hf hd p (1, .ref (ν p)) (by omega)
    rw [k_sb1, insF_s]
    simp (disch := omega) only [q_25_0, q_25_1, q_25_4, q_25_6, q_25_9, q_25_10, q_25_11, q_25_12, q_25_15, q_25_16, q_25_19, q_25_20, q_25_23, q_25_26, q_25_27, q_25_29, q_25_32, q_25_35, q_25_36, q_25_39, q_25_40, q_25_43, q_25_44, q_25_46, q_25_48, q_25_49, q_25_50, q_25_52, q_25_55, q_25_56, q_25_59, q_25_61, q_25_62, q_25_65, q_25_66, q_25_67, q_25_71, q_25_74, q_25_75, q_25_78, q_25_80, q_25_81, q_25_83, q_25_85, q_25_88, q_25_90, q_25_93, q_25_94, q_25_95, q_25_98, q_25_101, q_25_102, q_25_105, q_25_107, q_25_108, q_25_109, q_25_111, q_25_112, q_25_114, q_25_116, q_25_119, q_25_122, q_25_123, q_25_126, q_25_128, q_25_130, q_25_131, q_25_132, q_25_133, q_25_136, q_25_137, q_25_138, q_25_141, q_25_143, og_7_2, op_7_2, og_7_0, or_7_0, ow_7_0, on_7_0, og_9_2, o_is, o_ob, ofs_len7, ofs_len9, k_cr, k_ci, k_oR, k_oN, k_aR, k_aN, and_true, true_and, and_self, eq_self, Nat.reduceLT, Nat.reduceLeDiff, Nat.reduceEqDiff, Nat.reduceAdd, Nat.reduceMul, Bool.true_eq_false, Bool.false_eq_true, Nat.add_sub_cancel, Nat.not_lt_zero, Nat.zero_le, k_sub, k_sb1, k_r, k_n, k_ret, k_t1, k_t0, k_nr, k_nn, k_z0, k_z1, k_zb, x_okI, lit_nI, k_in, k_cl, k_lt, k_le, k_eq, k_neg, nI_add, nI_mul, k_clt, k_cgt, k_cle, k_cge, k_ceq, bI_0, k_sh8, ne_eq, Nat.add_eq_zero_iff, Nat.one_ne_zero, Nat.succ_ne_zero, and_false, false_and, not_false_eq_true, not_true_eq_false, ite_true, ite_false, if_true, if_false, sI_uI, sJ_uI, sA_uI, sL_uI, sR_uI, sQ_uI, sI_uJ, sJ_uJ, sA_uJ, sL_uJ, sR_uJ, sQ_uJ, sI_uA, sJ_uA, sA_uA, sL_uA, sR_uA, sQ_uA, sI_uL, sJ_uL, sA_uL, sL_uL, sR_uL, sQ_uL, sI_uR, sJ_uR, sA_uR, sL_uR, sR_uR, sQ_uR, sI_uQ, sJ_uQ, sA_uQ, sL_uQ, sR_uQ, sQ_uQ, hr, hg_9_2 hB, h_is hF, h_is hB, uQ_rQ, hu, k_am1, ih, sI_rQ, hn]
    by_cases h1 : w < sJ (SV p) 2
    · have h2 : ¬ sJ (SV p) 2 ≤ w := Int64.not_le.mpr h1
      simp only [h1, h2, if_true, if_false]
    · have h2 : sJ (SV p) 2 ≤ w := Int64.not_lt.mp h1
      simp only [h1, h2, if_true, if_false]
/-- what a Store holds behind insert -/
def insS (S : gS) (SV : Nat → gS) (w : Int64) (n f : Nat) : gS := uI (rQ S 0 (va_up (shQ (sQ S 0) (insF (fun i => sJ (SV i) 2) w n) n) (insF (fun i => sJ (SV i) 2) w n) (.ref f))) 2 (nI (n + 1))
theorem c_insert_full (d : Nat) (h : xH) (a κ : Nat) (S : gS) (w : Int64) (c : Int32) (H : isB 7 h a S) (hn : sI S 2 = nI 60) : xm (d + 1) 25 [.ref a, .long w, .int c, .ref κ] h = some (some .null, h) := by
  rw [E_25 _ _ _ _ _ _ rfl rfl]
  simp (disch := omega) only [q_25_0, q_25_1, q_25_4, q_25_6, q_25_9, q_25_10, q_25_11, q_25_12, q_25_15, q_25_16, q_25_19, q_25_20, q_25_23, q_25_26, q_25_27, q_25_29, q_25_32, q_25_35, q_25_36, q_25_39, q_25_40, q_25_43, q_25_44, q_25_46, q_25_48, q_25_49, q_25_50, q_25_52, q_25_55, q_25_56, q_25_59, q_25_61, q_25_62, q_25_65, q_25_66, q_25_67, q_25_71, q_25_74, q_25_75, q_25_78, q_25_80, q_25_81, q_25_83, q_25_85, q_25_88, q_25_90, q_25_93, q_25_94, q_25_95, q_25_98, q_25_101, q_25_102, q_25_105, q_25_107, q_25_108, q_25_109, q_25_111, q_25_112, q_25_114, q_25_116, q_25_119, q_25_122, q_25_123, q_25_126, q_25_128, q_25_130, q_25_131, q_25_132, q_25_133, q_25_136, q_25_137, q_25_138, q_25_141, q_25_143, hg_7_2 H, hp_7_2 H, hg_7_0 H, hr_7_0 H, hw_7_0 H, hn_7_0 H, h_is H, h_ob H, ofs_len7, k_cr, k_ci, k_oR, k_oN, k_aR, k_aN, and_true, true_and, and_self, eq_self, Nat.reduceLT, Nat.reduceLeDiff, Nat.reduceEqDiff, Nat.reduceAdd, Nat.reduceMul, Bool.true_eq_false, Bool.false_eq_true, Nat.add_sub_cancel, Nat.not_lt_zero, Nat.zero_le, k_sub, k_sb1, k_r, k_n, k_ret, k_t1, k_t0, k_nr, k_nn, k_z0, k_z1, k_zb, x_okI, lit_nI, k_in, k_cl, k_lt, k_le, k_eq, k_neg, nI_add, nI_mul, k_clt, k_cgt, k_cle, k_cge, k_ceq, bI_0, k_sh8, ne_eq, Nat.add_eq_zero_iff, Nat.one_ne_zero, Nat.succ_ne_zero, and_false, false_and, not_false_eq_true, not_true_eq_false, ite_true, ite_false, if_true, if_false, hn]
theorem c_insert_old (d : Nat) (h : xH) (a n f κ m : Nat) (S SF SK : gS) (ν : Nat → Nat) (SV : Nat → gS) (w : Int64) (c : Int32) (H : isB 7 h a S) (hn : sI S 2 = nI n) (h60 : n < 60) (hz : ∀ i, i < n → sQ S 0 i = .ref (ν i) ∧ isB 9 h (ν i) (SV i) ∧ dj 7 a 9 (ν i) ∧ dj 9 f 9 (ν i)) (hf0 : sQ S 0 n = .ref f) (hf : isB 9 h f SF) (hd : dj 7 a 9 f) (hdk : dj 9 f 1 κ) (HK : isB 1 h κ SK) (hk : kOK SK m) : xm (d + 3) 25 [.ref a, .long w, .int c, .ref κ] h = some (some (.ref f), oh 7 (oh 9 h f (rst SF SK w c κ m 8)) a (insS S SV w n f)) := by
  rw [E_25 _ _ _ _ _ _ rfl rfl]
  have hR := c_restart d h f κ m SF SK w c hf hdk HK hk
  have hS : isB 7 (oh 9 h f (rst SF SK w c κ m 8)) a S := H.frame hd.symm
  have hL := c_insert_loop (d + 2) (oh 9 h f (rst SF SK w c κ m 8)) a n f κ S (rst SF SK w c κ m 8) ν SV w c hn h60 (fun i hi => ⟨(hz i hi).1, (hz i hi).2.1.frame (hz i hi).2.2.2, (hz i hi).2.2.1⟩) (isB_oh _ _ _ _) hd n (0, .null) (Nat.le_refl _)
  rw [shQ_n, rQ_id, show oh 7 (oh 9 h f (rst SF SK w c κ m 8)) a S = oh 9 h f (rst SF SK w c κ m 8) from hS] at hL
  have h61 : ¬ 60 ≤ n := by omega
  simp (disch := omega) only [q_25_0, q_25_1, q_25_4, q_25_6, q_25_9, q_25_10, q_25_11, q_25_12, q_25_15, q_25_16, q_25_19, q_25_20, q_25_23, q_25_26, q_25_27, q_25_29, q_25_32, q_25_35, q_25_36, q_25_39, q_25_40, q_25_43, q_25_44, q_25_46, q_25_48, q_25_49, q_25_50, q_25_52, q_25_55, q_25_56, q_25_59, q_25_61, q_25_62, q_25_65, q_25_66, q_25_67, q_25_71, q_25_74, q_25_75, q_25_78, q_25_80, q_25_81, q_25_83, q_25_85, q_25_88, q_25_90, q_25_93, q_25_94, q_25_95, q_25_98, q_25_101, q_25_102, q_25_105, q_25_107, q_25_108, q_25_109, q_25_111, q_25_112, q_25_114, q_25_116, q_25_119, q_25_122, q_25_123, q_25_126, q_25_128, q_25_130, q_25_131, q_25_132, q_25_133, q_25_136, q_25_137, q_25_138, q_25_141, q_25_143, hg_7_2 H, hp_7_2 H, hg_7_0 H, hr_7_0 H, hw_7_0 H, hn_7_0 H, h_is H, h_ob H, ofs_len7, hg_7_2 hS, hp_7_2 hS, hg_7_0 hS, hr_7_0 hS, hw_7_0 hS, hn_7_0 hS, h_is hS, h_ob hS, ofs_len7, k_cr, k_ci, k_oR, k_oN, k_aR, k_aN, and_true, true_and, and_self, eq_self, Nat.reduceLT, Nat.reduceLeDiff, Nat.reduceEqDiff, Nat.reduceAdd, Nat.reduceMul, Bool.true_eq_false, Bool.false_eq_true, Nat.add_sub_cancel, Nat.not_lt_zero, Nat.zero_le, k_sub, k_sb1, k_r, k_n, k_ret, k_t1, k_t0, k_nr, k_nn, k_z0, k_z1, k_zb, x_okI, lit_nI, k_in, k_cl, k_lt, k_le, k_eq, k_neg, nI_add, nI_mul, k_clt, k_cgt, k_cle, k_cge, k_ceq, bI_0, k_sh8, ne_eq, Nat.add_eq_zero_iff, Nat.one_ne_zero, Nat.succ_ne_zero, and_false, false_and, not_false_eq_true, not_true_eq_false, ite_true, ite_false, if_true, if_false, hn, h61, h60, hf0, hR, h_is hf, hL]
  rfl
theorem c_insert_new (d : Nat) (h : xH) (a n κ m : Nat) (S SK : gS) (ν : Nat → Nat) (SV : Nat → gS) (w : Int64) (c : Int32) (H : isB 7 h a S) (hn : sI S 2 = nI n) (h60 : n < 60) (hz : ∀ i, i < n → sQ S 0 i = .ref (ν i) ∧ isB 9 h (ν i) (SV i) ∧ dj 7 a 9 (ν i) ∧ ν i + 3 ≤ h.2.2.1) (hf0 : sQ S 0 n = .null) (ha : a + 2 ≤ h.2.2.1) (HK : isB 1 h κ SK) (hκ : κ + 4 ≤ h.2.2.1) (hk : kOK SK m) : xm (d + 3) 25 [.ref a, .long w, .int c, .ref κ] h = some (some (.ref h.2.2.1), oh 7 (oh 9 (grow h 3 78) h.2.2.1 (rst (V0 κ) SK w c κ m 8)) a (insS S SV w n h.2.2.1)) := by
  rw [E_25 _ _ _ _ _ _ rfl rfl]
  have hV := c_Value (d + 0) (xmk h (.inr (9, [.null, .null, .long 0, .long 0, .int (nI 0), .null])) 6) h.2.2.1 κ (va_up_self _ _ _) rfl
  have hg : oh 9 (grow (xmk h (.inr (9, [.null, .null, .long 0, .long 0, .int (nI 0), .null])) 6) 2 72) h.2.2.1 (V0 κ) = oh 9 (grow h 3 78) h.2.2.1 (V0 κ) := by
    refine Prod.ext ?_ rfl
    funext q
    show (match ocell 9 h.2.2.1 (V0 κ) q with | some e => some e | none => va_up h.1 h.2.2.1 _ q) = (match ocell 9 h.2.2.1 (V0 κ) q with | some e => some e | none => h.1 q)
    by_cases hq : q = h.2.2.1
    · subst hq
      simp [ocell]
    · rw [va_up_ne _ _ hq]
  rw [hg] at hV
  have dS : dj 9 h.2.2.1 7 a := dj_of (by decide) (by decide) (Or.inr ha)
  have dK : dj 9 h.2.2.1 1 κ := dj_of (by decide) (by decide) (Or.inr hκ)
  have HS1 : isB 7 (grow h 3 78) a S := H.kept fun q _ => rfl
  have HK1 : isB 1 (grow h 3 78) κ SK := HK.kept fun q _ => rfl
  have hm : isB 7 (xmk h (.inr (9, [.null, .null, .long 0, .long 0, .int (nI 0), .null])) 6) a S := H.mk (by decide) ha
  have hN : isB 9 (oh 9 (grow h 3 78) h.2.2.1 (V0 κ)) h.2.2.1 (V0 κ) := isB_oh _ _ _ _
  have hR := c_restart d (oh 9 (grow h 3 78) h.2.2.1 (V0 κ)) h.2.2.1 κ m (V0 κ) SK w c hN dK (HK1.frame dK) hk
  rw [oh_oh] at hR
  have hS : isB 7 (oh 9 (grow h 3 78) h.2.2.1 (rst (V0 κ) SK w c κ m 8)) a S := HS1.frame dS
  have hL := c_insert_loop (d + 2) (oh 9 (grow h 3 78) h.2.2.1 (rst (V0 κ) SK w c κ m 8)) a n h.2.2.1 κ S (rst (V0 κ) SK w c κ m 8) ν SV w c hn h60 (fun i hi => ⟨(hz i hi).1, isB.frame (h := grow h 3 78) ((hz i hi).2.1.kept fun q _ => rfl) (dj_of (by decide) (by decide) (Or.inr (hz i hi).2.2.2)), (hz i hi).2.2.1⟩) (isB_oh _ _ _ _) dS.symm n (0, .null) (Nat.le_refl _)
  rw [shQ_n, rQ_id, show oh 7 (oh 9 (grow h 3 78) h.2.2.1 (rst (V0 κ) SK w c κ m 8)) a S = oh 9 (grow h 3 78) h.2.2.1 (rst (V0 κ) SK w c κ m 8) from hS] at hL
  have h61 : ¬ 60 ≤ n := by omega
  have hN2 : isB 9 (oh 9 (grow h 3 78) h.2.2.1 (V0 κ)) h.2.2.1 (V0 κ) := hN
  simp (disch := omega) only [q_25_0, q_25_1, q_25_4, q_25_6, q_25_9, q_25_10, q_25_11, q_25_12, q_25_15, q_25_16, q_25_19, q_25_20, q_25_23, q_25_26, q_25_27, q_25_29, q_25_32, q_25_35, q_25_36, q_25_39, q_25_40, q_25_43, q_25_44, q_25_46, q_25_48, q_25_49, q_25_50, q_25_52, q_25_55, q_25_56, q_25_59, q_25_61, q_25_62, q_25_65, q_25_66, q_25_67, q_25_71, q_25_74, q_25_75, q_25_78, q_25_80, q_25_81, q_25_83, q_25_85, q_25_88, q_25_90, q_25_93, q_25_94, q_25_95, q_25_98, q_25_101, q_25_102, q_25_105, q_25_107, q_25_108, q_25_109, q_25_111, q_25_112, q_25_114, q_25_116, q_25_119, q_25_122, q_25_123, q_25_126, q_25_128, q_25_130, q_25_131, q_25_132, q_25_133, q_25_136, q_25_137, q_25_138, q_25_141, q_25_143, hg_7_2 H, hp_7_2 H, hg_7_0 H, hr_7_0 H, hw_7_0 H, hn_7_0 H, h_is H, h_ob H, ofs_len7, hg_7_2 hS, hp_7_2 hS, hg_7_0 hS, hr_7_0 hS, hw_7_0 hS, hn_7_0 hS, h_is hS, h_ob hS, ofs_len7, k_cr, k_ci, k_oR, k_oN, k_aR, k_aN, and_true, true_and, and_self, eq_self, Nat.reduceLT, Nat.reduceLeDiff, Nat.reduceEqDiff, Nat.reduceAdd, Nat.reduceMul, Bool.true_eq_false, Bool.false_eq_true, Nat.add_sub_cancel, Nat.not_lt_zero, Nat.zero_le, k_sub, k_sb1, k_r, k_n, k_ret, k_t1, k_t0, k_nr, k_nn, k_z0, k_z1, k_zb, x_okI, lit_nI, k_in, k_cl, k_lt, k_le, k_eq, k_neg, nI_add, nI_mul, k_clt, k_cgt, k_cle, k_cge, k_ceq, bI_0, k_sh8, ne_eq, Nat.add_eq_zero_iff, Nat.one_ne_zero, Nat.succ_ne_zero, and_false, false_and, not_false_eq_true, not_true_eq_false, ite_true, ite_false, if_true, if_false, hn, h61, h60, hf0, hV, hR, h_is hN2, hL]
  rfl
