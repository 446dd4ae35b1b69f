/-! Calls of both: carry, dry. -/
theorem w74 (d : Nat) {h h' : xH} {X : Nat} {SX : gS} {x v : Int32} (H : isB 8 h X SX) (e : xm (d + 1) 75 [.ref X, .int x, .int (nI 1)] h = some (some (.int v), h')) : xm (d + 2) 74 [.ref X, .int x] h = some (some (.int v), h') := by
  have i8 : ∀ {α : Type} (f : Option α), xis h X 8 f = f := fun f => h_is H f
  rw [E_74 _ _ _ _ rfl]
  simp (disch := omega) only [q_74_0, q_74_1, q_74_2, q_74_3, q_74_6, o_is, o_ob, ↓reduceIte, k_cr, k_ci, k_oR, k_oN, k_aR, k_aN, and_true, true_and, and_self, eq_self, Nat.reduceLT, Nat.reduceLeDiff, Nat.reduceEqDiff, Nat.reduceAdd, Nat.reduceMul, Bool.true_eq_false, Bool.false_eq_true, Nat.add_sub_cancel, Nat.not_lt_zero, Nat.zero_le, k_sub, k_sb1, k_r, k_n, k_ret, k_t1, k_t0, k_nr, k_nn, k_z0, k_z1, k_zb, x_okI, lit_nI, k_in, k_cl, k_lt, k_le, k_eq, k_neg, nI_add, nI_mul, k_clt, k_cgt, k_cle, k_cge, k_ceq, bI_0, k_sh8, ne_eq, Nat.add_eq_zero_iff, Nat.one_ne_zero, Nat.succ_ne_zero, and_false, false_and, not_false_eq_true, not_true_eq_false, ite_true, ite_false, if_true, if_false, i8, e]
theorem w116 (d : Nat) {h h' : xH} {X : Nat} {SX : gS} {x v : Int32} (H : isB 8 h X SX) (e : xm (d + 1) 75 [.ref X, .int x, .int (nI 0)] h = some (some (.int v), h')) : xm (d + 2) 116 [.ref X, .int x] h = some (some (.int v), h') := by
  have i8 : ∀ {α : Type} (f : Option α), xis h X 8 f = f := fun f => h_is H f
  rw [E_116 _ _ _ _ rfl]
  simp (disch := omega) only [q_116_0, q_116_1, q_116_2, q_116_3, q_116_6, o_is, o_ob, ↓reduceIte, k_cr, k_ci, k_oR, k_oN, k_aR, k_aN, and_true, true_and, and_self, eq_self, Nat.reduceLT, Nat.reduceLeDiff, Nat.reduceEqDiff, Nat.reduceAdd, Nat.reduceMul, Bool.true_eq_false, Bool.false_eq_true, Nat.add_sub_cancel, Nat.not_lt_zero, Nat.zero_le, k_sub, k_sb1, k_r, k_n, k_ret, k_t1, k_t0, k_nr, k_nn, k_z0, k_z1, k_zb, x_okI, lit_nI, k_in, k_cl, k_lt, k_le, k_eq, k_neg, nI_add, nI_mul, k_clt, k_cgt, k_cle, k_cge, k_ceq, bI_0, k_sh8, ne_eq, Nat.add_eq_zero_iff, Nat.one_ne_zero, Nat.succ_ne_zero, and_false, false_and, not_false_eq_true, not_true_eq_false, ite_true, ite_false, if_true, if_false, i8, e]
theorem w170 (d : Nat) {h h' : xH} {M : Nat} {S : gS} {x v : Int32} (e : xm (d + 1) 171 [.ref M, .int x, .int (nI 0)] (oh 11 h M S) = some (some (.int v), h')) : xm (d + 2) 170 [.ref M, .int x] (oh 11 h M S) = some (some (.int v), h') := by
  rw [E_170 _ _ _ _ rfl]
  simp (disch := omega) only [q_170_0, q_170_1, q_170_2, q_170_3, q_170_6, o_is, o_ob, ↓reduceIte, k_cr, k_ci, k_oR, k_oN, k_aR, k_aN, and_true, true_and, and_self, eq_self, Nat.reduceLT, Nat.reduceLeDiff, Nat.reduceEqDiff, Nat.reduceAdd, Nat.reduceMul, Bool.true_eq_false, Bool.false_eq_true, Nat.add_sub_cancel, Nat.not_lt_zero, Nat.zero_le, k_sub, k_sb1, k_r, k_n, k_ret, k_t1, k_t0, k_nr, k_nn, k_z0, k_z1, k_zb, x_okI, lit_nI, k_in, k_cl, k_lt, k_le, k_eq, k_neg, nI_add, nI_mul, k_clt, k_cgt, k_cle, k_cge, k_ceq, bI_0, k_sh8, ne_eq, Nat.add_eq_zero_iff, Nat.one_ne_zero, Nat.succ_ne_zero, and_false, false_and, not_false_eq_true, not_true_eq_false, ite_true, ite_false, if_true, if_false, e]
theorem w193 (d : Nat) {h h' : xH} {M : Nat} {S : gS} {x v : Int32} (e : xm (d + 1) 171 [.ref M, .int x, .int (nI 1)] (oh 11 h M S) = some (some (.int v), h')) : xm (d + 2) 193 [.ref M, .int x] (oh 11 h M S) = some (some (.int v), h') := by
  rw [E_193 _ _ _ _ rfl]
  simp (disch := omega) only [q_193_0, q_193_1, q_193_2, q_193_3, q_193_6, o_is, o_ob, ↓reduceIte, k_cr, k_ci, k_oR, k_oN, k_aR, k_aN, and_true, true_and, and_self, eq_self, Nat.reduceLT, Nat.reduceLeDiff, Nat.reduceEqDiff, Nat.reduceAdd, Nat.reduceMul, Bool.true_eq_false, Bool.false_eq_true, Nat.add_sub_cancel, Nat.not_lt_zero, Nat.zero_le, k_sub, k_sb1, k_r, k_n, k_ret, k_t1, k_t0, k_nr, k_nn, k_z0, k_z1, k_zb, x_okI, lit_nI, k_in, k_cl, k_lt, k_le, k_eq, k_neg, nI_add, nI_mul, k_clt, k_cgt, k_cle, k_cge, k_ceq, bI_0, k_sh8, ne_eq, Nat.add_eq_zero_iff, Nat.one_ne_zero, Nat.succ_ne_zero, and_false, false_and, not_false_eq_true, not_true_eq_false, ite_true, ite_false, if_true, if_false, e]
theorem st3.m {G : gG} {h : xH} {SX : gS} {κ : Nat → Nat → Nat} {cN mN : Nat → Nat} {bd : Nat} {V : vL} {mt : Nat} (H : st3 G h SX κ cN mN bd V mt) : mt ≤ 180 := by
  obtain ⟨σ0, σ1, σ2, g0, g1, g2, SS0, SS1, SS2, n1, n2, m0, m1, m2, ν0, ν1, ν2, SV0, SV1, SV2, rr, gg, c0, c1, c2, h1, hV, hmt⟩ := H
  have := c0.2.2.2.1
  have := c1.2.2.2.1
  have := c2.2.2.2.1
  omega
theorem tv_cl {G G' : gG} {h h' : xH} {X Kc R Q P κ0 mt mt' : Nat} {SX SX' SC T SQ SP SK0 : gS} {β : Nat → Nat} {SB : Nat → gS} {κ : Nat → Nat → Nat} {SK : Nat → Nat → gS} {S S' : gS} {cN mN : Nat → Nat} {Lf : Nat → List mT} {PP : Nat → Bool} (W : wyB G h X Kc SX β SB κ SK S cN mN Lf) (hC : caW G h Kc R SC T) (hP : prW1 G h SX Q P κ0 SQ SP SK0) (hT : tkG G G' h h' X Kc R mt mt') (H8 : hB G' 0 8 h' X SX') (fX : fr r567 SX SX') (fS : fr PP S S') (kP : kRu PP) : wyB G' h' X Kc SX' β SB κ SK S' cN mN Lf ∧ prW1 G' h' SX' Q P κ0 SQ SP SK0 := by
  obtain ⟨a1, a2, a3, a4, a5, a6⟩ := id hT
  have k1 : ∀ q, q < h.2.2.1 → (G q).1 = 1 ∨ (G q).1 = 5 → h'.1 q = h.1 q := fun q hq hc => a2 q hq (by omega) (fun e => by rw [e] at hc; change 0 = 1 ∨ 0 = 5 at hc; omega) (fun e => by rw [e] at hc; change 0 = 1 ∨ 0 = 5 at hc; omega) (fun e => by rw [e] at hc; change 0 = 1 ∨ 0 = 5 at hc; omega)
  have k0 : ∀ q u, q < h.2.2.1 → G q = (0, u) → u ≠ X → u ≠ Kc → u ≠ R → h'.1 q = h.1 q := fun q u hq e c1 c2 c3 => a2 q hq (by rw [e]; exact fun z => by have := z.1; change 1 < 0 at this; omega) (by rw [e]; exact fun z => c1 (Prod.mk.inj z).2) (by rw [e]; exact fun z => c2 (Prod.mk.inj z).2) (by rw [e]; exact fun z => c3 (Prod.mk.inj z).2)
  have hn := hT.n
  refine ⟨⟨H8, ((fX 4 rfl).2.2.2.2.1).trans W.2.1, (W.2.2.1.S fS kP.1 ((fX 0 rfl).2.2.2.2.2)).keep a1 (fun q hq e => k1 q hq (Or.inl e)) hn, (W.2.2.2.S fS kP ((fX 1 rfl).2.2.2.2.2)).keep a1 (fun q hq e => k1 q hq (Or.inr e)) hn⟩, hP.keep a1 (fun q hq hc => ?_) hn ((fX 3 rfl).2.2.2.2.1)⟩
  obtain ⟨p1, p2, p3, p4, _⟩ := hP
  rcases hc with e | e | e
  · exact k0 q _ hq e (p2.ne W.1 (by decide)) (p2.ne hC.1 (by decide)) (p2.ne hC.2.1 (by decide))
  · exact k0 q _ hq e (p3.ne W.1 (by decide)) (p3.ne hC.1 (by decide)) (p3.ne hC.2.1 (by decide))
  · exact k0 q _ hq e (p4.ne W.1 (by decide)) (p4.ne hC.1 (by decide)) (p4.ne hC.2.1 (by decide))
def gP2 (k : Nat) : Bool := gP k || (decide (18 ≤ k) && decide (k ≤ 24))
theorem kRu_gP2 : kRu gP2 := ⟨⟨rfl, rfl, rfl, rfl, rfl, rfl⟩, rfl, rfl, rfl⟩
theorem rf_go {S S' : gS} {cN mN ty : Nat → Nat} {Lf : Nat → List mT} {bd bd' : Nat} {V V' : vL} {z : Nat} {dr : Bool} (H : rfW S cN mN ty Lf bd V z dr) (hf : fr gP2 S S') (h8 : bd' < 8) (h6 : sI S' 6 = nI bd') (h7 : sA S' 7 0 = nI V'.length) (h60 : V'.length ≤ 60) (hV : ∀ j v, V'[j]? = some v → wkV S' bd' v.1 (mN (6 * bd' + v.1)) j v.2) (hB : vlB S cN mN ty bd' V') : rfW S' cN mN ty Lf bd' V' z dr := by
  obtain ⟨rT, rU, rH, rR, -, z1, z2, d1⟩ := H
  refine ⟨rT.fr hf rfl rfl rfl rfl, rU.fr hf kRu_gP2.1, rH.fr hf rfl, fun a b ha hb hh => ?_, ⟨h8, h6, h7, h60, hV, vlB_fr hf kRu_gP2.1 hB⟩, ((hf 16 rfl).1).trans z1, z2, ((hf 17 rfl).1).trans d1⟩
  rw [hz_fr hf rfl] at hh
  exact (rR a b ha hb hh).fr hf kRu_gP2
theorem call_tv {X M b E1 E2 jc jr : Nat} {h : xH} (H : INV X M b E1 E2 h) (x : Int32) (fg : Bool) (hc : ∀ {h h' : xH} {SX : gS} {v : Int32}, isB 8 h X SX → xm 79 75 [.ref X, .int x, .int (bI fg)] h = some (some (.int v), h') → xm 80 jc [.ref X, .int x] h = some (some (.int v), h')) (hr : ∀ {h h' : xH} {S : gS} {v : Int32}, xm 79 171 [.ref M, .int x, .int (bI (!fg))] (oh 11 h M S) = some (some (.int v), h') → xm 80 jr [.ref M, .int x] (oh 11 h M S) = some (some (.int v), h')) : CALL X M b E1 E2 h jc jr [.int x] := by
  obtain ⟨G, S, cN, mN, ty, Lf, bd, V, z, dr, C, r, B, s1, s2⟩ := id H
  obtain ⟨SX, Kc, R, Q, P, κ0, SC, T, SQ, SP, SK0, β, SB, κ, SK, mt, W, h3, hC, hP, hT, hE, hR⟩ := C
  obtain ⟨σ0, σ1, σ2, g0, g1, g2, SS0, SS1, SS2, n1, n2, m0, m1, m2, ν0, ν1, ν2, SV0, SV1, SV2, rr, gg, c0, c1, c2, h1, hV, hmt⟩ := id h3
  obtain ⟨rT, rU, rH, rR, ⟨b8, b6, b7, b60, bV, bW⟩, z1, z2, d1⟩ := id r
  obtain ⟨t1, t2, t3, t4⟩ := hT
  obtain ⟨ρ, ρ1, ρ2⟩ := rho W.2.2.2
  have no1 := c_travel_no 75 (st := bI fg) (t := x) W.1.1 (fun b hb => (W.2.2.1.1 b hb).1) rr.1 c0.1.1 h1 ρ1 ρ2 b8
  have no2 := m_go_no 76 h M S (t := x) (st := bI (!fg)) b8 rH b6
  have eo : oh 11 h M S = h := B.1
  by_cases c : inR x 0 7 = false ∨ x = nI bd
  · have e1 := hc W.1.1 (no1.1 c)
    have e3 := hr (no2.1 c)
    rw [eo] at e3
    exact call_0 H e1 e3
  · have cx : inR x 0 7 = true := by
      cases hq : inR x 0 7 with
      | true => rfl
      | false => exact absurd (Or.inl hq) c
    obtain ⟨t, ht, rfl⟩ := inR_of (hi := 7) (by omega) cx
    have ht8 : t < 8 := by omega
    have hne : bd ≠ t := fun e => c (Or.inr (by rw [e]))
    cases hal : alH (hz S) bd (pth (hz S) bd t) with
    | false =>
      have e1 := hc W.1.1 (no1.2 t rfl ht8 hne hal)
      have e3 := hr (no2.2 t rfl ht8 hne hal)
      rw [eo] at e3
      exact call_0 H e1 e3
    | true =>
      have txg : ∀ a b, a < 8 → b < 8 → hz S (8 * a + b) = true → txG S cN mN a b (Lf (8 * a + b)) := fun a b ha hb hh => by
        obtain ⟨⟨n, n1, n2, n3⟩, n4⟩ := rR a b ha hb hh
        exact txG_of n2 n3 (rT.1.1 a ha).2 (rT.1.1 b hb).2 (fun c hc => (rT.1.2 a c ha hc).2) (fun c hc => (rT.1.2 b c hb hc).2) n4
      have hRu : ∀ a b, a < 8 → b < 8 → hz S (8 * a + b) = true → ruG S cN mN ty Lf a b := fun a b ha hb hh => by
        obtain ⟨gd1, gd2⟩ := gd_all rT rU ha hb (txg a b ha hb hh)
        exact ⟨(rR a b ha hb hh).1, gd1, gd2⟩
      have hds : dsA S cN mN ty Lf := fun a b ha hb hh v hv hvb => ds_all rT rU ha hb (txg a b ha hb hh) v hv hvb
      obtain ⟨G', h', SX', SC', T', mt', u1, u2, u3, u4, u5, u6⟩ := c_travel 71 (fg := fg) (dr := dr) W rT hds hRu hC.1 hC.2.1 hC.2.2 h3 ρ1 ρ2 b8 ht8 hne bW t4 hal
      have mg := m_go 70 h' M S (st := !fg) b8 ht8 hne rH rT hRu b6 b7 b60 bV bW d1 hal
      have u6 : tvA κ cN mN bd t V fg G' h' SX SX' SC SC' mt' (xm 79 75 [.ref X, .int (nI t), .int (bI fg)] h) (wlk (fun a b => zK S cN mN ty a b (Lf (8 * a + b))) dr (pth (hz S) bd t) bd 0 V 0 0) := u6
      have mg : goR h' M S cN mN ty t (!fg) (xm 79 171 [.ref M, .int (nI t), .int (bI (!fg))] (oh 11 h' M S)) (wlk (fun a b => zK S cN mN ty a b (Lf (8 * a + b))) dr (pth (hz S) bd t) bd 0 V 0 0) := mg
      obtain ⟨v1, v2, v3, v4, v5, v6⟩ := id u1
      have fk : ∀ q, q < h.2.2.1 → 6 ≤ (G q).1 → h'.1 q = h.1 q := fun q hq h6 => v2 q hq (by omega) (fun e => by rw [e] at h6; change 6 ≤ 0 at h6; omega) (fun e => by rw [e] at h6; change 6 ≤ 0 at h6; omega) (fun e => by rw [e] at h6; change 6 ≤ 0 at h6; omega)
      have hn := u1.n
      cases hw : wlk (fun a b => zK S cN mN ty a b (Lf (8 * a + b))) dr (pth (hz S) bd t) bd 0 V 0 0 with
      | inl q =>
        rw [hw] at u6 mg
        obtain ⟨⟨SC0, y1, y2, y3⟩, y4, y5, y6⟩ := u6
        obtain ⟨S', x1, x2⟩ := mg
        subst y4
        have fS : fr gP2 S (rfX S' q.1 (nI q.2)) := by
          unfold rfX rfS
          exact ((((((((x1.1.mono (fun k hk => by
            unfold gP2 gP at hk
            simp only [Bool.or_eq_false_iff] at hk
            exact hk.1.1.1.1)).uI (by decide)).uI (by decide)).uI (by decide)).uI (by decide)).uI (by decide)).uJ (by decide)).uJ (by decide)).uJ (by decide)
        have fR : ∀ v, rvS (rfX S' q.1 (nI q.2)) v = rvS S' v := fun v => rvS_fr (P := fun k => decide (18 ≤ k) && decide (k ≤ 24)) (by
          unfold rfX rfS
          exact (((((((fr.rfl.uI (by decide)).uI (by decide)).uI (by decide)).uI (by decide)).uI (by decide)).uJ (by decide)).uJ (by decide)).uJ (by decide)) rfl rfl rfl rfl v
        obtain ⟨w1, w2⟩ := tv_cl W hC hP u1 u2 u3 fS kRu_gP2
        refine call_1 (G' := G') (S' := rfX S' q.1 (nI q.2)) (ty := ty) (dr := dr) (z := z) (bd := bd) (V := V) B s1 s2 (hc W.1.1 y6) (hr x2) v1 fk hn ⟨SX', Kc, R, Q, P, κ0, SC', T', SQ, SP, SK0, β, SB, κ, SK, mt', w1, y5, ⟨u4, u5, ?_⟩, w2, ⟨t1, ?_, ?_, t4⟩, ⟨?_, ?_, true, rfl, fun _ => ?_, fun e => (by cases e)⟩, ?_⟩ (rf_go r fS b8 (((x1.1 6 rfl).1).trans b6) ?_ b60 (fun j v hj => ?_) bW)
        · rw [y3]
          exact ((y1 0 rfl).2.2.2.2.1).trans hC.2.2
        · rw [(fS 15 rfl).2.2.1]
          exact t2
        · rw [hz_fr fS rfl]
          exact t3
        · rw [y3]
          show sI SC0 7 = sI S' 25
          rw [(y1 7 rfl).1, (x1.1 25 rfl).1]
          exact hE.1
        · rw [y3]
          show sI SC0 8 = sI S' 26
          rw [(y1 8 rfl).1, (x1.1 26 rfl).1]
          exact hE.2.1
        · rw [y3]
          exact ⟨⟨rfl, rfl, rfl, y2⟩, rfl, rfl⟩
        · have := y5.m
          unfold rmW at hR ⊢
          omega
        · exact x1.2.2.trans b7
        · have hl := get_lt hj
          exact (bV j v hj).mv ((fR j).trans (x1.2.1 j (by omega))) ((fS 2 rfl).2.2.1) (by omega)
      | inr q =>
        rw [hw] at u6 mg
        obtain ⟨⟨SC0, y1, y2⟩, y3, y4, y5⟩ := u6
        obtain ⟨S', x1, x2, x3, x4, x5, x6, x7, x8⟩ := mg
        have fS : fr gP2 S S' := x1.mono (fun k hk => by
          unfold gP2 at hk
          rw [Bool.or_eq_false_iff] at hk
          exact hk.1)
        obtain ⟨w1, w2⟩ := tv_cl W hC hP u1 u2 u3 fS kRu_gP2
        have hE' : rfE SC' S' := by
          obtain ⟨-, -, w, k1, k2, k3⟩ := hE
          rw [y2]
          refine ⟨x2.symm ▸ rfl, x3.symm ▸ rfl, w, ((x1 24 rfl).1).trans k1, fun e => ?_, fun e => ?_⟩
          · obtain ⟨⟨a1, a2, a3, a4⟩, a5, a6⟩ := k2 e
            exact ⟨⟨((y1 1 rfl).1).trans (a1.trans ((x1 18 rfl).1).symm), ((y1 2 rfl).1).trans (a2.trans ((x1 19 rfl).1).symm), ((y1 3 rfl).1).trans (a3.trans ((x1 20 rfl).1).symm), ((y1 4 rfl).1).trans (a4.trans ((x1 21 rfl).1).symm)⟩, ((y1 5 rfl).2.1).trans (a5.trans ((x1 22 rfl).2.1).symm), ((y1 6 rfl).2.1).trans (a6.trans ((x1 23 rfl).2.1).symm)⟩
          · obtain ⟨⟨a1, a2, a3, a4⟩, a5, a6⟩ := k3 e
            exact ⟨⟨((y1 1 rfl).1).trans a1, ((y1 2 rfl).1).trans a2, ((y1 3 rfl).1).trans a3, ((y1 4 rfl).1).trans a4⟩, ((y1 5 rfl).2.1).trans a5, ((y1 6 rfl).2.1).trans a6⟩
        have tX : txW SX' S' z dr := ⟨((u3 8 rfl).1).trans t1, by rw [(u3 2 rfl).2.2.1, (fS 15 rfl).2.2.1]; exact t2, by rw [(u3 9 rfl).1, hz_fr fS rfl]; exact t3, ((u3 10 rfl).1).trans t4⟩
        have cW : caW G' h' Kc R SC' T' := ⟨u4, u5, by rw [y2]; exact ((y1 0 rfl).2.2.2.2.1).trans hC.2.2⟩
        cases fg with
        | true =>
          obtain ⟨z6, z7, z8⟩ := x8 rfl
          have y4 := y4 rfl
          refine call_1 (G' := G') (S' := S') (ty := ty) (dr := dr) (z := z) (bd := t) (V := q.1) B s1 s2 (hc W.1.1 y5) (hr x6) v1 fk hn ⟨SX', Kc, R, Q, P, κ0, SC', T', SQ, SP, SK0, β, SB, κ, SK, mt', w1, y4, cW, w2, tX, hE', ?_⟩ (rf_go r fS ht8 z6 z7 x4 z8 x5)
          have := y4.m
          unfold rmW at hR ⊢
          omega
        | false =>
          obtain ⟨z6, z7, z8⟩ := x7 rfl
          obtain ⟨y6, y7⟩ := y3 rfl
          refine call_1 (G' := G') (S' := S') (ty := ty) (dr := dr) (z := z) (bd := bd) (V := V) B s1 s2 (hc W.1.1 y5) (hr x6) v1 fk hn ⟨SX', Kc, R, Q, P, κ0, SC', T', SQ, SP, SK0, β, SB, κ, SK, mt', w1, y7, cW, w2, tX, hE', ?_⟩ (rf_go r fS b8 (z6.trans b6) (z7.trans b7) b60 (fun j v hj => ?_) bW)
          · have := y7.m
            unfold rmW at hR ⊢
            omega
          · have hl := get_lt hj
            exact (bV j v hj).mv (z8 j (by omega)) ((fS 2 rfl).2.2.1) (by omega)
theorem call_carry {X M b E1 E2 : Nat} {h : xH} (H : INV X M b E1 E2 h) (x : Int32) : CALL X M b E1 E2 h 74 170 [.int x] := call_tv H x true (fun H8 e => w74 78 H8 e) (fun e => w170 78 e)
theorem call_dry {X M b E1 E2 : Nat} {h : xH} (H : INV X M b E1 E2 h) (x : Int32) : CALL X M b E1 E2 h 116 193 [.int x] := call_tv H x false (fun H8 e => w116 78 H8 e) (fun e => w193 78 e)
