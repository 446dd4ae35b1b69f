section Step
variable {p : Program} {l : Launch} {e : Env} {R : Room} {s : State} {m : MethodId} {args : Array Value} {below : List Frame} {meth : Method} {c : Code} {Q : State → Prop} {dC : Nat → ClassId} {dI : Nat → Nat → Nat} {aC : Nat → ClassId} {b0 c0 s0 j : Nat}
theorem xret_inv {v : Value} (h : xret j v = true) : ∃ ty, x_rt j = some ty ∧ narrow ty v = v ∧ fits ty v = true := by
  unfold xret at h
  split at h
  · rename_i ty he
    exact ⟨ty, he, xokv_inv h⟩
  · cases h
theorem xfin_ok {ins : Jvm.ClassFile.Instr} {len pc : Nat} {st : List Value} {v : Option Value} {Qc : Array Value → State → Outcome → State → Prop} {free : Addr → Prop} {H : Heap} {LS : Array Slot} {locs : List Loc} {cells slots : Nat} (hx : p.tables.exec = Jvm.exec) (hb : c.code = x_b j) (hr : meth.sig.returnType = x_rt j) (hlocks : meth.locks = false)
    (hdec : decode (x_b j) pc = .ok (ins, len)) (hf : xfin j ins len st = some v) (hq : ∀ t : State, t.heap = H → s.WarmedH t.vm → Qc args s (.returned v) t) (hfr : ∀ q ∈ locs, free q.base) : W p l e R s m args below meth c H locs cells slots (MQ below Qc args s cells slots free) (F0 m pc LS st) := by
  replace hf := xif_inv hf
  obtain ⟨rfl, hf⟩ := hf
  split at hf
  · split at hf
    · obtain ⟨h1, hf⟩ := xif_inv hf
      cases hf
      obtain ⟨ty, h2, h3, h4⟩ := xret_inv h1
      exact W.zret hx hb (hr.trans h2) h3 hq hfr hdec hlocks
    · cases hf
  · split at hf
    · obtain ⟨h1, hf⟩ := xif_inv hf
      cases hf
      obtain ⟨ty, h2, h3, h4⟩ := xret_inv h1
      have : ty = .long := by cases ty <;> first | rfl | cases h4
      subst this
      exact W.lret hx hb (hr.trans h2) hq hfr hdec hlocks
    · cases hf
  · split at hf
    · obtain ⟨h1, hf⟩ := xif_inv hf
      cases hf
      obtain ⟨ty, h2, h3, h4⟩ := xret_inv h1
      exact W.aret hx hb (hr.trans h2) (by cases ty <;> first | exact Or.inl ⟨_, rfl⟩ | exact Or.inr ⟨_, rfl⟩ | cases h4) (Or.inr ⟨_, rfl⟩) hq hfr hdec hlocks
    · obtain ⟨h1, hf⟩ := xif_inv hf
      cases hf
      obtain ⟨ty, h2, h3, h4⟩ := xret_inv h1
      exact W.aret hx hb (hr.trans h2) (by cases ty <;> first | exact Or.inl ⟨_, rfl⟩ | exact Or.inr ⟨_, rfl⟩ | cases h4) (Or.inl rfl) hq hfr hdec hlocks
    · cases hf
  · split at hf
    · obtain ⟨h1, hf⟩ := xif_inv hf
      cases hf
      exact W.vret hx hb (hr.trans h1) hq hfr hdec hlocks
    · cases hf
  · cases hf
theorem xe_ok {d : Nat} {call : Nat → List Value → xH → Option xR} (hx : p.tables.exec = Jvm.exec) (hb : c.code = x_b j) (hml : c.maxLocals = x_nl j) (hown : s.vm.findClass (x_own j) = some m.cls) (hts : ∀ w ∈ x_G, w.before args s = true) (hK : xK dC dI aC s) (hini : x_ini j = true → meth.name = "<init>") (hb0 : b0 ≤ c0) (hRf : d ≤ R.frames) (hRl : d * 64 ≤ R.locals)
    (hcall : ∀ jj as h r h1, call jj as h = some (r, h1) → xle h h1 ∧ d ≠ 0 ∧ jj < x_n ∧ xMet l dC dI aC (d - 1) jj as h r h1) :
    ∀ (n pc : Nat) (ls : xL) (st : List Value) (h : xH) (r : xR), xe d call j n pc ls st h = some r → xle h r.2 ∧
      (r.2.2.2.1 ≤ c0 + R.cells → r.2.2.2.2 ≤ s0 + R.slots → (∀ (pc : Nat) (ls : xL) (st : List Value) (ins : Jvm.ClassFile.Instr) (len : Nat), decode (x_b j) pc = .ok (ins, len) → xfin j ins len st = some r.1 → xWW p l e R s m args below meth c Q dC dI aC b0 c0 s0 (x_nl j) r.2 pc ls st) →
        xWW p l e R s m args below meth c Q dC dI aC b0 c0 s0 (x_nl j) h pc ls st)
  | 0, _, _, _, _, _, he => by cases he
  | n + 1, pc, ls, st, h, r, he => by
    cases hd : decode (x_b j) pc with
    | error x => simp [xe, hd] at he
    | ok q =>
      obtain ⟨ins, len⟩ := q
      rw [xe_succ hd] at he
      split at he
      · rename_i v hf
        cases he
        exact ⟨xle.rf, fun _ _ k => k pc ls st ins len hd hf⟩
      · split at he
        · rename_i pc' ls' st' h' hs
          obtain ⟨a1, a2⟩ := xs_ok (p := p) (l := l) (e := e) (R := R) (s := s) (m := m) (args := args) (below := below) (meth := meth) (c := c) (Q := Q) (b0 := b0) (c0 := c0) (s0 := s0) hx hb hml hown hts hK hini hb0 hRf hRl hcall hd hs
          obtain ⟨b1, b2⟩ := xe_ok hx hb hml hown hts hK hini hb0 hRf hRl hcall n pc' ls' st' h' r he
          exact ⟨a1.tr b1, fun hC hS k => a2 (Nat.le_trans b1.2.1 hC) (Nat.le_trans b1.2.2 hS) (b2 hC hS k)⟩
        · cases he
end Step
theorem xent_at : ∀ (vs : List Value) (b i t : Nat) (v : Value), (xent (vs.map Value.category) vs)[i]? = some (t, v) → t ≠ 0 → (b + i, v) ∈ lv_args b vs ∧ v.category = t
  | [], _, _, _, _, e, _ => by simp [xent] at e
  | w :: vs, b, i, t, v, e, ht => by
    rcases lv_cat w with hc | hc
    · rw [List.map_cons, hc] at e
      show (b + i, v) ∈ (b, w) :: lv_args (if w.category = 2 then b + 2 else b + 1) vs ∧ _
      rw [if_neg (by rw [hc]; decide)]
      cases i with
      | zero =>
        have e' : some (1, w) = some (t, v) := e
        cases e'
        exact ⟨List.mem_cons_self, hc⟩
      | succ i =>
        have e' : (xent (vs.map Value.category) vs)[i]? = some (t, v) := e
        obtain ⟨h1, h2⟩ := xent_at vs (b + 1) i t v e' ht
        exact ⟨List.mem_cons_of_mem _ (by rw [show b + (i + 1) = b + 1 + i by omega]; exact h1), h2⟩
    · rw [List.map_cons, hc] at e
      show (b + i, v) ∈ (b, w) :: lv_args (if w.category = 2 then b + 2 else b + 1) vs ∧ _
      rw [if_pos hc]
      cases i with
      | zero =>
        have e' : some (2, w) = some (t, v) := e
        cases e'
        exact ⟨List.mem_cons_self, hc⟩
      | succ i =>
        cases i with
        | zero =>
          have e' : some (0, Value.null) = some (t, v) := e
          cases e'
          exact absurd rfl ht
        | succ i =>
          have e' : (xent (vs.map Value.category) vs)[i]? = some (t, v) := e
          obtain ⟨h1, h2⟩ := xent_at vs (b + 2) i t v e' ht
          exact ⟨List.mem_cons_of_mem _ (by rw [show b + (i + 1 + 1) = b + 2 + i by omega]; exact h1), h2⟩
theorem xent_len : ∀ (vs : List Value), (xent (vs.map Value.category) vs).length = (vs.map Value.category).sum ∧ (lg_sl vs).length = (vs.map Value.category).sum
  | [] => ⟨rfl, rfl⟩
  | w :: vs => by
    obtain ⟨h1, h2⟩ := xent_len vs
    rcases lv_cat w with hc | hc
    · refine ⟨?_, ?_⟩
      · rw [List.map_cons, hc, List.sum_cons, ← h1]
        show (xent (vs.map Value.category) vs).length + 1 = _
        omega
      · rw [List.map_cons, hc, List.sum_cons, ← h2]
        simp [lg_sl, hc]; omega
    · refine ⟨?_, ?_⟩
      · rw [List.map_cons, hc, List.sum_cons, ← h1]
        show (xent (vs.map Value.category) vs).length + 1 + 1 = _
        omega
      · rw [List.map_cons, hc, List.sum_cons, ← h2]
        simp [lg_sl, hc]; omega
theorem xent_ok {vs : List Value} {cs : List Nat} {n : Nat} (hc : vs.map Value.category = cs) (hn : cs.sum ≤ n) : xLo ((lg_sl vs ++ List.replicate (n - (lg_sl vs).length) Slot.unset).toArray) n (xentL n cs vs) := by
  subst hc
  obtain ⟨h1, h2⟩ := xent_len vs
  refine ⟨?_, _, lv_entry vs (by omega), fun i t v e ht => ?_⟩
  · unfold xentL
    rw [List.length_append, List.length_replicate]
    omega
  · unfold xentL at e
    by_cases hi : i < (xent (vs.map Value.category) vs).length
    · rw [List.getElem?_append_left hi] at e
      have h3 := xent_at vs 0 i t v e ht
      rw [Nat.zero_add] at h3
      exact h3
    · rw [List.getElem?_append_right (by omega)] at e
      have h3 := List.eq_of_mem_replicate (List.mem_of_getElem? e)
      cases h3
      exact absurd rfl ht
set_option maxHeartbeats 4000000 in
theorem xm_ok {l : Launch} {dC : Nat → ClassId} {dI : Nat → Nat → Nat} {aC : Nat → ClassId} : ∀ (d jj : Nat) (as : List Value) (h : xH) (r : Option Value) (h1 : xH), xm (d + 1) jj as h = some (r, h1) → xle h h1 ∧ jj < x_n ∧ xMet l dC dI aC d jj as h r h1
  | d, jj, as, h, r, h1, he => by
    have he0 := he
    obtain ⟨⟨hj, hcs⟩, he⟩ := xif_inv (show (if jj < x_n ∧ as.map Value.category = x_cs jj then xrunc d (xm d) jj 0 (xentL (x_nl jj) (x_cs jj) as) [] h else none) = some (r, h1) from he)
    obtain ⟨n, hn⟩ := xrunc_to he
    have hcall : ∀ kk bs g v g1, xm d kk bs g = some (v, g1) → xle g g1 ∧ d ≠ 0 ∧ kk < x_n ∧ xMet l dC dI aC (d - 1) kk bs g v g1 := by
      intro kk bs g v g1 hk
      cases d with
      | zero => cases hk
      | succ d =>
        obtain ⟨a1, a2, a3⟩ := xm_ok d kk bs g v g1 hk
        exact ⟨a1, by omega, a2, a3⟩
    have hle : xle h h1 := xm_le (d + 1) jj as h r h1 he0
    refine ⟨hle, hj, ?_⟩
    unfold xMet
    refine Met.ofW (cc := x_b jj) (maxL := x_nl jj) (ret := x_rt jj) (x_plain hj) rfl ?_
    intro p e s m args below meth c s₁ B hml hv
    obtain ⟨rfl, hR, hK, hb0⟩ := hv
    have hts : ∀ w ∈ x_G, w.before as.toArray s = true := fun w hw => atoms_spec (ws := x_ws jj) B.pre w (List.mem_cons_of_mem _ hw)
    have hown : s.vm.findClass (x_own jj) = some m.cls := findClass_of_methodNamed B.named
    have hini : x_ini jj = true → meth.name = "<init>" := fun q => ((name_of_methodNamed B.named B.method).1).trans (show (x_nm jj).1 = "<init>" from of_decide_eq_true q)
    obtain ⟨-, hW⟩ := xe_ok (p := p) (l := l) (e := e) (R := (headSpec (x_ws jj) (xrm d h h1)).room) (s := s) (m := m) (args := as.toArray) (below := below) (meth := meth) (c := c) (Q := MQ below (xQc dC dI aC r h1) as.toArray s (h1.2.2.1 - h.2.2.1) (h1.2.2.2 - h.2.2.2) (fun q => h.2.1 ≤ q)) (b0 := h.2.1) (c0 := h.2.2.1) (s0 := h.2.2.2) B.exec B.bytes hml hown hts hK hini hb0 (Nat.le_refl _) (Nat.le_refl _) hcall n 0 _ [] h (r, h1) hn
    have hl2 := hle.2
    rw [lg_entry_eq]
    refine hW (show h1.2.2.1 ≤ h.2.2.1 + (h1.2.2.1 - h.2.2.1) by omega) (show h1.2.2.2 ≤ h.2.2.2 + (h1.2.2.2 - h.2.2.2) by omega) ?_ s.heap _ [] 0 0 ⟨hR, rfl, xent_ok hcs (x_cs_le hj), fun _ _ => rfl, (fun q hq => absurd hq List.not_mem_nil), Nat.zero_add _, Nat.zero_add _⟩
    intro pc ls st ins len hdec hf H LS locs cells slots I
    obtain ⟨i1, i2, i3, i4, i5, i6, i7⟩ := I
    have e1 : h1.2.2.1 - h.2.2.1 = cells := by have : cells + h.2.2.1 = h1.2.2.1 := i6; omega
    have e2 : h1.2.2.2 - h.2.2.2 = slots := by have : slots + h.2.2.2 = h1.2.2.2 := i7; omega
    rw [e1, e2]
    exact xfin_ok B.exec B.bytes B.returns B.notSynchronized hdec hf (fun t ht hW => ⟨rfl, by rw [ht]; exact i1, fun q hq => by rw [ht]; exact i4 q (by have : h1.2.1 = h.2.1 := i2; omega)⟩) i5
