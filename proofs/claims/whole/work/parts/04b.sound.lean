def xle (h h1 : xH) : Prop := h.2.1 = h1.2.1 ∧ h.2.2.1 ≤ h1.2.2.1 ∧ h.2.2.2 ≤ h1.2.2.2
theorem xle.rf {h : xH} : xle h h := ⟨rfl, Nat.le_refl _, Nat.le_refl _⟩
theorem xle.tr {h h1 h2 : xH} (a : xle h h1) (b : xle h1 h2) : xle h h2 := ⟨a.1.trans b.1, Nat.le_trans a.2.1 b.2.1, Nat.le_trans a.2.2 b.2.2⟩
theorem xG_inv {len n : Nat} {o : Option xS} {r : xS} (h : xG len n o = some r) : len = n ∧ o = some r := by
  unfold xG at h
  by_cases hl : len = n
  · rw [if_pos hl] at h; exact ⟨hl, h⟩
  · rw [if_neg hl] at h; cases h
theorem xif_inv {α : Type} {c : Prop} {D : Decidable c} {o : Option α} {r : α} (h : (@ite _ c D o none) = some r) : c ∧ o = some r := by
  by_cases hc : c
  · rw [if_pos hc] at h; exact ⟨hc, h⟩
  · rw [if_neg hc] at h; cases h
theorem xifn_inv {α : Type} {c : Prop} {D : Decidable c} {o : Option α} {r : α} (h : (@ite _ c D none o) = some r) : ¬ c ∧ o = some r := by
  by_cases hc : c
  · rw [if_pos hc] at h; cases h
  · rw [if_neg hc] at h; exact ⟨hc, h⟩
theorem xjt_inv {pc : Nat} {off : Int} {ls : xL} {st : List Value} {h : xH} {r : xS} (e : xjt pc off ls st h = some r) : 0 ≤ (pc : Int) + off ∧ xn ((pc : Int) + off).toNat ls st h = some r := xif_inv e
theorem xjc_inv {b : Bool} {pc : Nat} {off : Int} {ls : xL} {st : List Value} {h : xH} {r : xS} (e : xjc b pc off ls st h = some r) : 0 ≤ (pc : Int) + off ∧ ((b = true ∧ xn ((pc : Int) + off).toNat ls st h = some r) ∨ (b = false ∧ xn (pc + 3) ls st h = some r)) := by
  obtain ⟨h0, e⟩ := xif_inv e
  refine ⟨h0, ?_⟩
  cases b
  · exact Or.inr ⟨rfl, e⟩
  · exact Or.inl ⟨rfl, e⟩
theorem xtgt {pc : Nat} {off : Int} (h : 0 ≤ (pc : Int) + off) : (pc : Int) + off = ((((pc : Int) + off).toNat : Nat) : Int) := (Int.toNat_of_nonneg h).symm
theorem xokv_inv {ty : FieldType} {v : Value} (h : xokv ty v = true) : narrow ty v = v ∧ fits ty v = true := by
  unfold xokv at h
  rw [Bool.and_eq_true, decide_eq_true_eq] at h
  exact h
theorem xis_inv {α : Type} {h : xH} {v ci : Nat} {f : Option α} {r : α} (e : xis h v ci f = some r) : ∃ fs, h.1 v = some (.inr (ci, fs)) ∧ f = some r := by
  unfold xis at e; split at e
  · rename_i c fs e1
    by_cases hc : c = ci
    · subst hc; rw [if_pos rfl] at e; exact ⟨fs, e1, e⟩
    · rw [if_neg hc] at e; cases e
  · cases e
theorem va_P.one {D : va_G} {cl : List vw_C} {q : Nat × va_E} {H : Heap} (h : va_at D cl q H) : va_P D cl [q] H := by
  intro k x hk
  cases k with
  | zero => cases hk; exact h
  | succ k => simp at hk
def xPc (dC : Nat → ClassId) (dI : Nat → Nat → Nat) (aC : Nat → ClassId) (as : List Value) (h : xH) : Array Value → State → Prop := fun a U => a = as.toArray ∧ xRep dC dI aC h U.heap ∧ xK dC dI aC U ∧ h.2.1 ≤ h.2.2.1
def xQc (dC : Nat → ClassId) (dI : Nat → Nat → Nat) (aC : Nat → ClassId) (r : Option Value) (h : xH) : Array Value → State → Outcome → State → Prop := fun _ st o t => o = .returned r ∧ xRep dC dI aC h t.heap ∧ ∀ q : Nat, q < h.2.1 → t.heap[q]? = st.heap[q]?
def xrm (d : Nat) (h h1 : xH) : Room := { frames := d, cells := h1.2.2.1 - h.2.2.1, slots := h1.2.2.2 - h.2.2.2, locals := d * 64 }
/-- a method's contract at depth d: from heap h to heap h1, answer r -/
def xMet (l : Launch) (dC : Nat → ClassId) (dI : Nat → Nat → Nat) (aC : Nat → ClassId) (d jj : Nat) (as : List Value) (h : xH) (r : Option Value) (h1 : xH) : Prop :=
  Met l (x_y jj) (x_ws jj) (xrm d h h1) (xPc dC dI aC as h) (xQc dC dI aC r h1) (h1.2.2.1 - h.2.2.1) (h1.2.2.2 - h.2.2.2) (fun q => h.2.1 ≤ q)
theorem xPc.blind {dC : Nat → ClassId} {dI : Nat → Nat → Nat} {aC : Nat → ClassId} {as : List Value} {h : xH} : FrameBlind (xPc dC dI aC as h) := fun a U g mk q => ⟨q.1, q.2.1, xK.same (u := U) (U := U.calling g mk a) rfl q.2.2.1, q.2.2.2⟩
abbrev xWW (p : Program) (l : Launch) (e : Env) (R : Room) (s : State) (m : MethodId) (args : Array Value) (below : List Frame) (meth : Method) (c : Code) (Q : State → Prop) (dC : Nat → ClassId) (dI : Nat → Nat → Nat) (aC : Nat → ClassId) (b0 c0 s0 nL : Nat) (h : xH) (pc : Nat) (ls : xL) (st : List Value) : Prop :=
  ∀ (H : Heap) (LS : Array Slot) (locs : List Loc) (cells slots : Nat), xInv dC dI aC b0 c0 s0 nL s h ls H LS locs cells slots → W p l e R s m args below meth c H locs cells slots Q (F0 m pc LS st)
section Step
variable {p : Program} {l : Launch} {e : Env} {R : Room} {s : State} {m : MethodId} {args : Array Value} {below : List Frame} {meth : Method} {c : Code} {Q : State → Prop} {dC : Nat → ClassId} {dI : Nat → Nat → Nat} {aC : Nat → ClassId} {b0 c0 s0 j : Nat}
theorem xw_getf {pc i a ci k : Nat} {ls : xL} {sk fs : List Value} {v : Value} {h : xH} (hx : p.tables.exec = Jvm.exec) (hb : c.code = x_b j) (hown : s.vm.findClass (x_own j) = some m.cls) (hts : ∀ w ∈ x_G, w.before args s = true) (hK : xK dC dI aC s)
    (hf : x_fld (x_oc j) i = some (ci, k)) (ha : h.1 a = some (.inr (ci, fs))) (hv : fs[k]? = some v) (hdec : decode (x_b j) pc = .ok (.getfield i, 3)) (kk : xWW p l e R s m args below meth c Q dC dI aC b0 c0 s0 (x_nl j) h (pc + 3) ls (v :: sk)) : xWW p l e R s m args below meth c Q dC dI aC b0 c0 s0 (x_nl j) h pc ls (.ref a :: sk) := by
  intro H LS locs cells slots I
  obtain ⟨C, T, N, hc, hk, hlink, hin⟩ := x_fld_ok hf
  exact va_get (D := (dC, dI)) (cl := x_cl) (ws := [(a, .inr (ci, fs))]) (tys := []) hx hb hts hin hown hK.1 (va_P.one (I.1.2 a _ ha).1) 0 rfl hc k hk (hts _ hlink) (fun _ h => h) hv hdec (kk H LS locs cells slots I)
theorem xw_putf {pc i a ci k : Nat} {ls : xL} {sk fs : List Value} {v : Value} {h : xH} (hx : p.tables.exec = Jvm.exec) (hb : c.code = x_b j) (hown : s.vm.findClass (x_own j) = some m.cls) (hts : ∀ w ∈ x_G, w.before args s = true) (hK : xK dC dI aC s) (hini : x_ini j = true → meth.name = "<init>")
    (hf : x_fld (x_oc j) i = some (ci, k)) (ha : h.1 a = some (.inr (ci, fs))) (hl : k < fs.length) (hok : xokv (x_ft ci k) v = true) (hmay : x_may j ci k = true) (hdec : decode (x_b j) pc = .ok (.putfield i, 3))
    (kk : xWW p l e R s m args below meth c Q dC dI aC b0 c0 s0 (x_nl j) (xput h a (.inr (ci, fs.set k v))) (pc + 3) ls sk) : xWW p l e R s m args below meth c Q dC dI aC b0 c0 s0 (x_nl j) h pc ls (v :: .ref a :: sk) := by
  intro H LS locs cells slots I
  obtain ⟨C, T, N, hc, hk, hlink, hin⟩ := x_fld_ok hf
  obtain ⟨hty, hnm⟩ := x_cl_ok hc
  have hap := va_apart (own := x_own j) hts hin (x_ft ci) hty hnm hK.1 hc
  obtain ⟨⟨r, h1, cell, q1, q2, q3, q4⟩, hba⟩ := I.1.2 a _ ha
  obtain ⟨hn, hfit⟩ := xokv_inv hok
  cases h1.symm.trans hc
  obtain ⟨hS, hfc, kC, hkC, hkind⟩ := hK.1.1 ci _ hc
  obtain ⟨cf, kf, fi, f, hi, hsl⟩ := hS k hk
  have hst := (u_facts hfc hkC (u_lays hts hin hk) hi).1
  have fin : ∀ H' : Heap, H'[a]? = some (cell.setSlot f.slot v) → H'.size = H.size → (∀ q, q ≠ a → H'[q]? = H[q]?) → W p l e R s m args below meth c H' (locs ++ [⟨a, f.slot⟩]) cells slots Q (F0 m (pc + 3) LS sk) := by
    intro H' e1 e2 e3
    rw [hsl] at e1 ⊢
    exact kk H' LS _ cells slots (I.put hba e2 e3 ⟨_, hc, t_OB.to (V := updV (vp_V fs) k v) ⟨_, e1, q2, q3, t_set q4 hap hk v⟩ (fun j _ => vp_updV_set hl v j)⟩)
  have hsl2 : f.slot < cell.slots.size := by rw [hsl]; exact k2_hasslot (q4 k hk)
  have hlay := hts _ (hin _ (u_in_lay hk))
  unfold u_lay at hlay
  by_cases hfi : (T k).2.2.2 = true
  · rw [if_pos hfi] at hlay
    obtain ⟨hj1, hj2⟩ := x_may_fin hc hfi hmay
    have hcf : m.cls = cf := by
      obtain ⟨_, _, c', _, _, _, -, -, hf', -, -, -, hown2, -⟩ := Cond.laysFinal_spec hlay
      have e1 : c' = cf := by have := hi.symm.trans hf'; simp at this; exact this.1.symm
      have hj3 : x_own j = (T k).1 := hj2
      rw [← e1]; exact Option.some.inj (hown.symm.trans (by rw [hj3]; exact hown2))
    have h6 := u_fits hfc hkC hkind (Or.inr hlay) hi (hty k hk) hn hfit
    exact W.putFinK hx hb hown (hts _ hlink) hi hst hcf (hini hj1) (by rw [q2]; exact h6) q1 q3 hsl2 rfl rfl hdec fin
  · rw [if_neg hfi] at hlay
    have h6 := u_store hfc hkC hkind hlay hi (hty k hk) hn hfit
    exact W.putK hx hb (f := f) ⟨hown, hts _ hlink, ⟨_, _, _, hi⟩, hst⟩ (by rw [q2]; exact h6) q1 q3 hsl2 rfl rfl hdec fin
theorem xw_new {pc i ci : Nat} {ls : xL} {st : List Value} {h : xH} (hx : p.tables.exec = Jvm.exec) (hb : c.code = x_b j) (hown : s.vm.findClass (x_own j) = some m.cls) (hts : ∀ w ∈ x_G, w.before args s = true) (hK : xK dC dI aC s) (hb0 : b0 ≤ c0)
    (hf : x_newc (x_oc j) i = some ci) (hdec : decode (x_b j) pc = .ok (.new i, 3)) (hC : (xmk h (.inr (ci, x_df ci)) (x_df ci).length).2.2.1 ≤ c0 + R.cells) (hS : (xmk h (.inr (ci, x_df ci)) (x_df ci).length).2.2.2 ≤ s0 + R.slots)
    (kk : xWW p l e R s m args below meth c Q dC dI aC b0 c0 s0 (x_nl j) (xmk h (.inr (ci, x_df ci)) (x_df ci).length) (pc + 3) ls (.ref h.2.2.1 :: st)) : xWW p l e R s m args below meth c Q dC dI aC b0 c0 s0 (x_nl j) h pc ls st := by
  intro H LS locs cells slots I
  obtain ⟨C, T, N, hc, hN, hdf, hlink, hinst, hinit, hin⟩ := x_newc_ok hf
  obtain ⟨hty, hnm⟩ := x_cl_ok hc
  have hKn := hK.1.1 ci _ hc
  obtain ⟨i1, i2, i3, i4, i5, i6, i7⟩ := id I
  have hz : H.size = h.2.2.1 := i1.1
  have hC' : h.2.2.1 + 1 ≤ c0 + R.cells := hC
  have hS' : h.2.2.2 + (x_df ci).length ≤ s0 + R.slots := hS
  refine W.newcK hx hb hown (hts _ hlink) (hts _ hinst) (hts _ hinit) rfl hdec (by omega) (by omega) hKn.2.1 rfl fun H1 kC hkC e1 z1 o1 => ?_
  rw [← hN]
  have kk' := kk H1 LS locs (cells + 1) (slots + (x_df ci).length)
  rw [← hz] at kk'
  exact kk' (I.mk hb0 z1 o1 ⟨_, hc, (u_born (x_ft ci) hts hin hKn hkC e1 hty).to fun k hk => by unfold vp_V; simp [hdf k hk]⟩)
theorem xw_newa {pc t : Nat} {ty : Jvm.ClassFile.ArrayType} {n : Int32} {ls : xL} {sk : List Value} {h : xH} (hx : p.tables.exec = Jvm.exec) (hb : c.code = x_b j) (hts : ∀ w ∈ x_G, w.before args s = true) (hK : xK dC dI aC s) (hb0 : b0 ≤ c0)
    (hf : x_na ty = some t) (hn : ¬ n < 0) (hn2 : n.toNatClampNeg ≤ 65536) (hdec : decode (x_b j) pc = .ok (.newarray ty, 2)) (hC : h.2.2.1 + 1 ≤ c0 + R.cells) (hS : h.2.2.2 + n.toNatClampNeg ≤ s0 + R.slots)
    (kk : xWW p l e R s m args below meth c Q dC dI aC b0 c0 s0 (x_nl j) (xmk h (.inl (t, n.toNatClampNeg, fun _ => defaultValue (newarray.typeOf ty))) n.toNatClampNeg) (pc + 2) ls (.ref h.2.2.1 :: sk)) : xWW p l e R s m args below meth c Q dC dI aC b0 c0 s0 (x_nl j) h pc ls (.int n :: sk) := by
  intro H LS locs cells slots I
  obtain ⟨hat, harr⟩ := x_na_ok hf
  obtain ⟨i1, i2, i3, i4, i5, i6, i7⟩ := id I
  have hz : H.size = h.2.2.1 := i1.1
  have hcb : componentBytes (newarray.typeOf ty) ≤ 8 := by cases ty <;> decide
  have hby : n.toNatClampNeg * componentBytes (newarray.typeOf ty) ≤ 536870912 := Nat.le_trans (Nat.mul_le_mul hn2 hcb) (by decide)
  refine va_newaK hx hb (hts _ harr) rfl hdec rfl hn rfl hby (by omega) (by omega) rfl fun H1 cA e1 z1 o1 hAr hNm => ?_
  have hcA : aC t = cA := by
    have h2 := (hK.2.1 t _ hat).2 (by cases ty <;> cases hf <;> decide)
    have h3 : s.vm.findClass ("[" ++ (newarray.typeOf ty).toString) = some (aC t) := by cases ty <;> exact h2
    exact Option.some.inj (h3.symm.trans hNm)
  have kk' := kk H1 LS locs (cells + 1) (slots + n.toNatClampNeg)
  rw [← hz] at kk'
  refine kk' (I.mk hb0 z1 o1 (xat.of (by cases ty <;> cases hf <;> decide) ?_))
  rw [hcA]
  exact e1
theorem xw_anew {pc t i : Nat} {n : Int32} {ls : xL} {sk : List Value} {h : xH} (hx : p.tables.exec = Jvm.exec) (hb : c.code = x_b j) (hown : s.vm.findClass (x_own j) = some m.cls) (hts : ∀ w ∈ x_G, w.before args s = true) (hK : xK dC dI aC s) (hb0 : b0 ≤ c0)
    (hf : x_ana (x_oc j) i = some t) (hn : ¬ n < 0) (hn2 : n.toNatClampNeg ≤ 65536) (hdec : decode (x_b j) pc = .ok (.anewarray i, 3)) (hC : h.2.2.1 + 1 ≤ c0 + R.cells) (hS : h.2.2.2 + n.toNatClampNeg ≤ s0 + R.slots)
    (kk : xWW p l e R s m args below meth c Q dC dI aC b0 c0 s0 (x_nl j) (xmk h (.inl (t, n.toNatClampNeg, fun _ => .null)) n.toNatClampNeg) (pc + 3) ls (.ref h.2.2.1 :: sk)) : xWW p l e R s m args below meth c Q dC dI aC b0 c0 s0 (x_nl j) h pc ls (.int n :: sk) := by
  intro H LS locs cells slots I
  obtain ⟨C, hat, hlink, hover⟩ := x_ana_ok hf
  obtain ⟨i1, i2, i3, i4, i5, i6, i7⟩ := id I
  have hz : H.size = h.2.2.1 := i1.1
  refine W.anew hx hb hown (hts _ hlink) (hK.2.2.1 C hover) rfl hdec rfl hn (Nat.le_trans (Nat.mul_le_mul_right 4 hn2) (by decide)) (by omega) (by omega) fun cA kA comp f1 f2 f3 f4 => ?_
  have hcA : aC t = cA := by
    obtain ⟨_, _, _, _, _, h2⟩ := (hK.2.1 t _ hat).2 (fun e => by subst e; cases hat)
    exact Option.some.inj (h2.symm.trans f1)
  have kk' := kk (H.push ({ cls := cA, slots := Array.replicate n.toNatClampNeg .null, vm := .none } : Cell)) LS locs (cells + 1) (slots + n.toNatClampNeg)
  rw [← hz] at kk'
  refine kk' (I.mk hb0 (Array.size_push _) (fun q hq => by rw [Array.getElem?_push, if_neg (Nat.ne_of_lt hq)]) (xat.of (fun e => by subst e; cases hat) ?_))
  rw [hcA, Array.getElem?_push_size, ← arrV_new]
theorem xs_in {i : Int32} {n : Nat} (h : xIn i n) : i.toNatClampNeg < n := Nat.not_le.mp fun q => h (Or.inr q)
theorem xw_in {cA : ClassId} {i : Int32} {n : Nat} {z : Nat → Value} (h : xIn i n) : ¬ (i < 0 ∨ (arrV cA n z).slots.size ≤ i.toNatClampNeg) := by rw [arrV_size]; exact h
theorem xw_sto {pc a t n kx : Nat} {z : Nat → Value} {v : Value} {ls : xL} {sk : List Value} {h : xH} {H H1 : Heap} {LS : Array Slot} {locs : List Loc} {cells slots : Nat} (I : xInv dC dI aC b0 c0 s0 (x_nl j) s h ls H LS locs cells slots) (hba : h.2.1 ≤ a) (hnS : t ≠ x_tS)
    (kk : xWW p l e R s m args below meth c Q dC dI aC b0 c0 s0 (x_nl j) (xput h a (.inl (t, n, updV z kx v))) (pc + 1) ls sk)
    (e1 : H1[a]? = some ((arrV (aC t) n z).setSlot kx v)) (e2 : H1.size = H.size) (e3 : ∀ q, q ≠ a → H1[q]? = H[q]?) : W p l e R s m args below meth c H1 (locs ++ [⟨a, kx⟩]) cells slots Q (F0 m (pc + 1) LS sk) := by
  refine kk H1 LS _ cells slots (I.put hba e2 e3 (xat.of hnS ?_))
  rw [← arrV_store]
  exact e1
theorem xw_call {pc mc ms : Nat} {LS : Array Slot} {st0 rest : List Value} {H : Heap} {locs : List Loc} {cells slots : Nat} {Qa : State → Outcome → State → Prop} {free : Addr → Prop} (hr : va_Run p l e R s m args below meth c H locs cells slots mc ms (F0 m pc LS st0) rest Qa free)
    (kk : ∀ (v : Option Value) (st₀ t : State) (L : List Loc), st₀.heap = H → Qa st₀ (.returned v) t → (∀ q ∈ L, free q.base) → W p l e R s m args below meth c t.heap (locs ++ L) (cells + mc) (slots + ms) Q (F0 m (pc + 3) LS (v.toList ++ rest))) : W p l e R s m args below meth c H locs cells slots Q (F0 m pc LS st0) := by
  intro T hT X
  obtain ⟨v, st₀, t, T', L, h0, X', hL, e1, e2, hq, st⟩ := hr T hT X
  obtain ⟨t2, a1, b1⟩ := kk v st₀ t L h0 hq hL T' e1 X'
  exact ⟨t2, st t2 a1, b1⟩
/-- behind a call -/
theorem xw_back {pc : Nat} {LS : Array Slot} {st0 rest : List Value} {H : Heap} {locs : List Loc} {cells slots : Nat} {as : Array Value} {h h1 : xH} {r : Option Value} {ls : xL} (I : xInv dC dI aC b0 c0 s0 (x_nl j) s h ls H LS locs cells slots) (hle : xle h h1)
    (kk : xWW p l e R s m args below meth c Q dC dI aC b0 c0 s0 (x_nl j) h1 (pc + 3) ls (r.toList ++ rest))
    (hr : va_Run p l e R s m args below meth c H locs cells slots (h1.2.2.1 - h.2.2.1) (h1.2.2.2 - h.2.2.2) (F0 m pc LS st0) rest (xQc dC dI aC r h1 as) (fun q => h.2.1 ≤ q)) : W p l e R s m args below meth c H locs cells slots Q (F0 m pc LS st0) := by
  refine xw_call hr fun v st₀ t L h0 hq hL => ?_
  obtain ⟨hv, hR, hfr⟩ := hq
  cases hv
  obtain ⟨i1, i2, i3, i4, i5, i6, i7⟩ := I
  obtain ⟨l1, l2, l3⟩ := hle
  refine kk t.heap LS (locs ++ L) _ _ ⟨hR, l1.symm.trans i2, i3, fun q hq => ?_, fun q hq => ?_, by omega, by omega⟩
  · rw [hfr q (by omega), h0]
    exact i4 q hq
  · rcases List.mem_append.mp hq with h2 | h2
    · exact i5 q h2
    · have := hL q h2
      omega
theorem xw_good (jj : Nat) (hj : jj < x_n) : GoodIn x_G (x_ws jj) := by
  intro w hw
  rcases List.mem_cons.mp hw with rfl | hw
  · exact ⟨x_code_in hj, x_good _ (x_code_in hj)⟩
  · exact ⟨hw, x_good _ hw⟩
theorem xw_room {d jj : Nat} {h h1 : xH} (hj : jj < x_n) (hd : d ≠ 0) (hRf : d ≤ R.frames) (hRl : d * 64 ≤ R.locals) : (xrm (d - 1) h h1).frames + 1 ≤ R.frames ∧ 8 + (x_nl jj + 11) + (xrm (d - 1) h h1).locals ≤ R.locals := by
  have hm := x_nl_le hj
  refine ⟨?_, ?_⟩
  · show d - 1 + 1 ≤ R.frames
    omega
  · show 8 + (x_nl jj + 11) + (d - 1) * 64 ≤ R.locals
    have : (d - 1) * 64 + 64 = d * 64 := by
      have : d - 1 + 1 = d := by omega
      rw [← this]; omega
    omega
theorem xw_pre {as : List Value} {h : xH} {H : Heap} (hK : xK dC dI aC s) (hR : xRep dC dI aC h H) (hbc : h.2.1 ≤ h.2.2.1) : PreS s H (xPc dC dI aC as h) as := ⟨xPc.blind, fun U hU hW => ⟨rfl, by rw [hU]; exact hR, hK.warm hW, hbc⟩⟩
theorem xw_preV {b jj : Nat} {as fs : List Value} {h : xH} {H : Heap} (hK : xK dC dI aC s) (hR : xRep dC dI aC h H) (hbc : h.2.1 ≤ h.2.2.1) (hj : jj < x_n) (hv : x_rv jj = true) (hr : h.1 b = some (.inr (x_rc jj, fs))) : PreV s H (x_y jj).cls b (xPc dC dI aC (.ref b :: as) h) as := by
  refine ⟨xPc.blind, ?_, fun U hU hW => ⟨rfl, by rw [hU]; exact hR, hK.warm hW, hbc⟩⟩
  obtain ⟨⟨r, h1, cell, g1, g2, g3, -⟩, -⟩ := hR.2 b _ hr
  have hc : r.1 = (x_y jj).cls := x_rc_ok hv h1
  refine ⟨cell, g1, by rw [g3]; rfl, ?_⟩
  rw [← hc, g2]
  exact (hK.1.1 _ r h1).2.1
theorem xald_inv {t0 t1 : Nat} {pc : Nat} {ls : xL} {st : List Value} {h : xH} {r : xS} (e : xald t0 t1 pc ls st h = some r) : ∃ a i sk t n z, st = .int i :: .ref a :: sk ∧ h.1 a = some (.inl (t, n, z)) ∧ (t = t0 ∨ t = t1) ∧ xIn i n ∧ xn (pc + 1) ls (z i.toNatClampNeg :: sk) h = some r := by
  obtain ⟨a, i, sk, rfl, e⟩ := xqIR_inv e
  obtain ⟨t, n, z, ha, e⟩ := xar_inv e
  obtain ⟨⟨h1, h2⟩, e⟩ := xif_inv e
  exact ⟨a, i, sk, t, n, z, rfl, ha, h1, h2, e⟩
theorem xast_inv {t0 : Nat} {v : Value} {pc : Nat} {ls : xL} {st : List Value} {h : xH} {r : xS} (e : xast t0 v pc ls st h = some r) : ∃ a i sk n z, st = .int i :: .ref a :: sk ∧ h.1 a = some (.inl (t0, n, z)) ∧ xIn i n ∧ xn (pc + 1) ls sk (xput h a (.inl (t0, n, updV z i.toNatClampNeg v))) = some r := by
  obtain ⟨a, i, sk, rfl, e⟩ := xqIR_inv e
  obtain ⟨t, n, z, ha, e⟩ := xar_inv e
  obtain ⟨⟨h1, h2⟩, e⟩ := xif_inv e
  subst h1
  exact ⟨a, i, sk, n, z, rfl, ha, h2, e⟩
theorem xdone_inv {call : Nat → List Value → xH → Option xR} {jj pc : Nat} {as rest : List Value} {ls : xL} {h : xH} {r : xS} (e : xdone call jj pc as rest ls h = some r) : ∃ v h', (rest.map fun v => v.category).sum ≤ 8 ∧ call jj as h = some (v, h') ∧ xn (pc + 3) ls (v.toList ++ rest) h' = some r := by
  obtain ⟨h1, e⟩ := xif_inv e
  split at e
  · exact ⟨_, _, h1, by assumption, e⟩
  · cases e
theorem xw_aast {pc a : Nat} {i : Int32} {r : Option Nat} {ls : xL} {sk : List Value} {h : xH} {q : xS} (hx : p.tables.exec = Jvm.exec) (hb : c.code = x_b j) (hK : xK dC dI aC s) (hdec : decode (x_b j) pc = .ok (.aastore, 1))
    (hs : xasq r pc ls (.int i :: .ref a :: sk) h = some q) : xle h q.2.2.2 ∧ (xWW p l e R s m args below meth c Q dC dI aC b0 c0 s0 (x_nl j) q.2.2.2 q.1 q.2.1 q.2.2.1 → xWW p l e R s m args below meth c Q dC dI aC b0 c0 s0 (x_nl j) h pc ls (va_rf r :: .int i :: .ref a :: sk)) := by
  obtain ⟨a', i', sk', hst, hs⟩ := xqIR_inv hs
  cases hst
  obtain ⟨t, n, z, ha, hs⟩ := xar_inv hs
  obtain ⟨⟨hq, hin⟩, hs⟩ := xif_inv hs
  obtain ⟨C, hat, hnS, hcl⟩ := x_isq_ok hq
  cases r with
  | none =>
    cases hs
    exact ⟨⟨rfl, Nat.le_refl _, Nat.le_refl _⟩, fun k H LS locs cells slots I => va_WaastN (C := C) hx hb ((I.1.2 a _ ha).1.arr hnS) ((hK.2.1 t _ hat).1 n z) (fun q => by cases q) (xw_in hin) rfl rfl hdec (fun H1 e1 e2 e3 => xw_sto I ((I.1.2 a _ ha).2 hnS) hnS k e1 e2 e3)⟩
  | some v =>
    obtain ⟨fs, hv, hs⟩ := xis_inv hs
    cases hs
    refine ⟨⟨rfl, Nat.le_refl _, Nat.le_refl _⟩, fun k H LS locs cells slots I => ?_⟩
    obtain ⟨⟨r', hr', cellV, g1, g2, g3, -⟩, -⟩ := I.1.2 v _ hv
    have hC : r'.1 = C := hcl r' hr'
    have hcls := (hK.1.1 _ r' hr').2
    obtain ⟨kA, comp, k1, k2, k3, -⟩ := (hK.2.1 t _ hat).2 hnS
    rw [← hC] at k3
    have hcomp : comp = dC (x_ac t) := Option.some.inj (k3.symm.trans hcls.1)
    subst hcomp
    obtain ⟨kC, hkC, -⟩ := hcls.2
    have hlt := xs_in hin
    exact W.aast hx hb ((I.1.2 a _ ha).1.arr hnS) (fun q h => by cases h) (fun h => by cases h) k1 k2 rfl hkC ⟨fun q => hin (Or.inl q), by rw [arrV_size]; exact hlt⟩ g1 (fun q h => by rw [g3] at h; cases h) (by rw [g2]; exact hkC) (by rw [g2]; exact va_assign hcls) rfl rfl hdec (fun H1 e1 e2 e3 => xw_sto I ((I.1.2 a _ ha).2 hnS) hnS k e1 e2 e3)
theorem xnat_inv {d : Nat} {sk : List Value} {o : Option xS} {r : xS} (h : xnat d sk o = some r) : (d ≠ 0 ∧ (sk.map fun v => v.category).sum ≤ 8) ∧ o = some r := xif_inv h
theorem xcp_inv {d pc : Nat} {ls : xL} {st : List Value} {h : xH} {r : xS} (e : xcp d pc ls st h = some r) : ∃ (n dp : Int32) (a : Nat) (sp : Int32) (a0 : Nat) (rest : List Value) (n0 n1 : Nat) (z0 z1 : Nat → Value), st = .int n :: .int dp :: .ref a :: .int sp :: .ref a0 :: rest ∧ h.1 a0 = some (.inl (x_tI, n0, z0)) ∧ h.1 a = some (.inl (x_tI, n1, z1)) ∧
    ¬ sp < 0 ∧ ¬ dp < 0 ∧ ¬ n < 0 ∧ sp.toNatClampNeg + n.toNatClampNeg ≤ n0 ∧ dp.toNatClampNeg + n.toNatClampNeg ≤ n1 ∧ (∀ i, i < n.toNatClampNeg → fits .int (z0 (sp.toNatClampNeg + i)) = true) ∧ d ≠ 0 ∧ (rest.map fun v => v.category).sum ≤ 8 ∧
    xn (pc + 3) ls rest (xput h a (.inl (x_tI, n1, va_cpy z0 z1 sp.toNatClampNeg dp.toNatClampNeg n.toNatClampNeg))) = some r := by
  unfold xcp at e
  split at e
  · rename_i n dp a sp a0 rest
    obtain ⟨t0, n0, z0, h0, e⟩ := xar_inv e
    obtain ⟨t1, n1, z1, h1, e⟩ := xar_inv e
    obtain ⟨⟨q0, q1, g1, g2, g3, g4, g5, g6⟩, e2⟩ := xif_inv e
    subst q0
    subst q1
    obtain ⟨⟨g7, g8⟩, e3⟩ := xnat_inv e2
    exact ⟨n, dp, a, sp, a0, rest, n0, n1, z0, z1, rfl, h0, h1, g1, g2, g3, g4, g5, fun i hi => List.all_eq_true.mp g6 i (List.mem_range.mpr hi), g7, g8, e3⟩
  · cases e
set_option maxHeartbeats 2000000 in
theorem xw_cp {pc i jj nn : Nat} {sp dp n : Int32} {a a0 n0 n1 : Nat} {z0 z1 : Nat → Value} {ls : xL} {rest : List Value} {h : xH} (hx : p.tables.exec = Jvm.exec) (hb : c.code = x_b j) (hml : c.maxLocals = x_nl j) (hown : s.vm.findClass (x_own j) = some m.cls) (hts : ∀ w ∈ x_G, w.before args s = true) (hK : xK dC dI aC s)
    (hf : x_inv (x_oc j) i = some (7, jj, nn)) (h0 : h.1 a0 = some (.inl (x_tI, n0, z0))) (h1 : h.1 a = some (.inl (x_tI, n1, z1))) (g1 : ¬ sp < 0) (g2 : ¬ dp < 0) (g3 : ¬ n < 0) (g4 : sp.toNatClampNeg + n.toNatClampNeg ≤ n0) (g5 : dp.toNatClampNeg + n.toNatClampNeg ≤ n1) (g6 : ∀ i, i < n.toNatClampNeg → fits .int (z0 (sp.toNatClampNeg + i)) = true)
    (hfr : 1 ≤ R.frames) (hlo : 64 ≤ R.locals) (hroom : (rest.map fun v => v.category).sum ≤ 8) (hdec : decode (x_b j) pc = .ok (.invokestatic i, 3))
    (kk : xWW p l e R s m args below meth c Q dC dI aC b0 c0 s0 (x_nl j) (xput h a (.inl (x_tI, n1, va_cpy z0 z1 sp.toNatClampNeg dp.toNatClampNeg n.toNatClampNeg))) (pc + 3) ls rest) : xWW p l e R s m args below meth c Q dC dI aC b0 c0 s0 (x_nl j) h pc ls (.int n :: .int dp :: .ref a :: .int sp :: .ref a0 :: rest) := by
  intro H LS locs cells slots I
  obtain ⟨w1, w2, w3, w4⟩ := x_inv_ok7 hf
  have nnz : ∀ z : Int32, ¬ z < 0 → z.toInt = (z.toNatClampNeg : Int) := by
    intro z hz
    have hz0 : (0 : Int) ≤ z.toInt := by
      have := Int32.not_lt.mp hz
      simpa using Int32.le_iff_toInt_le.mp this
    show z.toInt = ((z.toInt.toNat : Nat) : Int)
    omega
  intro T hT X
  have hc0 : H[a0]? = some (arrV (aC x_tI) n0 z0) := (I.1.2 a0 _ h0).1.arr x_nS_I
  have hc1 : H[a]? = some (arrV (aC x_tI) n1 z1) := (I.1.2 a _ h1).1.arr x_nS_I
  have hba : h.2.1 ≤ a := (I.1.2 a _ h1).2 x_nS_I
  obtain ⟨-, k0, hk0, cm0, hkk0⟩ := (hK.2.1 x_tI .int rfl).1 n0 z0
  obtain ⟨-, k1, hk1, cm1, hkk1⟩ := (hK.2.1 x_tI .int rfl).1 n1 z1
  obtain ⟨vm', X', step⟩ := X.arraycopy hx hown (hts _ w1) (hts _ w4) (hts _ w2) (hts _ w3) (src := a0) (dst := a) (cs := arrV (aC x_tI) n0 z0) (cd := arrV (aC x_tI) n1 z1) (srcPos := sp) (destPos := dp) (n := n) (by rw [hT]; exact hc0) (by rw [hT]; exact hc1)
    (fun _ h => by cases h) (fun _ h => by cases h) (fun h => by cases h) (fun h => by cases h) hk0 hk1 hkk0 hkk1 (by simp [refKind]) g1 g2 g3
    (by rw [nnz sp g1, nnz n g3, arrV_size]; omega)
    (by rw [nnz dp g2, nnz n g3, arrV_size]; omega)
    (fun vm₁ _ i hi => by
      have e : (arrV (aC x_tI) n0 z0).slots.getD (sp.toNatClampNeg + i) .null = z0 (sp.toNatClampNeg + i) := by
        rw [Array.getD_eq_getD_getElem?, arrV_read _ _ (by omega)]
        rfl
      have hfi := g6 i hi
      rw [e]
      generalize z0 (sp.toNatClampNeg + i) = v at hfi
      cases v <;> first | exact ⟨rfl, trivial⟩ | cases hfi)
    (g := F0 m pc LS (.int n :: .int dp :: .ref a :: .int sp :: .ref a0 :: rest)) rfl (by rw [hml]; exact I.2.2.1.sz) (rest := rest) rfl (by rw [hb]; exact hdec) hfr (by show 2 * 0 + _ + (7 + 11) ≤ _; omega)
  have e1 : copied (arrV (aC x_tI) n0 z0) (arrV (aC x_tI) n1 z1) sp dp n = arrV (aC x_tI) n1 (va_cpy z0 z1 sp.toNatClampNeg dp.toNatClampNeg n.toNatClampNeg) := va_copied (fun z => z) _ _ z0 z1 g4
  rw [e1] at X' step
  have hl : a < H.size := (Array.getElem?_eq_some_iff.mp hc1).1
  have hheap : ((T.setVm vm').setCell a (arrV (aC x_tI) n1 (va_cpy z0 z1 sp.toNatClampNeg dp.toNatClampNeg n.toNatClampNeg))).heap = H.setIfInBounds a (arrV (aC x_tI) n1 (va_cpy z0 z1 sp.toNatClampNeg dp.toNatClampNeg n.toNatClampNeg)) := by rw [← hT]; rfl
  have oq : ∀ q : Nat, q ≠ a → (H.setIfInBounds a (arrV (aC x_tI) n1 (va_cpy z0 z1 sp.toNatClampNeg dp.toNatClampNeg n.toNatClampNeg)))[q]? = H[q]? := fun q hq => by simp [Array.getElem?_setIfInBounds, Ne.symm hq]
  obtain ⟨t, a1, b1⟩ := kk _ LS _ cells slots (I.putL hba (fun q hq => by
      obtain ⟨z, -, hz⟩ := List.mem_map.mp hq
      rw [← hz]) (by simp) oq (xat.of x_nS_I (by simp [Array.getElem?_setIfInBounds, hl]))) _ hheap X'
  exact ⟨t, step t a1, b1⟩
end Step
