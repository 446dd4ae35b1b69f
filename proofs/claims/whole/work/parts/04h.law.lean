/-! THE CLAIM OUT OF ONE WALK OF THE LAW'S BODY. Your part is whole_start (and what it stands on); all else here is the same for every law, but numbers. -/
def R_law : String := "StateMovesLaw"
def lw_P (b : Addr) (xs : List Int32) (args : Array Value) (s : State) : Prop := args = #[.ref b] ∧ s.IntsAt b xs ∧ xs.length ≤ 3584 ∧ (Jvm.Cond.and given_1 narrow_1).before args s = true
def lw_Q (_ : Array Value) (s : State) (o : Outcome) (t : State) : Prop := o = .returned (some (.int 1)) ∧ Framed s o t [] 600000 room_1.slots
def lw_Z (below : List Frame) (a : Array Value) (s : State) : State → Prop := fun t => ∃ o, t.status = .running ∧ Ended t below o ∧ lw_Q a s o t
/-- the law's own end, with 1 on the stack, nothing written that was there before, its room as the claim has it -/
theorem lw_ret {p : Program} {l : Launch} {e : Env} {s : State} {m : MethodId} {below : List Frame} {meth : Method} {c : Code} {b : Nat} (hx : p.tables.exec = Jvm.exec) (hb : c.code = code) (hr : meth.sig.returnType = ret) (hlocks : meth.locks = false) {pc : Nat} {H : Heap} {ls : Array Slot} (hdg : decode code pc = .ok (.ireturn, 1)) : W p l e room_1 s m #[Value.ref b] below meth c H [] 600000 room_1.slots (lw_Z below #[Value.ref b] s) (F0 m pc ls [.int 1]) := by
  intro T hT X
  obtain ⟨fs, hret, hrun, hended, hW, hframe⟩ := X.leave (v := some (.int 1)) (hlocks := hlocks) (fun h => by rw [hr] at h; cases h)
  have hmeth' : T.vm.method? m = some meth := X.method'
  refine ⟨T.setFrames fs, ?_, .returned (some (.int 1)), hrun, hended, rfl, ⟨_, rfl⟩, hW, hframe⟩
  jvm_step X.here [X.here.top, hx, hb, hdg, hmeth', hr, ret, narrow_b1]
  (try refine ⟨rfl, ?_⟩); (try refine ⟨rfl, ?_⟩)
  first | (intro acts; rw [hret _ acts rfl rfl rfl]) | rw [hret _ _ rfl rfl rfl]
  exact Steps.refl _
/-- what holds at the law's entry: the machine, the code, the tables' words (any of lw_tbl by 'hts w (by decide +kernel)'), the script of L ints xs at the cell b, what the Statement gives of the start (any of its parts by flat_of_before) -/
def lw_At (p : Program) (s : State) (m : MethodId) (meth : Method) (c : Code) (b L : Nat) (xs : Nat → Int32) : Prop :=
  p.tables.exec = Jvm.exec ∧ c.code = code ∧ meth.sig.returnType = ret ∧ c.maxLocals = 4 ∧ s.vm.findClass R_law = some m.cls ∧ (∀ w ∈ lw_tbl, w.before #[Value.ref b] s = true) ∧ va_X b L xs s s.heap ∧ b < s.heap.size ∧ meth.locks = false ∧ (Jvm.Cond.and given_1 narrow_1).before #[Value.ref b] s = true
set_option maxHeartbeats 4000000 in
theorem whole_from {p : Program} {e : Env} {s : State} {m : MethodId} {below : List Frame} {meth : Method} {c : Code} (l : Launch) {b L : Nat} {xs : Nat → Int32} (C0 : lw_At p s m meth c b L xs) (H : xLawOk b L xs s.heap.size) : W p l e room_1 s m #[Value.ref b] below meth c s.heap [] 0 0 (lw_Z below #[Value.ref b] s) (entryFrame m ([Value.ref b] : List Value).toArray 4) := by
  obtain ⟨hx, hb, hr, hml, hown, hts, hX, hbl, hlocks, hgv⟩ := id C0
  obtain ⟨D, h1, hD, hrun, hC, hS⟩ := H
  obtain ⟨n, hn⟩ := xrunc_to hrun
  obtain ⟨dC, dI, aC, hK, hRep⟩ := xK_start hts hX
  have hG : ∀ w ∈ x_G, w.before #[Value.ref b] s = true := fun w hw => hts w (List.mem_filter.mp hw).1
  have hcall : ∀ jj as h r g1, xm D jj as h = some (r, g1) → xle h g1 ∧ D ≠ 0 ∧ jj < x_n ∧ xMet l dC dI aC (D - 1) jj as h r g1 := by
    intro jj as h r g1 hk
    cases D with
    | zero => cases hk
    | succ D =>
      obtain ⟨a1, a2, a3⟩ := xm_ok D jj as h r g1 hk
      exact ⟨a1, by omega, a2, a3⟩
  obtain ⟨-, hW⟩ := xe_ok (p := p) (l := l) (e := e) (R := room_1) (s := s) (m := m) (args := #[Value.ref b]) (below := below) (meth := meth) (c := c) (Q := lw_Z below #[Value.ref b] s) (b0 := s.heap.size) (c0 := s.heap.size) (s0 := 0) (j := x_n) hx hb hml hown hG hK (fun q => by cases q) (Nat.le_refl _) (show D ≤ 2048 by omega) (show D * 64 ≤ 84000 by omega) hcall n 0 _ [] _ _ hn
  have hl : xLo ((lg_sl [Value.ref b] ++ List.replicate (4 - (lg_sl [Value.ref b]).length) Slot.unset).toArray) 4 (xentL 4 [1] [Value.ref b]) := xent_ok rfl (by decide)
  rw [lg_entry_eq]
  have hRoom : 7302000 ≤ room_1.slots := by decide
  refine hW hC (show h1.2.2.2 ≤ 0 + room_1.slots by omega) ?_ s.heap _ [] 0 0 ⟨hRep, rfl, hl, fun _ _ => rfl, (fun q hq => absurd hq List.not_mem_nil), Nat.zero_add _, rfl⟩
  intro pc ls st ins len hdec hf H LS locs cells slots I
  obtain ⟨rfl, rfl, rfl⟩ := xfin_1 hf
  obtain ⟨i1, i2, i3, i4, i5, i6, i7⟩ := I
  refine va_forget i5 ?_
  refine W.widen (k := 600000) (n := room_1.slots) (by have : cells + s.heap.size = h1.2.2.1 := i6; omega) (by have : slots + 0 = h1.2.2.2 := i7; omega) ?_
  exact lw_ret hx hb hr hlocks hdec
