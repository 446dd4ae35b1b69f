/-! From the law's entry: what the abstract machine answers there gives whole_start. -/
theorem x_cl_known {s : State} {args : Array Value} (hts : ∀ w ∈ x_G, w.before args s = true) {ci : Nat} {r : vw_C} (h : x_cl[ci]? = some r) : ∃ (cC : ClassId) (iS : Nat → Nat), u_Kn s r.1 r.2.1 r.2.2 cC iS := by
  have hi : ∃ n, Cond.instantiable r.1 n ∈ x_G := by
    have hall : ∀ q ∈ x_cl.zip x_cli, ∃ n, lw_tbl[q.2.1]? = some (Cond.instantiable q.1.1 n) := by
      have hb : ∀ q ∈ x_cl.zip x_cli, lw_tbl[q.2.1]? = some (Cond.instantiable q.1.1 q.1.2.2) := by
        have : (x_cl.zip x_cli).all (fun q => decide (lw_tbl[q.2.1]? = some (Cond.instantiable q.1.1 q.1.2.2))) = true := by decide +kernel
        intro q hq
        exact of_decide_eq_true (List.all_eq_true.mp this q hq)
      exact fun q hq => ⟨_, hb q hq⟩
    have hlen : x_cl.length = x_cli.length := rfl
    have hlt : ci < x_cl.length := (List.getElem?_eq_some_iff.mp h).1
    have hz : (x_cl.zip x_cli)[ci]? = some (r, x_cli[ci]'(by omega)) := by
      rw [List.getElem?_zip_eq_some]
      exact ⟨h, List.getElem?_eq_getElem _⟩
    obtain ⟨n, hn⟩ := hall _ (List.mem_of_getElem? hz)
    exact ⟨n, x_at_in hn rfl⟩
  obtain ⟨n, hn⟩ := hi
  exact u_known hts (x_cl_in h) (hts _ hn)
theorem x_arr_prim {s : State} {args : Array Value} {ty : FieldType} (h : (Cond.arrayClass ty).before args s = true) (hp : ∀ C, ty ≠ .object C) : ∃ cA, ArrOfT s cA ty ∧ va_RA s cA ty := by
  obtain ⟨cA, k, comp, h1, h2, h3⟩ := Cond.arrayClass_spec h
  refine ⟨cA, fun n z => ⟨fun k h => (by cases h), k, h2, comp, h3⟩, ?_⟩
  cases ty <;> first | exact h1 | exact absurd rfl (hp _)
theorem x_arr_obj {s : State} {C : String} (h : va_AO C s) : ∃ cA, ArrOfT s cA (.object C) ∧ va_RA s cA (.object C) := by
  obtain ⟨comp, cA, k, h1, -, h2, h3, h4⟩ := Cond.arrayOver_spec h
  exact ⟨cA, fun n z => ⟨fun k h => (by cases h), k, h2, comp, h3⟩, k, comp, h2, h3, h1, h4⟩
theorem x_arrs {s : State} {args : Array Value} (hts : ∀ w ∈ lw_tbl, w.before args s = true) {t : Nat} {ty : FieldType} (h : x_at[t]? = some ty) : ∃ cA, ArrOfT s cA ty ∧ va_RA s cA ty := by
  have hG : ∀ w ∈ x_G, w.before args s = true := fun w hw => hts w (List.mem_filter.mp hw).1
  rcases Nat.lt_or_ge t 5 with h5 | h5
  · match t, h with
    | 0, h => cases h; exact x_arr_prim (hG _ (x_na_ok (ty := .int) rfl).2) (fun C q => by cases q)
    | 1, h => cases h; exact x_arr_prim (hG _ (x_na_ok (ty := .int) rfl).2) (fun C q => by cases q)
    | 2, h => cases h; exact x_arr_prim (hG _ (x_na_ok (ty := .long) rfl).2) (fun C q => by cases q)
    | 3, h => cases h; exact x_arr_prim (hG _ (x_na_ok (ty := .byte) rfl).2) (fun C q => by cases q)
    | 4, h => cases h; exact x_arr_prim (hG _ (x_na_ok (ty := .boolean) rfl).2) (fun C q => by cases q)
  · have hall : ∀ q ∈ x_at.zip x_aoi, ∀ C, q.1 = .object C → lw_tbl[q.2]? = some (Cond.arrayOver (.object C)) := by
      have : (x_at.zip x_aoi).all (fun q => match q.1 with | .object C => decide (lw_tbl[q.2]? = some (Cond.arrayOver (.object C))) | _ => true) = true := by decide +kernel
      intro q hq C hC
      have h1 := List.all_eq_true.mp this q hq
      rw [hC] at h1
      exact of_decide_eq_true h1
    have hlt : t < x_at.length := (List.getElem?_eq_some_iff.mp h).1
    have hlen : x_at.length = x_aoi.length := rfl
    have hz : (x_at.zip x_aoi)[t]? = some (ty, x_aoi[t]'(by omega)) := by
      rw [List.getElem?_zip_eq_some]
      exact ⟨h, List.getElem?_eq_getElem _⟩
    have hq : x_isq t = true := by
      unfold x_isq
      rw [Bool.and_eq_true, decide_eq_true_eq, decide_eq_true_eq]
      exact ⟨h5, hlt⟩
    obtain ⟨C, hC, -, -⟩ := x_isq_ok hq
    rw [hC] at h
    cases h
    exact x_arr_obj (va_AO.of (hts _ (List.mem_of_getElem? (hall _ (List.mem_of_getElem? hz) C rfl))))
/-- the heap at the law's entry: the script alone -/
def xh0 (b L : Nat) (xs : Nat → Int32) (N : Nat) : xH := (fun a => if a = b then some (.inl (x_tS, L, fun k => .int (xs k))) else none, N, N, 0)
theorem xK_start {s : State} {args : Array Value} {b L : Nat} {xs : Nat → Int32} (hts : ∀ w ∈ lw_tbl, w.before args s = true) (hX : va_X b L xs s s.heap) : ∃ dC dI aC, xK dC dI aC s ∧ xRep dC dI aC (xh0 b L xs s.heap.size) s.heap := by
  have hG : ∀ w ∈ x_G, w.before args s = true := fun w hw => hts w (List.mem_filter.mp hw).1
  have hcl : ∀ ci : Nat, ∃ q : ClassId × (Nat → Nat), ∀ r : vw_C, x_cl[ci]? = some r → u_Kn s r.1 r.2.1 r.2.2 q.1 q.2 := by
    intro ci
    cases h : x_cl[ci]? with
    | none => exact ⟨(0, fun _ => 0), fun r hr => by cases hr⟩
    | some r =>
      obtain ⟨cC, iS, hk⟩ := x_cl_known hG h
      exact ⟨(cC, iS), fun r' hr => by cases hr; exact hk⟩
  have har : ∀ t : Nat, ∃ cA : ClassId, ∀ ty : FieldType, x_at[t]? = some ty → ArrOfT s cA ty ∧ va_RA s cA ty := by
    intro t
    cases h : x_at[t]? with
    | none => exact ⟨0, fun r hr => by cases hr⟩
    | some ty =>
      obtain ⟨cA, hk⟩ := x_arrs hts h
      exact ⟨cA, fun ty' hr => by cases hr; exact hk⟩
  obtain ⟨scr, g1, g2, g3, g4, g5⟩ := hX
  refine ⟨fun ci => (Classical.choose (hcl ci)).1, fun ci => (Classical.choose (hcl ci)).2, fun t => if t = x_tS then scr.cls else Classical.choose (har t), ⟨⟨fun ci r hr => Classical.choose_spec (hcl ci) r hr, fun k q h => by simp at h⟩, ?_, ?_, ?_⟩, ?_⟩
  · intro t ty ht
    by_cases hS : t = x_tS
    · subst hS
      cases ht
      refine ⟨fun n z => ?_, fun q => absurd rfl q⟩
      dsimp only
      rw [if_pos rfl]
      exact ⟨fun k h => (by cases h), g2.2⟩
    · dsimp only
      rw [if_neg hS]
      have := Classical.choose_spec (har t) ty ht
      exact ⟨this.1, fun _ => this.2⟩
  · intro C hC
    exact va_AO.of (hts _ (List.mem_filter.mp hC).1)
  · intro a i y q hq
    exact va_Nw.of rfl (hts _ (List.mem_filter.mp hq).1)
  · refine ⟨rfl, fun a e he => ?_⟩
    unfold xh0 at he
    dsimp only at he
    by_cases hab : a = b
    · rw [if_pos hab] at he
      cases he
      subst hab
      refine ⟨?_, fun q => absurd rfl q⟩
      unfold xat
      dsimp only
      rw [if_pos rfl]
      exact ⟨scr, g1, g2.1, g3, rfl, g4, g5⟩
    · rw [if_neg hab] at he
      cases he
theorem xfin_1 {j : Nat} {ins : Jvm.ClassFile.Instr} {len : Nat} {st : List Value} (h : xfin j ins len st = some (some (.int 1))) : ins = .ireturn ∧ len = 1 ∧ st = [.int 1] := by
  unfold xfin at h
  replace h := xif_inv h
  obtain ⟨rfl, h⟩ := h
  split at h
  · split at h
    · replace h := xif_inv h
      obtain ⟨-, h⟩ := h
      cases h
      exact ⟨rfl, rfl, rfl⟩
    · cases h
  · split at h
    · replace h := xif_inv h
      obtain ⟨-, h⟩ := h
      cases h
    · cases h
  · split at h
    · replace h := xif_inv h
      obtain ⟨-, h⟩ := h
      cases h
    · replace h := xif_inv h
      obtain ⟨-, h⟩ := h
      cases h
    · cases h
  · split at h
    · replace h := xif_inv h
      obtain ⟨-, h⟩ := h
      cases h
    · cases h
  · cases h
/-- the law answers 1, as the abstract machine has it -/
def xLawOk (b L : Nat) (xs : Nat → Int32) (N : Nat) : Prop := ∃ (D : Nat) (h1 : xH), D ≤ 1300 ∧ xrun D x_n 0 [(1, .ref b), (0, .null), (0, .null), (0, .null)] [] (xh0 b L xs N) = some (some (.int 1), h1) ∧ h1.2.2.1 ≤ N + 600000 ∧ h1.2.2.2 ≤ 7302000
