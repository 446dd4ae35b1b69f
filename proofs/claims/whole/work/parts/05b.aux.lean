/-! Small things that printed rows lean on. -/
theorem x_sum8 (s : List Value) (h : s.length ≤ 4) : (s.map fun v => v.category).sum ≤ 8 := by
  have h2 : ∀ t : List Value, (t.map fun v => v.category).sum ≤ 2 * t.length := by
    intro t
    induction t with
    | nil => exact Nat.le_refl _
    | cons v t ih =>
      rw [List.map_cons, List.sum_cons, List.length_cons]
      rcases lv_cat v with hc | hc <;> omega
  have := h2 s
  omega
theorem x_if8 {α : Type} {c e : Prop} [Decidable c] [Decidable e] {a b : α} (he : e) : (if c ∧ e then a else b) = if c then a else b := by
  simp only [he, and_true]
def xwb {α : Type} (h : xH) (a : Nat) (i x : Int32) (f : xH → Option α) : Option α := xar h a fun t n z => if (t = x_tB ∨ t = x_tZ) ∧ xIn i n then f (xput h a (.inl (t, n, updV z i.toNatClampNeg (narrow (if t = x_tB then .byte else .boolean) (.int x))))) else none
def xwq {α : Type} (h : xH) (a : Nat) (i : Int32) (v : Value) (f : xH → Option α) : Option α := xar h a fun t n z => if x_isq t = true ∧ xIn i n then (match v with
    | .null => f (xput h a (.inl (t, n, updV z i.toNatClampNeg .null)))
    | .ref v => xis h v (x_ac t) (f (xput h a (.inl (t, n, updV z i.toNatClampNeg (.ref v)))))
    | _ => none) else none
def xcopy {α : Type} (h : xH) (a0 a : Nat) (sp dp k : Int32) (f : xH → Option α) : Option α := xar h a0 fun t0 n0 z0 => xar h a fun t1 n1 z1 =>
      if t0 = x_tI ∧ t1 = x_tI ∧ ¬ sp < 0 ∧ ¬ dp < 0 ∧ ¬ k < 0 ∧ sp.toNatClampNeg + k.toNatClampNeg ≤ n0 ∧ dp.toNatClampNeg + k.toNatClampNeg ≤ n1 ∧ (List.range k.toNatClampNeg).all (fun i => fits .int (z0 (sp.toNatClampNeg + i))) = true then
        f (xput h a (.inl (x_tI, n1, va_cpy z0 z1 sp.toNatClampNeg dp.toNatClampNeg k.toNatClampNeg))) else none
section Rows2
variable {d j pc : Nat} {ls : xL} {st s : List Value} {h : xH}
theorem r_acopy' {i jj n a a0 : Nat} {k dp sp : Int32} (hd : decode (x_b j) pc = .ok (.invokestatic i, 3)) (hf : x_inv (x_oc j) i = some (7, jj, n)) (h8 : (s.map fun v => v.category).sum ≤ 8) : xrun d j pc ls (.int k :: .int dp :: .ref a :: .int sp :: .ref a0 :: s) h = xcopy h a0 a sp dp k fun h => if d ≠ 0 then xrun d j (pc + 3) ls s h else none := by
  rw [r_acopy hd hf]
  unfold xcopy
  simp only [h8, and_true]
theorem x_okI (v : Int32) : xokv .int (.int v) = true := by unfold xokv; simp [narrow, fits]
theorem r_zreturn {v : Int32} {ty : FieldType} (hd : decode (x_b j) pc = .ok (.ireturn, 1)) (hr : x_rt j = some ty) : xrun d j pc ls [.int v] h = if xokv ty (.int v) = true then some (some (.int v), h) else none := by
  by_cases hv : xokv ty (.int v) = true
  · rw [if_pos hv]
    exact r_ireturn hd hr hv
  · rw [if_neg hv]
    have hf : xfin j .ireturn 1 [.int v] = none := by
      show (if xret j (.int v) = true then _ else none) = _
      have : ¬ xret j (.int v) = true := by unfold xret; rw [hr]; exact hv
      rw [if_neg this]
    rw [xr_step hd hf]
    rfl
theorem r_areturnA {v : Value} {C : FieldType} (hd : decode (x_b j) pc = .ok (.areturn, 1)) (hr : x_rt j = some (.array C)) : xrun d j pc ls [v] h = xcA v fun v => some (some v, h) := by
  cases v with
  | ref a =>
    refine xr_fin hd ?_
    have : xret j (.ref a) = true := by unfold xret; rw [hr]; unfold xokv; simp [narrow, fits]
    show (if xret j (.ref a) = true then _ else none) = _
    rw [if_pos this]
  | null =>
    refine xr_fin hd ?_
    have : xret j .null = true := by unfold xret; rw [hr]; unfold xokv; simp [narrow, fits]
    show (if xret j .null = true then _ else none) = _
    rw [if_pos this]
  | _ => rw [xr_step hd rfl]; rfl
theorem r_tableswitch {x : Int32} {dflt lo hi : Int} {offs : Array Int} {len : Nat} (hd : decode (x_b j) pc = .ok (.tableswitch dflt lo hi offs, len)) : xrun d j pc ls (.int x :: s) h = if x.toInt < lo ∨ hi < x.toInt then xgo d j (xjt pc dflt ls s h) else (match offs[(x.toInt - lo).toNat]? with | some off => xgo d j (xjt pc off ls s h) | none => none) := by
  have hf : xfin j (.tableswitch dflt lo hi offs) len (.int x :: s) = none := by
    unfold xfin
    split <;> rfl
  rw [xr_step hd hf]
  show xgo d j (if x.toInt < lo ∨ hi < x.toInt then _ else _) = _
  rw [go_if]
  congr 1
  generalize offs[(x.toInt - lo).toNat]? = o
  cases o <;> rfl
theorem r_lookupswitch {x : Int32} {dflt : Int} {ps : Array (Int × Int)} {len : Nat} (hd : decode (x_b j) pc = .ok (.lookupswitch dflt ps, len)) (hs : (ps.toList.zip (ps.toList.drop 1)).all (fun (a, next) => a.1 < next.1) = true) : xrun d j pc ls (.int x :: s) h = xgo d j (xjt pc (Jvm.Op.lookupswitch.offset ps.toList dflt x.toInt) ls s h) := by
  have hf : xfin j (.lookupswitch dflt ps) len (.int x :: s) = none := by
    unfold xfin
    split <;> rfl
  rw [xr_step hd hf]
  show xgo d j (if _ = true then _ else none) = _
  rw [if_pos hs]
end Rows2
theorem x_ne {x k : Int32} (h : ¬ x = k) : x.toInt ≠ k.toInt := fun e => h (Int32.toInt_inj.mp e)
