/-! What the abstract machine answers the real one does: an instruction, a row. -/
def xLo (LS : Array Slot) (nL : Nat) (ls : xL) : Prop := ls.length = nL ∧ ∃ lv, lv_has LS nL lv ∧ ∀ (i t : Nat) (v : Value), ls[i]? = some (t, v) → t ≠ 0 → (i, v) ∈ lv ∧ v.category = t
theorem xLo.at {LS : Array Slot} {nL i t : Nat} {ls : xL} {v : Value} (h : xLo LS nL ls) (e : ls[i]? = some (t, v)) (ht : t ≠ 0) : LS[i]? = some (.val v) := by
  obtain ⟨-, lv, hl, hh⟩ := h
  exact hl.2.2 _ (hh i t v e ht).1
theorem xLo.sz {LS : Array Slot} {nL : Nat} {ls : xL} (h : xLo LS nL ls) : LS.size = nL := by
  obtain ⟨-, lv, hl, -⟩ := h
  exact hl.1
theorem xclr_len (ls : xL) (i : Nat) : (xclr ls i).length = ls.length := by
  unfold xclr
  split
  · rfl
  · split <;> simp
theorem xset_at {ls : xL} {i q : Nat} {x y : Nat × Value} (e : (ls.set i x)[q]? = some y) : (q = i ∧ y = x) ∨ (q ≠ i ∧ ls[q]? = some y) := by
  by_cases h : q = i
  · subst h
    have hl : q < (ls.set q x).length := (List.getElem?_eq_some_iff.mp e).1
    rw [List.length_set] at hl
    rw [List.getElem?_set_self hl] at e
    exact Or.inl ⟨rfl, (Option.some.inj e).symm⟩
  · rw [List.getElem?_set_ne (Ne.symm h)] at e
    exact Or.inr ⟨h, e⟩
theorem xclr_at {ls : xL} {i q t : Nat} {w : Value} (e : (xclr ls i)[q]? = some (t, w)) (ht : t ≠ 0) : ls[q]? = some (t, w) ∧ ¬ (q + 1 = i ∧ t = 2) := by
  unfold xclr at e
  split at e
  · exact ⟨e, fun h => by omega⟩
  · rename_i i
    split at e
    · rcases xset_at e with ⟨h1, h2⟩ | ⟨h1, h2⟩
      · cases h2
        exact absurd rfl ht
      · exact ⟨h2, fun h => h1 (by omega)⟩
    · rename_i hno
      refine ⟨e, fun h => ?_⟩
      obtain ⟨h1, h2⟩ := h
      subst h2
      have h3 : q = i := by omega
      subst h3
      exact hno _ e
theorem xLo.st1 {LS' : Array Slot} {nL i : Nat} {ls : xL} {lv : List (Nat × Value)} {v : Value} (hlen : ls.length = nL) (hh : ∀ (i t : Nat) (v : Value), ls[i]? = some (t, v) → t ≠ 0 → (i, v) ∈ lv ∧ v.category = t) (hc : v.category = 1)
    (h' : lv_has LS' nL ((i, v) :: lv.filter (fun q => !(q.1 == i) && !(q.1 + 1 == i && q.2.category == 2)))) : xLo LS' nL (xst1 ls i v) := by
  refine ⟨by unfold xst1; rw [List.length_set, xclr_len, hlen], _, h', fun q t w e ht => ?_⟩
  rcases xset_at e with ⟨h1, h2⟩ | ⟨h1, h2⟩
  · cases h2
    subst h1
    exact ⟨List.mem_cons_self, hc⟩
  · obtain ⟨h3, h4⟩ := xclr_at h2 ht
    obtain ⟨h5, h6⟩ := hh q t w h3 ht
    refine ⟨List.mem_cons_of_mem _ (List.mem_filter.mpr ⟨h5, ?_⟩), h6⟩
    have a1 : (q == i) = false := by simpa using h1
    by_cases hq : q + 1 = i
    · have a2 : (w.category == 2) = false := by
        rw [h6]; simpa using (fun h => h4 ⟨hq, h⟩)
      simp [a1, a2]
    · simp [a1, hq]
theorem xLo.st2 {LS' : Array Slot} {nL i : Nat} {ls : xL} {lv : List (Nat × Value)} {v : Value} (hlen : ls.length = nL) (hh : ∀ (i t : Nat) (v : Value), ls[i]? = some (t, v) → t ≠ 0 → (i, v) ∈ lv ∧ v.category = t) (hc : v.category = 2)
    (h' : lv_has LS' nL ((i, v) :: lv.filter (fun q => !(q.1 == i) && (!(q.1 == i + 1) && !(q.1 + 1 == i && q.2.category == 2))))) : xLo LS' nL (xst2 ls i v) := by
  refine ⟨by unfold xst2; rw [List.length_set, List.length_set, xclr_len, hlen], _, h', fun q t w e ht => ?_⟩
  rcases xset_at e with ⟨h1, h2⟩ | ⟨g1, g2⟩
  · cases h2
    exact absurd rfl ht
  rcases xset_at g2 with ⟨h1, h2⟩ | ⟨h1, h2⟩
  · cases h2
    subst h1
    exact ⟨List.mem_cons_self, hc⟩
  · obtain ⟨h3, h4⟩ := xclr_at h2 ht
    obtain ⟨h5, h6⟩ := hh q t w h3 ht
    refine ⟨List.mem_cons_of_mem _ (List.mem_filter.mpr ⟨h5, ?_⟩), h6⟩
    have a1 : (q == i) = false := by simpa using h1
    have a3 : (q == i + 1) = false := by simpa using g1
    by_cases hq : q + 1 = i
    · have a2 : (w.category == 2) = false := by
        rw [h6]; simpa using (fun h => h4 ⟨hq, h⟩)
      simp [a1, a2, a3]
    · simp [a1, a3, hq]
/-- the tables of a launch: classes and array classes by their numbers; words that a call does not keep by itself -/
def xK (dC : Nat → ClassId) (dI : Nat → Nat → Nat) (aC : Nat → ClassId) (U : State) : Prop :=
  va_K (dC, dI) x_cl [] U ∧ (∀ (t : Nat) (ty : FieldType), x_at[t]? = some ty → ArrOfT U (aC t) ty ∧ (t ≠ x_tS → va_RA U (aC t) ty)) ∧ (∀ C : String, Cond.arrayOver (.object C) ∈ x_O → va_AO C U) ∧ ∀ (a : String) (i : Nat) (y : MethodName) (q : String), Cond.methodLinkNest a i y q ∈ x_N → va_Nw (.methodLinkNest a i y q) U
theorem xK.warm {dC : Nat → ClassId} {dI : Nat → Nat → Nat} {aC : Nat → ClassId} {u U : State} (hW : u.WarmedH U.vm) (h : xK dC dI aC u) : xK dC dI aC U :=
  ⟨va_K.moved hW.alike h.1, fun t ty ht => ⟨arrOfT_moved hW.alike (h.2.1 t ty ht).1, fun hn => ((h.2.1 t ty ht).2 hn).moved hW.alike⟩, fun C hC => (h.2.2.1 C hC).moved hW.alike, fun a i y q hq => (h.2.2.2 a i y q hq).warmM hW⟩
theorem xK.same {dC : Nat → ClassId} {dI : Nat → Nat → Nat} {aC : Nat → ClassId} {u U : State} (hvm : u.vm = U.vm) (h : xK dC dI aC u) : xK dC dI aC U := by
  have hA : u.vm.Alike U.vm := by rw [← hvm]; exact Vm.Alike.refl u.vm
  exact ⟨va_K.moved hA h.1, fun t ty ht => ⟨arrOfT_moved hA (h.2.1 t ty ht).1, fun hn => ((h.2.1 t ty ht).2 hn).moved hA⟩, fun C hC => (h.2.2.1 C hC).moved hA, fun a i y q hq => (h.2.2.2 a i y q hq).same rfl hvm⟩
def xat (dC : Nat → ClassId) (dI : Nat → Nat → Nat) (aC : Nat → ClassId) (a : Nat) (e : xE) (H : Heap) : Prop := match e with
  | .inl (t, n, z) => if t = x_tS then (∃ scr : Cell, H[a]? = some scr ∧ (∀ k, scr.vm ≠ .statics k) ∧ scr.vm ≠ .unknown ∧ scr.cls = aC x_tS ∧ scr.slots.size = n ∧ ∀ j : Nat, j < n → scr.slots[j]? = some (z j)) else H[a]? = some (arrV (aC t) n z)
  | .inr o => va_at (dC, dI) x_cl (a, .inr o) H
theorem xat.arr {dC : Nat → ClassId} {dI : Nat → Nat → Nat} {aC : Nat → ClassId} {a t n : Nat} {z : Nat → Value} {H : Heap} (h : xat dC dI aC a (.inl (t, n, z)) H) (ht : t ≠ x_tS) : H[a]? = some (arrV (aC t) n z) := by
  unfold xat at h
  dsimp only at h
  rw [if_neg ht] at h
  exact h
theorem xat.of {dC : Nat → ClassId} {dI : Nat → Nat → Nat} {aC : Nat → ClassId} {a t n : Nat} {z : Nat → Value} {H : Heap} (ht : t ≠ x_tS) (h : H[a]? = some (arrV (aC t) n z)) : xat dC dI aC a (.inl (t, n, z)) H := by
  unfold xat
  dsimp only
  rw [if_neg ht]
  exact h
theorem xat.scr {dC : Nat → ClassId} {dI : Nat → Nat → Nat} {aC : Nat → ClassId} {a n : Nat} {z : Nat → Value} {H : Heap} (h : xat dC dI aC a (.inl (x_tS, n, z)) H) : ∃ scr : Cell, H[a]? = some scr ∧ (∀ k, scr.vm ≠ .statics k) ∧ scr.vm ≠ .unknown ∧ scr.cls = aC x_tS ∧ scr.slots.size = n ∧ ∀ j : Nat, j < n → scr.slots[j]? = some (z j) := by
  unfold xat at h
  dsimp only at h
  rw [if_pos rfl] at h
  exact h
theorem xat.kept {dC : Nat → ClassId} {dI : Nat → Nat → Nat} {aC : Nat → ClassId} {a : Nat} {e : xE} {H H1 : Heap} (h : xat dC dI aC a e H) (hq : H1[a]? = H[a]?) : xat dC dI aC a e H1 := by
  rcases e with ⟨t, n, z⟩ | o
  · by_cases ht : t = x_tS
    · subst ht
      unfold xat
      dsimp only
      rw [if_pos rfl, hq]
      exact h.scr
    · exact xat.of ht (hq.trans (h.arr ht))
  · exact va_at.kept (q := (a, .inr o)) h hq
theorem xat.lt {dC : Nat → ClassId} {dI : Nat → Nat → Nat} {aC : Nat → ClassId} {a : Nat} {e : xE} {H : Heap} (h : xat dC dI aC a e H) : a < H.size := by
  rcases e with ⟨t, n, z⟩ | o
  · by_cases ht : t = x_tS
    · subst ht
      obtain ⟨scr, h1, -⟩ := h.scr
      exact (Array.getElem?_eq_some_iff.mp h1).1
    · exact (Array.getElem?_eq_some_iff.mp (h.arr ht)).1
  · exact va_at.lt (q := (a, .inr o)) h
theorem xat.isA {dC : Nat → ClassId} {dI : Nat → Nat → Nat} {aC : Nat → ClassId} {a t n : Nat} {z : Nat → Value} {H : Heap} {U : State} {ty : FieldType} (h : xat dC dI aC a (.inl (t, n, z)) H) (hA : ArrOfT U (aC t) ty) : ∃ scr : Cell, H[a]? = some scr ∧ U.isArrayOf scr ty ∧ scr.vm ≠ .unknown ∧ scr.slots.size = n ∧ ∀ j : Nat, j < n → scr.slots[j]? = some (z j) := by
  by_cases ht : t = x_tS
  · subst ht
    obtain ⟨scr, h1, h2, h3, h4, h5, h6⟩ := h.scr
    refine ⟨scr, h1, ⟨h2, ?_⟩, h3, h5, h6⟩
    rw [h4]
    exact (hA n z).2
  · exact ⟨_, h.arr ht, hA n z, (fun q => by cases q), arrV_size _ _ _, fun j hj => arrV_read _ _ hj⟩
/-- what is written lies at or behind the base; the script alone (its type has a number of its own) may lie ahead -/
def xown (b a : Nat) (e : xE) : Prop := match e with
  | .inl (t, _, _) => t ≠ x_tS → b ≤ a
  | .inr _ => b ≤ a
theorem xown.of {b a : Nat} {e : xE} (h : b ≤ a) : xown b a e := by
  rcases e with ⟨t, n, z⟩ | o
  · exact fun _ => h
  · exact h
def xRep (dC : Nat → ClassId) (dI : Nat → Nat → Nat) (aC : Nat → ClassId) (h : xH) (H : Heap) : Prop :=
  H.size = h.2.2.1 ∧ ∀ (a : Nat) (e : xE), h.1 a = some e → xat dC dI aC a e H ∧ xown h.2.1 a e
theorem xRep.put {dC : Nat → ClassId} {dI : Nat → Nat → Nat} {aC : Nat → ClassId} {h : xH} {H H1 : Heap} {a : Nat} {e : xE} (r : xRep dC dI aC h H) (hz : H1.size = H.size) (ho : ∀ q : Nat, q ≠ a → H1[q]? = H[q]?) (ha : xat dC dI aC a e H1) (hw : xown h.2.1 a e) : xRep dC dI aC (xput h a e) H1 := by
  refine ⟨hz.trans r.1, fun q x hq => ?_⟩
  by_cases hqa : q = a
  · subst hqa
    have : va_up h.1 q (some e) q = some x := hq
    rw [va_up_self] at this
    cases this
    exact ⟨ha, hw⟩
  · have : va_up h.1 a (some e) q = some x := hq
    rw [va_up_ne _ _ hqa] at this
    exact ⟨(r.2 q x this).1.kept (ho q hqa), (r.2 q x this).2⟩
theorem xRep.mk {dC : Nat → ClassId} {dI : Nat → Nat → Nat} {aC : Nat → ClassId} {h : xH} {H H1 : Heap} {n : Nat} {e : xE} (r : xRep dC dI aC h H) (hz : H1.size = H.size + 1) (ho : ∀ q : Nat, q < H.size → H1[q]? = H[q]?) (ha : xat dC dI aC H.size e H1) (hw : h.2.1 ≤ H.size) : xRep dC dI aC (xmk h e n) H1 := by
  refine ⟨by rw [hz, r.1]; rfl, fun q x hq => ?_⟩
  by_cases hqa : q = h.2.2.1
  · subst hqa
    have : va_up h.1 h.2.2.1 (some e) h.2.2.1 = some x := hq
    rw [va_up_self] at this
    cases this
    rw [← r.1]
    exact ⟨ha, xown.of hw⟩
  · have : va_up h.1 h.2.2.1 (some e) q = some x := hq
    rw [va_up_ne _ _ hqa] at this
    exact ⟨(r.2 q x this).1.kept (ho q (r.2 q x this).1.lt), (r.2 q x this).2⟩
/-- what stands of a walk at a place: the heap, the locals, what may have been written, what has been made since the method's start -/
def xInv (dC : Nat → ClassId) (dI : Nat → Nat → Nat) (aC : Nat → ClassId) (b0 c0 s0 nL : Nat) (s : State) (h : xH) (ls : xL) (H : Heap) (LS : Array Slot) (locs : List Loc) (cells slots : Nat) : Prop :=
  xRep dC dI aC h H ∧ h.2.1 = b0 ∧ xLo LS nL ls ∧ (∀ q : Nat, q < b0 → H[q]? = s.heap[q]?) ∧ (∀ q ∈ locs, b0 ≤ q.base) ∧ cells + c0 = h.2.2.1 ∧ slots + s0 = h.2.2.2
theorem xInv.putL {dC : Nat → ClassId} {dI : Nat → Nat → Nat} {aC : Nat → ClassId} {b0 c0 s0 nL : Nat} {s : State} {h : xH} {ls : xL} {H H1 : Heap} {LS : Array Slot} {locs L : List Loc} {cells slots a : Nat} {e : xE} (I : xInv dC dI aC b0 c0 s0 nL s h ls H LS locs cells slots) (hb : h.2.1 ≤ a) (hL : ∀ q ∈ L, q.base = a)
    (hz : H1.size = H.size) (ho : ∀ q : Nat, q ≠ a → H1[q]? = H[q]?) (ha : xat dC dI aC a e H1) : xInv dC dI aC b0 c0 s0 nL s (xput h a e) ls H1 LS (locs ++ L) cells slots := by
  obtain ⟨i1, i2, i3, i4, i5, i6, i7⟩ := I
  refine ⟨i1.put hz ho ha (xown.of hb), i2, i3, fun q hq => ?_, fun q hq => ?_, i6, i7⟩
  · rw [ho q (by omega)]
    exact i4 q hq
  · rcases List.mem_append.mp hq with h1 | h1
    · exact i5 q h1
    · rw [hL q h1]
      omega
theorem xInv.put {dC : Nat → ClassId} {dI : Nat → Nat → Nat} {aC : Nat → ClassId} {b0 c0 s0 nL : Nat} {s : State} {h : xH} {ls : xL} {H H1 : Heap} {LS : Array Slot} {locs : List Loc} {cells slots a k : Nat} {e : xE} (I : xInv dC dI aC b0 c0 s0 nL s h ls H LS locs cells slots) (hb : h.2.1 ≤ a)
    (hz : H1.size = H.size) (ho : ∀ q : Nat, q ≠ a → H1[q]? = H[q]?) (ha : xat dC dI aC a e H1) : xInv dC dI aC b0 c0 s0 nL s (xput h a e) ls H1 LS (locs ++ [⟨a, k⟩]) cells slots := I.putL hb (fun q hq => by rw [List.mem_singleton.mp hq]) hz ho ha
theorem xInv.mk {dC : Nat → ClassId} {dI : Nat → Nat → Nat} {aC : Nat → ClassId} {b0 c0 s0 nL : Nat} {s : State} {h : xH} {ls : xL} {H H1 : Heap} {LS : Array Slot} {locs : List Loc} {cells slots n : Nat} {e : xE} (I : xInv dC dI aC b0 c0 s0 nL s h ls H LS locs cells slots) (hb : b0 ≤ c0)
    (hz : H1.size = H.size + 1) (ho : ∀ q : Nat, q < H.size → H1[q]? = H[q]?) (ha : xat dC dI aC H.size e H1) : xInv dC dI aC b0 c0 s0 nL s (xmk h e n) ls H1 LS locs (cells + 1) (slots + n) := by
  obtain ⟨i1, i2, i3, i4, i5, i6, i7⟩ := I
  have hz0 := i1.1
  refine ⟨i1.mk hz ho ha (by omega), i2, i3, fun q hq => ?_, i5, ?_, ?_⟩
  · rw [ho q (by omega)]
    exact i4 q hq
  · show cells + 1 + c0 = h.2.2.1 + 1
    omega
  · show slots + n + s0 = h.2.2.2 + n
    omega
