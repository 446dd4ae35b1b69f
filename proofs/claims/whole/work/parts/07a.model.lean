/-! THE REFERENCE'S MEMORY as typed functions: ints and longs of its object by the number of the field, its arrays by the number of the field that holds them. -/
abbrev mS : Type := (Nat → Int32) × (Nat → Int64) × (Nat → Nat → Int32) × (Nat → Nat → Int64)
def mI (S : mS) (k : Nat) (v : Int32) : mS := (va_up S.1 k v, S.2.1, S.2.2.1, S.2.2.2)
def mJ (S : mS) (k : Nat) (v : Int64) : mS := (S.1, va_up S.2.1 k v, S.2.2.1, S.2.2.2)
def mAI (S : mS) (k i : Nat) (v : Int32) : mS := (S.1, S.2.1, va_up S.2.2.1 k (va_up (S.2.2.1 k) i v), S.2.2.2)
def mAJ (S : mS) (k i : Nat) (v : Int64) : mS := (S.1, S.2.1, S.2.2.1, va_up S.2.2.2 k (va_up (S.2.2.2 k) i v))
def m_len (k : Nat) : Nat := ([8, 48, 48, 384, 384, 384, 0, 3, 180, 180, 1440, 11520, 64, 64, 44800, 700, 0, 0, 0, 0, 0, 0, 0, 0, 0, 0, 0, 0, 700, 0, 0, 0, 0, 0, 0, 0, 700, 700, 700, 700, 700, 700, 0, 700, 700, 700, 700, 700, 700, 0, 1400, 1400, 1400, 700, 700, 700, 0, 0, 0, 60, 0, 0, 0, 0, 180][k]?).getD 0
def m_tag (k : Nat) : Nat := ([0, 2, 0, 2, 0, 4, 0, 0, 2, 0, 0, 2, 4, 0, 0, 0, 0, 0, 0, 0, 0, 0, 0, 0, 0, 0, 0, 0, 0, 0, 0, 0, 0, 0, 0, 0, 4, 2, 0, 2, 0, 0, 0, 0, 2, 0, 0, 4, 0, 0, 0, 2, 0, 0, 2, 0, 0, 0, 0, 2, 0, 0, 0, 0, 0][k]?).getD 0
def m_rank (k : Nat) : Nat := ([0, 1, 2, 3, 4, 5, 0, 6, 7, 8, 9, 10, 11, 12, 13, 14, 0, 0, 0, 0, 0, 0, 0, 0, 0, 0, 0, 0, 15, 0, 0, 0, 0, 0, 0, 0, 16, 17, 18, 19, 20, 21, 0, 22, 23, 24, 25, 26, 27, 0, 28, 29, 30, 31, 32, 33, 0, 0, 0, 34, 0, 0, 0, 0, 35][k]?).getD 0
def m_un (r : Nat) : Nat := ([0, 1, 2, 3, 4, 5, 7, 8, 9, 10, 11, 12, 13, 14, 15, 28, 36, 37, 38, 39, 40, 41, 43, 44, 45, 46, 47, 48, 50, 51, 52, 53, 54, 55, 59, 64][r]?).getD 0
def m_isJ (k : Nat) : Bool := ([false, false, false, false, false, false, false, false, false, false, false, false, false, false, false, false, false, false, false, false, false, false, true, true, false, false, false, false, false, false, false, false, false, true, false, false, false, false, false, false, false, false, false, false, false, false, false, false, false, false, false, false, false, false, false, false, false, false, false, false, false, false, false, false, false][k]?).getD false
def m_na : Nat := 36
def mfl (M : Nat) (S : mS) (k : Nat) : Value := if m_len k = 0 then (if m_isJ k = true then .long (S.2.1 k) else .int (S.1 k)) else .ref (M + 1 + m_rank k)
def mfs (M : Nat) (S : mS) : List Value := (List.range 65).map (mfl M S)
def marr (S : mS) (k i : Nat) : Value := if m_tag k = 2 then .long (S.2.2.2 k i) else .int (S.2.2.1 k i)
def mcell (M : Nat) (S : mS) (a : Nat) : Option xE := if a = M then some (.inr (11, mfs M S)) else if M < a ∧ a < M + 1 + m_na then some (.inl (m_tag (m_un (a - M - 1)), m_len (m_un (a - M - 1)), marr S (m_un (a - M - 1)))) else none
/-- the heap h, with the reference's memory S from M on -/
def mh (h : xH) (M : Nat) (S : mS) : xH := (fun a => match mcell M S a with | some e => some e | none => h.1 a, h.2)
theorem mh_at (h : xH) (M : Nat) (S : mS) : (mh h M S).1 M = some (.inr (11, mfs M S)) := by
  simp [mh, mcell]
theorem mh_ar (h : xH) (M : Nat) (S : mS) {r : Nat} (hr : r < m_na) : (mh h M S).1 (M + 1 + r) = some (.inl (m_tag (m_un r), m_len (m_un r), marr S (m_un r))) := by
  have h1 : M + 1 + r ≠ M := by omega
  have h2 : M < M + 1 + r ∧ M + 1 + r < M + 1 + m_na := by omega
  have h3 : M + 1 + r - M - 1 = r := by omega
  simp only [mh, mcell]
  rw [if_neg h1, if_pos h2, h3]
theorem mh_out (h : xH) (M : Nat) (S : mS) {a : Nat} (ha : a < M ∨ M + 1 + m_na ≤ a) : (mh h M S).1 a = h.1 a := by
  simp only [mh, mcell]
  rw [if_neg (by omega), if_neg (by omega)]
theorem mfs_len (M : Nat) (S : mS) : (mfs M S).length = 65 := by simp [mfs]
theorem mfs_at (M : Nat) (S : mS) {k : Nat} (hk : k < 65) : (mfs M S)[k]? = some (mfl M S k) := by
  unfold mfs
  rw [List.getElem?_map, List.getElem?_range hk]
  rfl
theorem xput_cong {h g : xH} {a b : Nat} {e e1 : xE} (h0 : ∀ q, q ≠ a → h.1 q = g.1 q) (h1 : g.1 a = some e) (h2 : h.2 = g.2) : xput h a e = g := by
  unfold xput
  obtain ⟨g1, g2⟩ := g
  refine Prod.ext ?_ ?_
  · funext q
    by_cases hq : q = a
    · subst hq
      show va_up h.1 q (some e) q = g1 q
      rw [va_up_self]
      exact h1.symm
    · show va_up h.1 a (some e) q = g1 q
      rw [va_up_ne _ _ hq]
      exact h0 q hq
  · exact h2
theorem m_gf (h : xH) (M : Nat) (S : mS) {α : Type} {k : Nat} (hk : k < 65) (f : Value → Option α) : xgf (mh h M S) M 11 k f = f (mfl M S k) := by
  unfold xgf
  rw [mh_at]
  dsimp only
  rw [if_pos rfl, mfs_at M S hk]
theorem m_ob (h : xH) (M : Nat) (S : mS) {α : Type} (f : List Value → Option α) : xob (mh h M S) M 11 f = f (mfs M S) := by
  unfold xob
  rw [mh_at]
  dsimp only
  rw [if_pos rfl]
theorem m_is (h : xH) (M : Nat) (S : mS) {α : Type} (f : Option α) : xis (mh h M S) M 11 f = f := by
  unfold xis
  rw [mh_at]
  dsimp only
  rw [if_pos rfl]
theorem mfs_ext {M : Nat} {S : mS} {k : Nat} {v : Value} {S' : mS} (hk : k < 65) (h1 : mfl M S' k = v) (h2 : ∀ q, q < 65 → q ≠ k → mfl M S' q = mfl M S q) : (mfs M S).set k v = mfs M S' := by
  apply List.ext_getElem?
  intro q
  by_cases hq : q < 65
  · by_cases hqk : q = k
    · subst hqk
      rw [List.getElem?_set_self (by rw [mfs_len]; exact hk), mfs_at M S' hk, h1]
    · rw [List.getElem?_set_ne (Ne.symm hqk), mfs_at M S hq, mfs_at M S' hq, h2 q hq hqk]
  · rw [List.getElem?_eq_none (by rw [List.length_set, mfs_len]; omega), List.getElem?_eq_none (by rw [mfs_len]; omega)]
theorem mh_put {h : xH} {M : Nat} {S S' : mS} {k : Nat} {v : Value} (hk : k < 65) (h1 : mfl M S' k = v) (h2 : ∀ q, q < 65 → q ≠ k → mfl M S' q = mfl M S q) (h3 : ∀ q, marr S' q = marr S q) : xput (mh h M S) M (.inr (11, (mfs M S).set k v)) = mh h M S' := by
  rw [mfs_ext hk h1 h2]
  refine xput_cong (b := 0) (e1 := .inr (0, [])) (fun q hq => ?_) (mh_at h M S') rfl
  simp only [mh, mcell, hq, if_false, h3]
theorem m_putI (h : xH) (M : Nat) (S : mS) {k : Nat} (v : Int32) (hk : k < 65 ∧ m_len k = 0 ∧ m_isJ k = false) : xput (mh h M S) M (.inr (11, (mfs M S).set k (.int v))) = mh h M (mI S k v) := by
  refine mh_put hk.1 ?_ (fun q hq hn => ?_) (fun q => rfl)
  · simp [mfl, mI, hk.2.1, hk.2.2, va_up]
  · simp only [mfl, mI, va_up, hn, if_false]
theorem m_putJ (h : xH) (M : Nat) (S : mS) {k : Nat} (v : Int64) (hk : k < 65 ∧ m_len k = 0 ∧ m_isJ k = true) : xput (mh h M S) M (.inr (11, (mfs M S).set k (.long v))) = mh h M (mJ S k v) := by
  refine mh_put hk.1 ?_ (fun q hq hn => ?_) (fun q => rfl)
  · simp [mfl, mJ, hk.2.1, hk.2.2, va_up]
  · simp only [mfl, mJ, va_up, hn, if_false]
theorem mh_put_ar {h : xH} {M : Nat} {S S' : mS} {r : Nat} {z : Nat → Value} (hr : r < m_na) (hi : ∀ q, q < m_na → q ≠ r → m_un q ≠ m_un r) (h1 : marr S' (m_un r) = z) (h2 : ∀ q, q ≠ m_un r → marr S' q = marr S q) (h3 : ∀ q, mfl M S' q = mfl M S q) : xput (mh h M S) (M + 1 + r) (.inl (m_tag (m_un r), m_len (m_un r), z)) = mh h M S' := by
  refine xput_cong (b := 0) (e1 := .inr (0, [])) (fun q hq => ?_) (by rw [mh_ar h M S' hr, h1]) rfl
  have hf : mfs M S' = mfs M S := by
    unfold mfs
    apply List.map_congr_left
    intro q _
    exact h3 q
  simp only [mh, mcell, hf]
  by_cases hm : q = M
  · simp only [hm, if_true]
  · by_cases hb : M < q ∧ q < M + 1 + m_na
    · have hne : m_un (q - M - 1) ≠ m_un r := hi _ (by omega) (by omega)
      simp only [hm, hb, if_false, and_self, if_true, h2 _ hne]
    · simp only [hm, hb, if_false]
theorem m_un_inj : ∀ r, r < m_na → ∀ q, q < m_na → q ≠ r → m_un q ≠ m_un r := by decide +kernel
def bIn (i : Int32) (n : Nat) : Bool := decide (xIn i n)
theorem bIn_t {i : Int32} {n : Nat} (h : xIn i n) : bIn i n = true := decide_eq_true h
theorem bIn_f {i : Int32} {n : Nat} (h : ¬ xIn i n) : ¬ bIn i n = true := fun q => h (of_decide_eq_true q)
theorem m_rd {h : xH} {M : Nat} {S : mS} {α : Type} {r : Nat} (hr : r < m_na) (i : Int32) {t0 t1 : Nat} (ht : m_tag (m_un r) = t0 ∨ m_tag (m_un r) = t1) (f : Value → Option α) : xrd (mh h M S) (M + 1 + r) i t0 t1 f = if bIn i (m_len (m_un r)) = true then f (marr S (m_un r) i.toNatClampNeg) else none := by
  unfold xrd xar
  rw [mh_ar h M S hr]
  dsimp only
  by_cases hin : xIn i (m_len (m_un r))
  · rw [if_pos ⟨ht, hin⟩, if_pos (bIn_t hin)]
  · rw [if_neg (fun q => hin q.2), if_neg (bIn_f hin)]
theorem m_wr {h : xH} {M : Nat} {S S' : mS} {α : Type} {r : Nat} (hr : r < m_na) (i : Int32) {t0 : Nat} (ht : m_tag (m_un r) = t0) (v : Value) (f : xH → Option α) (hS : xput (mh h M S) (M + 1 + r) (.inl (t0, m_len (m_un r), updV (marr S (m_un r)) i.toNatClampNeg v)) = mh h M S') : xwr (mh h M S) (M + 1 + r) i t0 v f = if bIn i (m_len (m_un r)) = true then f (mh h M S') else none := by
  unfold xwr xar
  rw [mh_ar h M S hr]
  dsimp only
  by_cases hin : xIn i (m_len (m_un r))
  · rw [if_pos ⟨ht, hin⟩, if_pos (bIn_t hin), hS]
  · rw [if_neg (fun q => hin q.2), if_neg (bIn_f hin)]
theorem m_setAI {h : xH} {M : Nat} {S : mS} {r : Nat} (hr : r < m_na) (ht : m_tag (m_un r) ≠ 2) (i : Nat) (v : Int32) : xput (mh h M S) (M + 1 + r) (.inl (m_tag (m_un r), m_len (m_un r), updV (marr S (m_un r)) i (.int v))) = mh h M (mAI S (m_un r) i v) := by
  refine mh_put_ar hr (fun q h1 h2 => m_un_inj r hr q h1 h2) ?_ (fun q hq => ?_) (fun q => rfl)
  · funext q
    simp only [marr, mAI, updV, va_up, ht, if_false, if_true]
    by_cases hq : q = i <;> simp [hq]
  · funext k
    simp only [marr, mAI, va_up, hq, if_false]
theorem m_setAJ {h : xH} {M : Nat} {S : mS} {r : Nat} (hr : r < m_na) (ht : m_tag (m_un r) = 2) (i : Nat) (v : Int64) : xput (mh h M S) (M + 1 + r) (.inl (m_tag (m_un r), m_len (m_un r), updV (marr S (m_un r)) i (.long v))) = mh h M (mAJ S (m_un r) i v) := by
  refine mh_put_ar hr (fun q h1 h2 => m_un_inj r hr q h1 h2) ?_ (fun q hq => ?_) (fun q => rfl)
  · funext q
    simp only [marr, mAJ, updV, va_up, ht, if_true]
    by_cases hq : q = i <;> simp [hq]
  · funext k
    simp only [marr, mAJ, va_up, hq, if_false]
theorem narrow_b (v : Int32) : narrow .boolean (.int v) = .int (v &&& 1) := rfl
theorem m_wb {h : xH} {M : Nat} {S : mS} {α : Type} {r : Nat} (hr : r < m_na) (i x : Int32) (ht : m_tag (m_un r) = 4) {y : Int32} (hy : narrow .boolean (.int x) = .int y) (f : xH → Option α) : xwb (mh h M S) (M + 1 + r) i x f = if bIn i (m_len (m_un r)) = true then f (mh h M (mAI S (m_un r) i.toNatClampNeg y)) else none := by
  unfold xwb xar
  rw [mh_ar h M S hr]
  dsimp only
  have h4 := m_setAI (h := h) (M := M) (S := S) hr (by rw [ht]; decide) i.toNatClampNeg y
  rw [ht] at h4
  rw [ht]
  by_cases hin : xIn i (m_len (m_un r))
  · rw [if_pos ⟨Or.inr rfl, hin⟩, if_pos (bIn_t hin), if_neg (by decide), hy, h4]
  · rw [if_neg (fun q => hin q.2), if_neg (bIn_f hin)]
theorem gm_0 (h : xH) (M : Nat) (S : mS) {α : Type} (f : Value → Option α) : xgf (mh h M S) M 11 0 f = f (.ref (M + 1 + 0)) := m_gf h M S (by decide) f
theorem rm_0 (h : xH) (M : Nat) (S : mS) {α : Type} (i : Int32) (f : Value → Option α) : xrd (mh h M S) (M + 1 + 0) i 0 1 f = if bIn i 8 = true then f (.int (S.2.2.1 0 i.toNatClampNeg)) else none := m_rd (r := 0) (by decide) i (Or.inl rfl) f
theorem wm_0 (h : xH) (M : Nat) (S : mS) {α : Type} (i : Int32) (v : Int32) (f : xH → Option α) : xwr (mh h M S) (M + 1 + 0) i 0 (.int v) f = if bIn i 8 = true then f (mh h M (mAI S 0 i.toNatClampNeg v)) else none := m_wr (r := 0) (by decide) i rfl (.int v) f (m_setAI (r := 0) (by decide) (by decide) _ v)
theorem gm_1 (h : xH) (M : Nat) (S : mS) {α : Type} (f : Value → Option α) : xgf (mh h M S) M 11 1 f = f (.ref (M + 1 + 1)) := m_gf h M S (by decide) f
theorem rm_1 (h : xH) (M : Nat) (S : mS) {α : Type} (i : Int32) (f : Value → Option α) : xrd (mh h M S) (M + 1 + 1) i 2 2 f = if bIn i 48 = true then f (.long (S.2.2.2 1 i.toNatClampNeg)) else none := m_rd (r := 1) (by decide) i (Or.inl rfl) f
theorem wm_1 (h : xH) (M : Nat) (S : mS) {α : Type} (i : Int32) (v : Int64) (f : xH → Option α) : xwr (mh h M S) (M + 1 + 1) i 2 (.long v) f = if bIn i 48 = true then f (mh h M (mAJ S 1 i.toNatClampNeg v)) else none := m_wr (r := 1) (by decide) i rfl (.long v) f (m_setAJ (r := 1) (by decide) rfl _ v)
theorem gm_2 (h : xH) (M : Nat) (S : mS) {α : Type} (f : Value → Option α) : xgf (mh h M S) M 11 2 f = f (.ref (M + 1 + 2)) := m_gf h M S (by decide) f
theorem rm_2 (h : xH) (M : Nat) (S : mS) {α : Type} (i : Int32) (f : Value → Option α) : xrd (mh h M S) (M + 1 + 2) i 0 1 f = if bIn i 48 = true then f (.int (S.2.2.1 2 i.toNatClampNeg)) else none := m_rd (r := 2) (by decide) i (Or.inl rfl) f
theorem wm_2 (h : xH) (M : Nat) (S : mS) {α : Type} (i : Int32) (v : Int32) (f : xH → Option α) : xwr (mh h M S) (M + 1 + 2) i 0 (.int v) f = if bIn i 48 = true then f (mh h M (mAI S 2 i.toNatClampNeg v)) else none := m_wr (r := 2) (by decide) i rfl (.int v) f (m_setAI (r := 2) (by decide) (by decide) _ v)
theorem gm_3 (h : xH) (M : Nat) (S : mS) {α : Type} (f : Value → Option α) : xgf (mh h M S) M 11 3 f = f (.ref (M + 1 + 3)) := m_gf h M S (by decide) f
theorem rm_3 (h : xH) (M : Nat) (S : mS) {α : Type} (i : Int32) (f : Value → Option α) : xrd (mh h M S) (M + 1 + 3) i 2 2 f = if bIn i 384 = true then f (.long (S.2.2.2 3 i.toNatClampNeg)) else none := m_rd (r := 3) (by decide) i (Or.inl rfl) f
theorem wm_3 (h : xH) (M : Nat) (S : mS) {α : Type} (i : Int32) (v : Int64) (f : xH → Option α) : xwr (mh h M S) (M + 1 + 3) i 2 (.long v) f = if bIn i 384 = true then f (mh h M (mAJ S 3 i.toNatClampNeg v)) else none := m_wr (r := 3) (by decide) i rfl (.long v) f (m_setAJ (r := 3) (by decide) rfl _ v)
theorem gm_4 (h : xH) (M : Nat) (S : mS) {α : Type} (f : Value → Option α) : xgf (mh h M S) M 11 4 f = f (.ref (M + 1 + 4)) := m_gf h M S (by decide) f
theorem rm_4 (h : xH) (M : Nat) (S : mS) {α : Type} (i : Int32) (f : Value → Option α) : xrd (mh h M S) (M + 1 + 4) i 0 1 f = if bIn i 384 = true then f (.int (S.2.2.1 4 i.toNatClampNeg)) else none := m_rd (r := 4) (by decide) i (Or.inl rfl) f
theorem wm_4 (h : xH) (M : Nat) (S : mS) {α : Type} (i : Int32) (v : Int32) (f : xH → Option α) : xwr (mh h M S) (M + 1 + 4) i 0 (.int v) f = if bIn i 384 = true then f (mh h M (mAI S 4 i.toNatClampNeg v)) else none := m_wr (r := 4) (by decide) i rfl (.int v) f (m_setAI (r := 4) (by decide) (by decide) _ v)
theorem gm_5 (h : xH) (M : Nat) (S : mS) {α : Type} (f : Value → Option α) : xgf (mh h M S) M 11 5 f = f (.ref (M + 1 + 5)) := m_gf h M S (by decide) f
theorem rm_5 (h : xH) (M : Nat) (S : mS) {α : Type} (i : Int32) (f : Value → Option α) : xrd (mh h M S) (M + 1 + 5) i 3 4 f = if bIn i 384 = true then f (.int (S.2.2.1 5 i.toNatClampNeg)) else none := m_rd (r := 5) (by decide) i (Or.inr rfl) f
theorem wm_5 (h : xH) (M : Nat) (S : mS) {α : Type} (i : Int32) (v : Int32) (f : xH → Option α) : xwb (mh h M S) (M + 1 + 5) i v f = if bIn i 384 = true then f (mh h M (mAI S 5 i.toNatClampNeg (v &&& 1))) else none := m_wb (r := 5) (by decide) i v rfl (narrow_b v) f
theorem gm_6 (h : xH) (M : Nat) (S : mS) {α : Type} (f : Value → Option α) : xgf (mh h M S) M 11 6 f = f (.int (S.1 6)) := m_gf h M S (by decide) f
theorem pm_6 (h : xH) (M : Nat) (S : mS) (v : Int32) : xput (mh h M S) M (.inr (11, (mfs M S).set 6 (.int v))) = mh h M (mI S 6 v) := m_putI h M S v (by decide)
theorem gm_7 (h : xH) (M : Nat) (S : mS) {α : Type} (f : Value → Option α) : xgf (mh h M S) M 11 7 f = f (.ref (M + 1 + 6)) := m_gf h M S (by decide) f
theorem rm_7 (h : xH) (M : Nat) (S : mS) {α : Type} (i : Int32) (f : Value → Option α) : xrd (mh h M S) (M + 1 + 6) i 0 1 f = if bIn i 3 = true then f (.int (S.2.2.1 7 i.toNatClampNeg)) else none := m_rd (r := 6) (by decide) i (Or.inl rfl) f
theorem wm_7 (h : xH) (M : Nat) (S : mS) {α : Type} (i : Int32) (v : Int32) (f : xH → Option α) : xwr (mh h M S) (M + 1 + 6) i 0 (.int v) f = if bIn i 3 = true then f (mh h M (mAI S 7 i.toNatClampNeg v)) else none := m_wr (r := 6) (by decide) i rfl (.int v) f (m_setAI (r := 6) (by decide) (by decide) _ v)
theorem gm_8 (h : xH) (M : Nat) (S : mS) {α : Type} (f : Value → Option α) : xgf (mh h M S) M 11 8 f = f (.ref (M + 1 + 7)) := m_gf h M S (by decide) f
theorem rm_8 (h : xH) (M : Nat) (S : mS) {α : Type} (i : Int32) (f : Value → Option α) : xrd (mh h M S) (M + 1 + 7) i 2 2 f = if bIn i 180 = true then f (.long (S.2.2.2 8 i.toNatClampNeg)) else none := m_rd (r := 7) (by decide) i (Or.inl rfl) f
theorem wm_8 (h : xH) (M : Nat) (S : mS) {α : Type} (i : Int32) (v : Int64) (f : xH → Option α) : xwr (mh h M S) (M + 1 + 7) i 2 (.long v) f = if bIn i 180 = true then f (mh h M (mAJ S 8 i.toNatClampNeg v)) else none := m_wr (r := 7) (by decide) i rfl (.long v) f (m_setAJ (r := 7) (by decide) rfl _ v)
theorem gm_9 (h : xH) (M : Nat) (S : mS) {α : Type} (f : Value → Option α) : xgf (mh h M S) M 11 9 f = f (.ref (M + 1 + 8)) := m_gf h M S (by decide) f
theorem rm_9 (h : xH) (M : Nat) (S : mS) {α : Type} (i : Int32) (f : Value → Option α) : xrd (mh h M S) (M + 1 + 8) i 0 1 f = if bIn i 180 = true then f (.int (S.2.2.1 9 i.toNatClampNeg)) else none := m_rd (r := 8) (by decide) i (Or.inl rfl) f
theorem wm_9 (h : xH) (M : Nat) (S : mS) {α : Type} (i : Int32) (v : Int32) (f : xH → Option α) : xwr (mh h M S) (M + 1 + 8) i 0 (.int v) f = if bIn i 180 = true then f (mh h M (mAI S 9 i.toNatClampNeg v)) else none := m_wr (r := 8) (by decide) i rfl (.int v) f (m_setAI (r := 8) (by decide) (by decide) _ v)
theorem gm_10 (h : xH) (M : Nat) (S : mS) {α : Type} (f : Value → Option α) : xgf (mh h M S) M 11 10 f = f (.ref (M + 1 + 9)) := m_gf h M S (by decide) f
theorem rm_10 (h : xH) (M : Nat) (S : mS) {α : Type} (i : Int32) (f : Value → Option α) : xrd (mh h M S) (M + 1 + 9) i 0 1 f = if bIn i 1440 = true then f (.int (S.2.2.1 10 i.toNatClampNeg)) else none := m_rd (r := 9) (by decide) i (Or.inl rfl) f
theorem wm_10 (h : xH) (M : Nat) (S : mS) {α : Type} (i : Int32) (v : Int32) (f : xH → Option α) : xwr (mh h M S) (M + 1 + 9) i 0 (.int v) f = if bIn i 1440 = true then f (mh h M (mAI S 10 i.toNatClampNeg v)) else none := m_wr (r := 9) (by decide) i rfl (.int v) f (m_setAI (r := 9) (by decide) (by decide) _ v)
theorem gm_11 (h : xH) (M : Nat) (S : mS) {α : Type} (f : Value → Option α) : xgf (mh h M S) M 11 11 f = f (.ref (M + 1 + 10)) := m_gf h M S (by decide) f
theorem rm_11 (h : xH) (M : Nat) (S : mS) {α : Type} (i : Int32) (f : Value → Option α) : xrd (mh h M S) (M + 1 + 10) i 2 2 f = if bIn i 11520 = true then f (.long (S.2.2.2 11 i.toNatClampNeg)) else none := m_rd (r := 10) (by decide) i (Or.inl rfl) f
theorem wm_11 (h : xH) (M : Nat) (S : mS) {α : Type} (i : Int32) (v : Int64) (f : xH → Option α) : xwr (mh h M S) (M + 1 + 10) i 2 (.long v) f = if bIn i 11520 = true then f (mh h M (mAJ S 11 i.toNatClampNeg v)) else none := m_wr (r := 10) (by decide) i rfl (.long v) f (m_setAJ (r := 10) (by decide) rfl _ v)
theorem gm_12 (h : xH) (M : Nat) (S : mS) {α : Type} (f : Value → Option α) : xgf (mh h M S) M 11 12 f = f (.ref (M + 1 + 11)) := m_gf h M S (by decide) f
theorem rm_12 (h : xH) (M : Nat) (S : mS) {α : Type} (i : Int32) (f : Value → Option α) : xrd (mh h M S) (M + 1 + 11) i 3 4 f = if bIn i 64 = true then f (.int (S.2.2.1 12 i.toNatClampNeg)) else none := m_rd (r := 11) (by decide) i (Or.inr rfl) f
theorem wm_12 (h : xH) (M : Nat) (S : mS) {α : Type} (i : Int32) (v : Int32) (f : xH → Option α) : xwb (mh h M S) (M + 1 + 11) i v f = if bIn i 64 = true then f (mh h M (mAI S 12 i.toNatClampNeg (v &&& 1))) else none := m_wb (r := 11) (by decide) i v rfl (narrow_b v) f
theorem gm_13 (h : xH) (M : Nat) (S : mS) {α : Type} (f : Value → Option α) : xgf (mh h M S) M 11 13 f = f (.ref (M + 1 + 12)) := m_gf h M S (by decide) f
theorem rm_13 (h : xH) (M : Nat) (S : mS) {α : Type} (i : Int32) (f : Value → Option α) : xrd (mh h M S) (M + 1 + 12) i 0 1 f = if bIn i 64 = true then f (.int (S.2.2.1 13 i.toNatClampNeg)) else none := m_rd (r := 12) (by decide) i (Or.inl rfl) f
theorem wm_13 (h : xH) (M : Nat) (S : mS) {α : Type} (i : Int32) (v : Int32) (f : xH → Option α) : xwr (mh h M S) (M + 1 + 12) i 0 (.int v) f = if bIn i 64 = true then f (mh h M (mAI S 13 i.toNatClampNeg v)) else none := m_wr (r := 12) (by decide) i rfl (.int v) f (m_setAI (r := 12) (by decide) (by decide) _ v)
theorem gm_14 (h : xH) (M : Nat) (S : mS) {α : Type} (f : Value → Option α) : xgf (mh h M S) M 11 14 f = f (.ref (M + 1 + 13)) := m_gf h M S (by decide) f
theorem rm_14 (h : xH) (M : Nat) (S : mS) {α : Type} (i : Int32) (f : Value → Option α) : xrd (mh h M S) (M + 1 + 13) i 0 1 f = if bIn i 44800 = true then f (.int (S.2.2.1 14 i.toNatClampNeg)) else none := m_rd (r := 13) (by decide) i (Or.inl rfl) f
theorem wm_14 (h : xH) (M : Nat) (S : mS) {α : Type} (i : Int32) (v : Int32) (f : xH → Option α) : xwr (mh h M S) (M + 1 + 13) i 0 (.int v) f = if bIn i 44800 = true then f (mh h M (mAI S 14 i.toNatClampNeg v)) else none := m_wr (r := 13) (by decide) i rfl (.int v) f (m_setAI (r := 13) (by decide) (by decide) _ v)
theorem gm_15 (h : xH) (M : Nat) (S : mS) {α : Type} (f : Value → Option α) : xgf (mh h M S) M 11 15 f = f (.ref (M + 1 + 14)) := m_gf h M S (by decide) f
theorem rm_15 (h : xH) (M : Nat) (S : mS) {α : Type} (i : Int32) (f : Value → Option α) : xrd (mh h M S) (M + 1 + 14) i 0 1 f = if bIn i 700 = true then f (.int (S.2.2.1 15 i.toNatClampNeg)) else none := m_rd (r := 14) (by decide) i (Or.inl rfl) f
theorem wm_15 (h : xH) (M : Nat) (S : mS) {α : Type} (i : Int32) (v : Int32) (f : xH → Option α) : xwr (mh h M S) (M + 1 + 14) i 0 (.int v) f = if bIn i 700 = true then f (mh h M (mAI S 15 i.toNatClampNeg v)) else none := m_wr (r := 14) (by decide) i rfl (.int v) f (m_setAI (r := 14) (by decide) (by decide) _ v)
theorem gm_16 (h : xH) (M : Nat) (S : mS) {α : Type} (f : Value → Option α) : xgf (mh h M S) M 11 16 f = f (.int (S.1 16)) := m_gf h M S (by decide) f
theorem pm_16 (h : xH) (M : Nat) (S : mS) (v : Int32) : xput (mh h M S) M (.inr (11, (mfs M S).set 16 (.int v))) = mh h M (mI S 16 v) := m_putI h M S v (by decide)
theorem gm_17 (h : xH) (M : Nat) (S : mS) {α : Type} (f : Value → Option α) : xgf (mh h M S) M 11 17 f = f (.int (S.1 17)) := m_gf h M S (by decide) f
theorem pm_17 (h : xH) (M : Nat) (S : mS) (v : Int32) : xput (mh h M S) M (.inr (11, (mfs M S).set 17 (.int v))) = mh h M (mI S 17 v) := m_putI h M S v (by decide)
theorem gm_18 (h : xH) (M : Nat) (S : mS) {α : Type} (f : Value → Option α) : xgf (mh h M S) M 11 18 f = f (.int (S.1 18)) := m_gf h M S (by decide) f
theorem pm_18 (h : xH) (M : Nat) (S : mS) (v : Int32) : xput (mh h M S) M (.inr (11, (mfs M S).set 18 (.int v))) = mh h M (mI S 18 v) := m_putI h M S v (by decide)
theorem gm_19 (h : xH) (M : Nat) (S : mS) {α : Type} (f : Value → Option α) : xgf (mh h M S) M 11 19 f = f (.int (S.1 19)) := m_gf h M S (by decide) f
theorem pm_19 (h : xH) (M : Nat) (S : mS) (v : Int32) : xput (mh h M S) M (.inr (11, (mfs M S).set 19 (.int v))) = mh h M (mI S 19 v) := m_putI h M S v (by decide)
theorem gm_20 (h : xH) (M : Nat) (S : mS) {α : Type} (f : Value → Option α) : xgf (mh h M S) M 11 20 f = f (.int (S.1 20)) := m_gf h M S (by decide) f
theorem pm_20 (h : xH) (M : Nat) (S : mS) (v : Int32) : xput (mh h M S) M (.inr (11, (mfs M S).set 20 (.int v))) = mh h M (mI S 20 v) := m_putI h M S v (by decide)
theorem gm_21 (h : xH) (M : Nat) (S : mS) {α : Type} (f : Value → Option α) : xgf (mh h M S) M 11 21 f = f (.int (S.1 21)) := m_gf h M S (by decide) f
theorem pm_21 (h : xH) (M : Nat) (S : mS) (v : Int32) : xput (mh h M S) M (.inr (11, (mfs M S).set 21 (.int v))) = mh h M (mI S 21 v) := m_putI h M S v (by decide)
theorem gm_22 (h : xH) (M : Nat) (S : mS) {α : Type} (f : Value → Option α) : xgf (mh h M S) M 11 22 f = f (.long (S.2.1 22)) := m_gf h M S (by decide) f
theorem pm_22 (h : xH) (M : Nat) (S : mS) (v : Int64) : xput (mh h M S) M (.inr (11, (mfs M S).set 22 (.long v))) = mh h M (mJ S 22 v) := m_putJ h M S v (by decide)
theorem gm_23 (h : xH) (M : Nat) (S : mS) {α : Type} (f : Value → Option α) : xgf (mh h M S) M 11 23 f = f (.long (S.2.1 23)) := m_gf h M S (by decide) f
theorem pm_23 (h : xH) (M : Nat) (S : mS) (v : Int64) : xput (mh h M S) M (.inr (11, (mfs M S).set 23 (.long v))) = mh h M (mJ S 23 v) := m_putJ h M S v (by decide)
theorem gm_24 (h : xH) (M : Nat) (S : mS) {α : Type} (f : Value → Option α) : xgf (mh h M S) M 11 24 f = f (.int (S.1 24)) := m_gf h M S (by decide) f
theorem pm_24 (h : xH) (M : Nat) (S : mS) (v : Int32) : xput (mh h M S) M (.inr (11, (mfs M S).set 24 (.int v))) = mh h M (mI S 24 v) := m_putI h M S v (by decide)
theorem gm_25 (h : xH) (M : Nat) (S : mS) {α : Type} (f : Value → Option α) : xgf (mh h M S) M 11 25 f = f (.int (S.1 25)) := m_gf h M S (by decide) f
theorem pm_25 (h : xH) (M : Nat) (S : mS) (v : Int32) : xput (mh h M S) M (.inr (11, (mfs M S).set 25 (.int v))) = mh h M (mI S 25 v) := m_putI h M S v (by decide)
theorem gm_26 (h : xH) (M : Nat) (S : mS) {α : Type} (f : Value → Option α) : xgf (mh h M S) M 11 26 f = f (.int (S.1 26)) := m_gf h M S (by decide) f
theorem pm_26 (h : xH) (M : Nat) (S : mS) (v : Int32) : xput (mh h M S) M (.inr (11, (mfs M S).set 26 (.int v))) = mh h M (mI S 26 v) := m_putI h M S v (by decide)
theorem gm_27 (h : xH) (M : Nat) (S : mS) {α : Type} (f : Value → Option α) : xgf (mh h M S) M 11 27 f = f (.int (S.1 27)) := m_gf h M S (by decide) f
theorem pm_27 (h : xH) (M : Nat) (S : mS) (v : Int32) : xput (mh h M S) M (.inr (11, (mfs M S).set 27 (.int v))) = mh h M (mI S 27 v) := m_putI h M S v (by decide)
theorem gm_28 (h : xH) (M : Nat) (S : mS) {α : Type} (f : Value → Option α) : xgf (mh h M S) M 11 28 f = f (.ref (M + 1 + 15)) := m_gf h M S (by decide) f
theorem rm_28 (h : xH) (M : Nat) (S : mS) {α : Type} (i : Int32) (f : Value → Option α) : xrd (mh h M S) (M + 1 + 15) i 0 1 f = if bIn i 700 = true then f (.int (S.2.2.1 28 i.toNatClampNeg)) else none := m_rd (r := 15) (by decide) i (Or.inl rfl) f
theorem wm_28 (h : xH) (M : Nat) (S : mS) {α : Type} (i : Int32) (v : Int32) (f : xH → Option α) : xwr (mh h M S) (M + 1 + 15) i 0 (.int v) f = if bIn i 700 = true then f (mh h M (mAI S 28 i.toNatClampNeg v)) else none := m_wr (r := 15) (by decide) i rfl (.int v) f (m_setAI (r := 15) (by decide) (by decide) _ v)
theorem gm_29 (h : xH) (M : Nat) (S : mS) {α : Type} (f : Value → Option α) : xgf (mh h M S) M 11 29 f = f (.int (S.1 29)) := m_gf h M S (by decide) f
theorem pm_29 (h : xH) (M : Nat) (S : mS) (v : Int32) : xput (mh h M S) M (.inr (11, (mfs M S).set 29 (.int v))) = mh h M (mI S 29 v) := m_putI h M S v (by decide)
theorem gm_30 (h : xH) (M : Nat) (S : mS) {α : Type} (f : Value → Option α) : xgf (mh h M S) M 11 30 f = f (.int (S.1 30)) := m_gf h M S (by decide) f
theorem pm_30 (h : xH) (M : Nat) (S : mS) (v : Int32) : xput (mh h M S) M (.inr (11, (mfs M S).set 30 (.int v))) = mh h M (mI S 30 v) := m_putI h M S v (by decide)
theorem gm_31 (h : xH) (M : Nat) (S : mS) {α : Type} (f : Value → Option α) : xgf (mh h M S) M 11 31 f = f (.int (S.1 31)) := m_gf h M S (by decide) f
theorem pm_31 (h : xH) (M : Nat) (S : mS) (v : Int32) : xput (mh h M S) M (.inr (11, (mfs M S).set 31 (.int v))) = mh h M (mI S 31 v) := m_putI h M S v (by decide)
theorem gm_32 (h : xH) (M : Nat) (S : mS) {α : Type} (f : Value → Option α) : xgf (mh h M S) M 11 32 f = f (.int (S.1 32)) := m_gf h M S (by decide) f
theorem pm_32 (h : xH) (M : Nat) (S : mS) (v : Int32) : xput (mh h M S) M (.inr (11, (mfs M S).set 32 (.int v))) = mh h M (mI S 32 v) := m_putI h M S v (by decide)
theorem gm_33 (h : xH) (M : Nat) (S : mS) {α : Type} (f : Value → Option α) : xgf (mh h M S) M 11 33 f = f (.long (S.2.1 33)) := m_gf h M S (by decide) f
theorem pm_33 (h : xH) (M : Nat) (S : mS) (v : Int64) : xput (mh h M S) M (.inr (11, (mfs M S).set 33 (.long v))) = mh h M (mJ S 33 v) := m_putJ h M S v (by decide)
theorem gm_34 (h : xH) (M : Nat) (S : mS) {α : Type} (f : Value → Option α) : xgf (mh h M S) M 11 34 f = f (.int (S.1 34)) := m_gf h M S (by decide) f
theorem pm_34 (h : xH) (M : Nat) (S : mS) (v : Int32) : xput (mh h M S) M (.inr (11, (mfs M S).set 34 (.int v))) = mh h M (mI S 34 v) := m_putI h M S v (by decide)
theorem gm_35 (h : xH) (M : Nat) (S : mS) {α : Type} (f : Value → Option α) : xgf (mh h M S) M 11 35 f = f (.int (S.1 35)) := m_gf h M S (by decide) f
theorem pm_35 (h : xH) (M : Nat) (S : mS) (v : Int32) : xput (mh h M S) M (.inr (11, (mfs M S).set 35 (.int v))) = mh h M (mI S 35 v) := m_putI h M S v (by decide)
theorem gm_36 (h : xH) (M : Nat) (S : mS) {α : Type} (f : Value → Option α) : xgf (mh h M S) M 11 36 f = f (.ref (M + 1 + 16)) := m_gf h M S (by decide) f
theorem rm_36 (h : xH) (M : Nat) (S : mS) {α : Type} (i : Int32) (f : Value → Option α) : xrd (mh h M S) (M + 1 + 16) i 3 4 f = if bIn i 700 = true then f (.int (S.2.2.1 36 i.toNatClampNeg)) else none := m_rd (r := 16) (by decide) i (Or.inr rfl) f
theorem wm_36 (h : xH) (M : Nat) (S : mS) {α : Type} (i : Int32) (v : Int32) (f : xH → Option α) : xwb (mh h M S) (M + 1 + 16) i v f = if bIn i 700 = true then f (mh h M (mAI S 36 i.toNatClampNeg (v &&& 1))) else none := m_wb (r := 16) (by decide) i v rfl (narrow_b v) f
theorem gm_37 (h : xH) (M : Nat) (S : mS) {α : Type} (f : Value → Option α) : xgf (mh h M S) M 11 37 f = f (.ref (M + 1 + 17)) := m_gf h M S (by decide) f
theorem rm_37 (h : xH) (M : Nat) (S : mS) {α : Type} (i : Int32) (f : Value → Option α) : xrd (mh h M S) (M + 1 + 17) i 2 2 f = if bIn i 700 = true then f (.long (S.2.2.2 37 i.toNatClampNeg)) else none := m_rd (r := 17) (by decide) i (Or.inl rfl) f
theorem wm_37 (h : xH) (M : Nat) (S : mS) {α : Type} (i : Int32) (v : Int64) (f : xH → Option α) : xwr (mh h M S) (M + 1 + 17) i 2 (.long v) f = if bIn i 700 = true then f (mh h M (mAJ S 37 i.toNatClampNeg v)) else none := m_wr (r := 17) (by decide) i rfl (.long v) f (m_setAJ (r := 17) (by decide) rfl _ v)
theorem gm_38 (h : xH) (M : Nat) (S : mS) {α : Type} (f : Value → Option α) : xgf (mh h M S) M 11 38 f = f (.ref (M + 1 + 18)) := m_gf h M S (by decide) f
theorem rm_38 (h : xH) (M : Nat) (S : mS) {α : Type} (i : Int32) (f : Value → Option α) : xrd (mh h M S) (M + 1 + 18) i 0 1 f = if bIn i 700 = true then f (.int (S.2.2.1 38 i.toNatClampNeg)) else none := m_rd (r := 18) (by decide) i (Or.inl rfl) f
theorem wm_38 (h : xH) (M : Nat) (S : mS) {α : Type} (i : Int32) (v : Int32) (f : xH → Option α) : xwr (mh h M S) (M + 1 + 18) i 0 (.int v) f = if bIn i 700 = true then f (mh h M (mAI S 38 i.toNatClampNeg v)) else none := m_wr (r := 18) (by decide) i rfl (.int v) f (m_setAI (r := 18) (by decide) (by decide) _ v)
theorem gm_39 (h : xH) (M : Nat) (S : mS) {α : Type} (f : Value → Option α) : xgf (mh h M S) M 11 39 f = f (.ref (M + 1 + 19)) := m_gf h M S (by decide) f
theorem rm_39 (h : xH) (M : Nat) (S : mS) {α : Type} (i : Int32) (f : Value → Option α) : xrd (mh h M S) (M + 1 + 19) i 2 2 f = if bIn i 700 = true then f (.long (S.2.2.2 39 i.toNatClampNeg)) else none := m_rd (r := 19) (by decide) i (Or.inl rfl) f
theorem wm_39 (h : xH) (M : Nat) (S : mS) {α : Type} (i : Int32) (v : Int64) (f : xH → Option α) : xwr (mh h M S) (M + 1 + 19) i 2 (.long v) f = if bIn i 700 = true then f (mh h M (mAJ S 39 i.toNatClampNeg v)) else none := m_wr (r := 19) (by decide) i rfl (.long v) f (m_setAJ (r := 19) (by decide) rfl _ v)
theorem gm_40 (h : xH) (M : Nat) (S : mS) {α : Type} (f : Value → Option α) : xgf (mh h M S) M 11 40 f = f (.ref (M + 1 + 20)) := m_gf h M S (by decide) f
theorem rm_40 (h : xH) (M : Nat) (S : mS) {α : Type} (i : Int32) (f : Value → Option α) : xrd (mh h M S) (M + 1 + 20) i 0 1 f = if bIn i 700 = true then f (.int (S.2.2.1 40 i.toNatClampNeg)) else none := m_rd (r := 20) (by decide) i (Or.inl rfl) f
theorem wm_40 (h : xH) (M : Nat) (S : mS) {α : Type} (i : Int32) (v : Int32) (f : xH → Option α) : xwr (mh h M S) (M + 1 + 20) i 0 (.int v) f = if bIn i 700 = true then f (mh h M (mAI S 40 i.toNatClampNeg v)) else none := m_wr (r := 20) (by decide) i rfl (.int v) f (m_setAI (r := 20) (by decide) (by decide) _ v)
theorem gm_41 (h : xH) (M : Nat) (S : mS) {α : Type} (f : Value → Option α) : xgf (mh h M S) M 11 41 f = f (.ref (M + 1 + 21)) := m_gf h M S (by decide) f
theorem rm_41 (h : xH) (M : Nat) (S : mS) {α : Type} (i : Int32) (f : Value → Option α) : xrd (mh h M S) (M + 1 + 21) i 0 1 f = if bIn i 700 = true then f (.int (S.2.2.1 41 i.toNatClampNeg)) else none := m_rd (r := 21) (by decide) i (Or.inl rfl) f
theorem wm_41 (h : xH) (M : Nat) (S : mS) {α : Type} (i : Int32) (v : Int32) (f : xH → Option α) : xwr (mh h M S) (M + 1 + 21) i 0 (.int v) f = if bIn i 700 = true then f (mh h M (mAI S 41 i.toNatClampNeg v)) else none := m_wr (r := 21) (by decide) i rfl (.int v) f (m_setAI (r := 21) (by decide) (by decide) _ v)
theorem gm_42 (h : xH) (M : Nat) (S : mS) {α : Type} (f : Value → Option α) : xgf (mh h M S) M 11 42 f = f (.int (S.1 42)) := m_gf h M S (by decide) f
theorem pm_42 (h : xH) (M : Nat) (S : mS) (v : Int32) : xput (mh h M S) M (.inr (11, (mfs M S).set 42 (.int v))) = mh h M (mI S 42 v) := m_putI h M S v (by decide)
theorem gm_43 (h : xH) (M : Nat) (S : mS) {α : Type} (f : Value → Option α) : xgf (mh h M S) M 11 43 f = f (.ref (M + 1 + 22)) := m_gf h M S (by decide) f
theorem rm_43 (h : xH) (M : Nat) (S : mS) {α : Type} (i : Int32) (f : Value → Option α) : xrd (mh h M S) (M + 1 + 22) i 0 1 f = if bIn i 700 = true then f (.int (S.2.2.1 43 i.toNatClampNeg)) else none := m_rd (r := 22) (by decide) i (Or.inl rfl) f
theorem wm_43 (h : xH) (M : Nat) (S : mS) {α : Type} (i : Int32) (v : Int32) (f : xH → Option α) : xwr (mh h M S) (M + 1 + 22) i 0 (.int v) f = if bIn i 700 = true then f (mh h M (mAI S 43 i.toNatClampNeg v)) else none := m_wr (r := 22) (by decide) i rfl (.int v) f (m_setAI (r := 22) (by decide) (by decide) _ v)
theorem gm_44 (h : xH) (M : Nat) (S : mS) {α : Type} (f : Value → Option α) : xgf (mh h M S) M 11 44 f = f (.ref (M + 1 + 23)) := m_gf h M S (by decide) f
theorem rm_44 (h : xH) (M : Nat) (S : mS) {α : Type} (i : Int32) (f : Value → Option α) : xrd (mh h M S) (M + 1 + 23) i 2 2 f = if bIn i 700 = true then f (.long (S.2.2.2 44 i.toNatClampNeg)) else none := m_rd (r := 23) (by decide) i (Or.inl rfl) f
theorem wm_44 (h : xH) (M : Nat) (S : mS) {α : Type} (i : Int32) (v : Int64) (f : xH → Option α) : xwr (mh h M S) (M + 1 + 23) i 2 (.long v) f = if bIn i 700 = true then f (mh h M (mAJ S 44 i.toNatClampNeg v)) else none := m_wr (r := 23) (by decide) i rfl (.long v) f (m_setAJ (r := 23) (by decide) rfl _ v)
theorem gm_45 (h : xH) (M : Nat) (S : mS) {α : Type} (f : Value → Option α) : xgf (mh h M S) M 11 45 f = f (.ref (M + 1 + 24)) := m_gf h M S (by decide) f
theorem rm_45 (h : xH) (M : Nat) (S : mS) {α : Type} (i : Int32) (f : Value → Option α) : xrd (mh h M S) (M + 1 + 24) i 0 1 f = if bIn i 700 = true then f (.int (S.2.2.1 45 i.toNatClampNeg)) else none := m_rd (r := 24) (by decide) i (Or.inl rfl) f
theorem wm_45 (h : xH) (M : Nat) (S : mS) {α : Type} (i : Int32) (v : Int32) (f : xH → Option α) : xwr (mh h M S) (M + 1 + 24) i 0 (.int v) f = if bIn i 700 = true then f (mh h M (mAI S 45 i.toNatClampNeg v)) else none := m_wr (r := 24) (by decide) i rfl (.int v) f (m_setAI (r := 24) (by decide) (by decide) _ v)
theorem gm_46 (h : xH) (M : Nat) (S : mS) {α : Type} (f : Value → Option α) : xgf (mh h M S) M 11 46 f = f (.ref (M + 1 + 25)) := m_gf h M S (by decide) f
theorem rm_46 (h : xH) (M : Nat) (S : mS) {α : Type} (i : Int32) (f : Value → Option α) : xrd (mh h M S) (M + 1 + 25) i 0 1 f = if bIn i 700 = true then f (.int (S.2.2.1 46 i.toNatClampNeg)) else none := m_rd (r := 25) (by decide) i (Or.inl rfl) f
theorem wm_46 (h : xH) (M : Nat) (S : mS) {α : Type} (i : Int32) (v : Int32) (f : xH → Option α) : xwr (mh h M S) (M + 1 + 25) i 0 (.int v) f = if bIn i 700 = true then f (mh h M (mAI S 46 i.toNatClampNeg v)) else none := m_wr (r := 25) (by decide) i rfl (.int v) f (m_setAI (r := 25) (by decide) (by decide) _ v)
theorem gm_47 (h : xH) (M : Nat) (S : mS) {α : Type} (f : Value → Option α) : xgf (mh h M S) M 11 47 f = f (.ref (M + 1 + 26)) := m_gf h M S (by decide) f
theorem rm_47 (h : xH) (M : Nat) (S : mS) {α : Type} (i : Int32) (f : Value → Option α) : xrd (mh h M S) (M + 1 + 26) i 3 4 f = if bIn i 700 = true then f (.int (S.2.2.1 47 i.toNatClampNeg)) else none := m_rd (r := 26) (by decide) i (Or.inr rfl) f
theorem wm_47 (h : xH) (M : Nat) (S : mS) {α : Type} (i : Int32) (v : Int32) (f : xH → Option α) : xwb (mh h M S) (M + 1 + 26) i v f = if bIn i 700 = true then f (mh h M (mAI S 47 i.toNatClampNeg (v &&& 1))) else none := m_wb (r := 26) (by decide) i v rfl (narrow_b v) f
theorem gm_48 (h : xH) (M : Nat) (S : mS) {α : Type} (f : Value → Option α) : xgf (mh h M S) M 11 48 f = f (.ref (M + 1 + 27)) := m_gf h M S (by decide) f
theorem rm_48 (h : xH) (M : Nat) (S : mS) {α : Type} (i : Int32) (f : Value → Option α) : xrd (mh h M S) (M + 1 + 27) i 0 1 f = if bIn i 700 = true then f (.int (S.2.2.1 48 i.toNatClampNeg)) else none := m_rd (r := 27) (by decide) i (Or.inl rfl) f
theorem wm_48 (h : xH) (M : Nat) (S : mS) {α : Type} (i : Int32) (v : Int32) (f : xH → Option α) : xwr (mh h M S) (M + 1 + 27) i 0 (.int v) f = if bIn i 700 = true then f (mh h M (mAI S 48 i.toNatClampNeg v)) else none := m_wr (r := 27) (by decide) i rfl (.int v) f (m_setAI (r := 27) (by decide) (by decide) _ v)
theorem gm_49 (h : xH) (M : Nat) (S : mS) {α : Type} (f : Value → Option α) : xgf (mh h M S) M 11 49 f = f (.int (S.1 49)) := m_gf h M S (by decide) f
theorem pm_49 (h : xH) (M : Nat) (S : mS) (v : Int32) : xput (mh h M S) M (.inr (11, (mfs M S).set 49 (.int v))) = mh h M (mI S 49 v) := m_putI h M S v (by decide)
theorem gm_50 (h : xH) (M : Nat) (S : mS) {α : Type} (f : Value → Option α) : xgf (mh h M S) M 11 50 f = f (.ref (M + 1 + 28)) := m_gf h M S (by decide) f
theorem rm_50 (h : xH) (M : Nat) (S : mS) {α : Type} (i : Int32) (f : Value → Option α) : xrd (mh h M S) (M + 1 + 28) i 0 1 f = if bIn i 1400 = true then f (.int (S.2.2.1 50 i.toNatClampNeg)) else none := m_rd (r := 28) (by decide) i (Or.inl rfl) f
theorem wm_50 (h : xH) (M : Nat) (S : mS) {α : Type} (i : Int32) (v : Int32) (f : xH → Option α) : xwr (mh h M S) (M + 1 + 28) i 0 (.int v) f = if bIn i 1400 = true then f (mh h M (mAI S 50 i.toNatClampNeg v)) else none := m_wr (r := 28) (by decide) i rfl (.int v) f (m_setAI (r := 28) (by decide) (by decide) _ v)
theorem gm_51 (h : xH) (M : Nat) (S : mS) {α : Type} (f : Value → Option α) : xgf (mh h M S) M 11 51 f = f (.ref (M + 1 + 29)) := m_gf h M S (by decide) f
theorem rm_51 (h : xH) (M : Nat) (S : mS) {α : Type} (i : Int32) (f : Value → Option α) : xrd (mh h M S) (M + 1 + 29) i 2 2 f = if bIn i 1400 = true then f (.long (S.2.2.2 51 i.toNatClampNeg)) else none := m_rd (r := 29) (by decide) i (Or.inl rfl) f
theorem wm_51 (h : xH) (M : Nat) (S : mS) {α : Type} (i : Int32) (v : Int64) (f : xH → Option α) : xwr (mh h M S) (M + 1 + 29) i 2 (.long v) f = if bIn i 1400 = true then f (mh h M (mAJ S 51 i.toNatClampNeg v)) else none := m_wr (r := 29) (by decide) i rfl (.long v) f (m_setAJ (r := 29) (by decide) rfl _ v)
theorem gm_52 (h : xH) (M : Nat) (S : mS) {α : Type} (f : Value → Option α) : xgf (mh h M S) M 11 52 f = f (.ref (M + 1 + 30)) := m_gf h M S (by decide) f
theorem rm_52 (h : xH) (M : Nat) (S : mS) {α : Type} (i : Int32) (f : Value → Option α) : xrd (mh h M S) (M + 1 + 30) i 0 1 f = if bIn i 1400 = true then f (.int (S.2.2.1 52 i.toNatClampNeg)) else none := m_rd (r := 30) (by decide) i (Or.inl rfl) f
theorem wm_52 (h : xH) (M : Nat) (S : mS) {α : Type} (i : Int32) (v : Int32) (f : xH → Option α) : xwr (mh h M S) (M + 1 + 30) i 0 (.int v) f = if bIn i 1400 = true then f (mh h M (mAI S 52 i.toNatClampNeg v)) else none := m_wr (r := 30) (by decide) i rfl (.int v) f (m_setAI (r := 30) (by decide) (by decide) _ v)
theorem gm_53 (h : xH) (M : Nat) (S : mS) {α : Type} (f : Value → Option α) : xgf (mh h M S) M 11 53 f = f (.ref (M + 1 + 31)) := m_gf h M S (by decide) f
theorem rm_53 (h : xH) (M : Nat) (S : mS) {α : Type} (i : Int32) (f : Value → Option α) : xrd (mh h M S) (M + 1 + 31) i 0 1 f = if bIn i 700 = true then f (.int (S.2.2.1 53 i.toNatClampNeg)) else none := m_rd (r := 31) (by decide) i (Or.inl rfl) f
theorem wm_53 (h : xH) (M : Nat) (S : mS) {α : Type} (i : Int32) (v : Int32) (f : xH → Option α) : xwr (mh h M S) (M + 1 + 31) i 0 (.int v) f = if bIn i 700 = true then f (mh h M (mAI S 53 i.toNatClampNeg v)) else none := m_wr (r := 31) (by decide) i rfl (.int v) f (m_setAI (r := 31) (by decide) (by decide) _ v)
theorem gm_54 (h : xH) (M : Nat) (S : mS) {α : Type} (f : Value → Option α) : xgf (mh h M S) M 11 54 f = f (.ref (M + 1 + 32)) := m_gf h M S (by decide) f
theorem rm_54 (h : xH) (M : Nat) (S : mS) {α : Type} (i : Int32) (f : Value → Option α) : xrd (mh h M S) (M + 1 + 32) i 2 2 f = if bIn i 700 = true then f (.long (S.2.2.2 54 i.toNatClampNeg)) else none := m_rd (r := 32) (by decide) i (Or.inl rfl) f
theorem wm_54 (h : xH) (M : Nat) (S : mS) {α : Type} (i : Int32) (v : Int64) (f : xH → Option α) : xwr (mh h M S) (M + 1 + 32) i 2 (.long v) f = if bIn i 700 = true then f (mh h M (mAJ S 54 i.toNatClampNeg v)) else none := m_wr (r := 32) (by decide) i rfl (.long v) f (m_setAJ (r := 32) (by decide) rfl _ v)
theorem gm_55 (h : xH) (M : Nat) (S : mS) {α : Type} (f : Value → Option α) : xgf (mh h M S) M 11 55 f = f (.ref (M + 1 + 33)) := m_gf h M S (by decide) f
theorem rm_55 (h : xH) (M : Nat) (S : mS) {α : Type} (i : Int32) (f : Value → Option α) : xrd (mh h M S) (M + 1 + 33) i 0 1 f = if bIn i 700 = true then f (.int (S.2.2.1 55 i.toNatClampNeg)) else none := m_rd (r := 33) (by decide) i (Or.inl rfl) f
theorem wm_55 (h : xH) (M : Nat) (S : mS) {α : Type} (i : Int32) (v : Int32) (f : xH → Option α) : xwr (mh h M S) (M + 1 + 33) i 0 (.int v) f = if bIn i 700 = true then f (mh h M (mAI S 55 i.toNatClampNeg v)) else none := m_wr (r := 33) (by decide) i rfl (.int v) f (m_setAI (r := 33) (by decide) (by decide) _ v)
theorem gm_56 (h : xH) (M : Nat) (S : mS) {α : Type} (f : Value → Option α) : xgf (mh h M S) M 11 56 f = f (.int (S.1 56)) := m_gf h M S (by decide) f
theorem pm_56 (h : xH) (M : Nat) (S : mS) (v : Int32) : xput (mh h M S) M (.inr (11, (mfs M S).set 56 (.int v))) = mh h M (mI S 56 v) := m_putI h M S v (by decide)
theorem gm_57 (h : xH) (M : Nat) (S : mS) {α : Type} (f : Value → Option α) : xgf (mh h M S) M 11 57 f = f (.int (S.1 57)) := m_gf h M S (by decide) f
theorem pm_57 (h : xH) (M : Nat) (S : mS) (v : Int32) : xput (mh h M S) M (.inr (11, (mfs M S).set 57 (.int v))) = mh h M (mI S 57 v) := m_putI h M S v (by decide)
theorem gm_58 (h : xH) (M : Nat) (S : mS) {α : Type} (f : Value → Option α) : xgf (mh h M S) M 11 58 f = f (.int (S.1 58)) := m_gf h M S (by decide) f
theorem pm_58 (h : xH) (M : Nat) (S : mS) (v : Int32) : xput (mh h M S) M (.inr (11, (mfs M S).set 58 (.int v))) = mh h M (mI S 58 v) := m_putI h M S v (by decide)
theorem gm_59 (h : xH) (M : Nat) (S : mS) {α : Type} (f : Value → Option α) : xgf (mh h M S) M 11 59 f = f (.ref (M + 1 + 34)) := m_gf h M S (by decide) f
theorem rm_59 (h : xH) (M : Nat) (S : mS) {α : Type} (i : Int32) (f : Value → Option α) : xrd (mh h M S) (M + 1 + 34) i 2 2 f = if bIn i 60 = true then f (.long (S.2.2.2 59 i.toNatClampNeg)) else none := m_rd (r := 34) (by decide) i (Or.inl rfl) f
theorem wm_59 (h : xH) (M : Nat) (S : mS) {α : Type} (i : Int32) (v : Int64) (f : xH → Option α) : xwr (mh h M S) (M + 1 + 34) i 2 (.long v) f = if bIn i 60 = true then f (mh h M (mAJ S 59 i.toNatClampNeg v)) else none := m_wr (r := 34) (by decide) i rfl (.long v) f (m_setAJ (r := 34) (by decide) rfl _ v)
theorem gm_60 (h : xH) (M : Nat) (S : mS) {α : Type} (f : Value → Option α) : xgf (mh h M S) M 11 60 f = f (.int (S.1 60)) := m_gf h M S (by decide) f
theorem pm_60 (h : xH) (M : Nat) (S : mS) (v : Int32) : xput (mh h M S) M (.inr (11, (mfs M S).set 60 (.int v))) = mh h M (mI S 60 v) := m_putI h M S v (by decide)
theorem gm_61 (h : xH) (M : Nat) (S : mS) {α : Type} (f : Value → Option α) : xgf (mh h M S) M 11 61 f = f (.int (S.1 61)) := m_gf h M S (by decide) f
theorem pm_61 (h : xH) (M : Nat) (S : mS) (v : Int32) : xput (mh h M S) M (.inr (11, (mfs M S).set 61 (.int v))) = mh h M (mI S 61 v) := m_putI h M S v (by decide)
theorem gm_62 (h : xH) (M : Nat) (S : mS) {α : Type} (f : Value → Option α) : xgf (mh h M S) M 11 62 f = f (.int (S.1 62)) := m_gf h M S (by decide) f
theorem pm_62 (h : xH) (M : Nat) (S : mS) (v : Int32) : xput (mh h M S) M (.inr (11, (mfs M S).set 62 (.int v))) = mh h M (mI S 62 v) := m_putI h M S v (by decide)
theorem gm_63 (h : xH) (M : Nat) (S : mS) {α : Type} (f : Value → Option α) : xgf (mh h M S) M 11 63 f = f (.int (S.1 63)) := m_gf h M S (by decide) f
theorem pm_63 (h : xH) (M : Nat) (S : mS) (v : Int32) : xput (mh h M S) M (.inr (11, (mfs M S).set 63 (.int v))) = mh h M (mI S 63 v) := m_putI h M S v (by decide)
theorem gm_64 (h : xH) (M : Nat) (S : mS) {α : Type} (f : Value → Option α) : xgf (mh h M S) M 11 64 f = f (.ref (M + 1 + 35)) := m_gf h M S (by decide) f
theorem rm_64 (h : xH) (M : Nat) (S : mS) {α : Type} (i : Int32) (f : Value → Option α) : xrd (mh h M S) (M + 1 + 35) i 0 1 f = if bIn i 180 = true then f (.int (S.2.2.1 64 i.toNatClampNeg)) else none := m_rd (r := 35) (by decide) i (Or.inl rfl) f
theorem wm_64 (h : xH) (M : Nat) (S : mS) {α : Type} (i : Int32) (v : Int32) (f : xH → Option α) : xwr (mh h M S) (M + 1 + 35) i 0 (.int v) f = if bIn i 180 = true then f (mh h M (mAI S 64 i.toNatClampNeg v)) else none := m_wr (r := 35) (by decide) i rfl (.int v) f (m_setAI (r := 35) (by decide) (by decide) _ v)
