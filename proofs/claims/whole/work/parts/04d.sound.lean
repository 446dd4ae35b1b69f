section Step
variable {p : Program} {l : Launch} {e : Env} {R : Room} {s : State} {m : MethodId} {args : Array Value} {below : List Frame} {meth : Method} {c : Code} {Q : State → Prop} {dC : Nat → ClassId} {dI : Nat → Nat → Nat} {aC : Nat → ClassId} {b0 c0 s0 j : Nat}
set_option maxHeartbeats 8000000 in
set_option maxRecDepth 100000 in
theorem xs_ok {d : Nat} {call : Nat → List Value → xH → Option xR} {ins : Jvm.ClassFile.Instr} {len pc pc' : Nat} {ls ls' : xL} {st st' : List Value} {h h' : xH} (hx : p.tables.exec = Jvm.exec) (hb : c.code = x_b j) (hml : c.maxLocals = x_nl j) (hown : s.vm.findClass (x_own j) = some m.cls) (hts : ∀ w ∈ x_G, w.before args s = true) (hK : xK dC dI aC s) (hini : x_ini j = true → meth.name = "<init>") (hb0 : b0 ≤ c0) (hRf : d ≤ R.frames) (hRl : d * 64 ≤ R.locals)
    (hcall : ∀ jj as h r h1, call jj as h = some (r, h1) → xle h h1 ∧ d ≠ 0 ∧ jj < x_n ∧ xMet l dC dI aC (d - 1) jj as h r h1)
    (hdec : decode (x_b j) pc = .ok (ins, len)) (hs : xs d call j ins len pc ls st h = some (pc', ls', st', h')) :
    xle h h' ∧ (h'.2.2.1 ≤ c0 + R.cells → h'.2.2.2 ≤ s0 + R.slots → xWW p l e R s m args below meth c Q dC dI aC b0 c0 s0 (x_nl j) h' pc' ls' st' → xWW p l e R s m args below meth c Q dC dI aC b0 c0 s0 (x_nl j) h pc ls st) := by
  cases ins with
  | iload_n i =>
    replace hs := xG_inv hs
    obtain ⟨rfl, hs⟩ := hs
    replace hs := xlc_inv hs
    obtain ⟨v, he, hs⟩ := hs
    replace hs := xcI_inv hs
    obtain ⟨x, rfl, hs⟩ := hs
    cases hs
    exact ⟨xle.rf, fun _ _ k H LS locs cells slots I => lv_iload_n hx hb hdec rfl (I.2.2.1.at he (by decide)) (k H LS locs cells slots I)⟩
  | iload i =>
    replace hs := xG_inv hs
    obtain ⟨rfl, hs⟩ := hs
    replace hs := xlc_inv hs
    obtain ⟨v, he, hs⟩ := hs
    replace hs := xcI_inv hs
    obtain ⟨x, rfl, hs⟩ := hs
    cases hs
    exact ⟨xle.rf, fun _ _ k H LS locs cells slots I => lv_iload hx hb hdec (I.2.2.1.at he (by decide)) (k H LS locs cells slots I)⟩
  | lload_n i =>
    replace hs := xG_inv hs
    obtain ⟨rfl, hs⟩ := hs
    replace hs := xlc_inv hs
    obtain ⟨v, he, hs⟩ := hs
    replace hs := xcL_inv hs
    obtain ⟨x, rfl, hs⟩ := hs
    cases hs
    exact ⟨xle.rf, fun _ _ k H LS locs cells slots I => lv_lload_n hx hb hdec rfl (I.2.2.1.at he (by decide)) (k H LS locs cells slots I)⟩
  | lload i =>
    replace hs := xG_inv hs
    obtain ⟨rfl, hs⟩ := hs
    replace hs := xlc_inv hs
    obtain ⟨v, he, hs⟩ := hs
    replace hs := xcL_inv hs
    obtain ⟨x, rfl, hs⟩ := hs
    cases hs
    exact ⟨xle.rf, fun _ _ k H LS locs cells slots I => lv_lload hx hb hdec (I.2.2.1.at he (by decide)) (k H LS locs cells slots I)⟩
  | aload_n i =>
    replace hs := xG_inv hs
    obtain ⟨rfl, hs⟩ := hs
    replace hs := xlc_inv hs
    obtain ⟨v, he, hs⟩ := hs
    replace hs := xcA_inv hs
    obtain ⟨⟨a, rfl⟩ | rfl, hs⟩ := hs
    · cases hs
      exact ⟨xle.rf, fun _ _ k H LS locs cells slots I => lv_aload_n hx hb hdec rfl (I.2.2.1.at he (by decide)) (k H LS locs cells slots I)⟩
    · cases hs
      exact ⟨xle.rf, fun _ _ k H LS locs cells slots I => lv_aload_nN hx hb hdec rfl (I.2.2.1.at he (by decide)) (k H LS locs cells slots I)⟩
  | aload i =>
    replace hs := xG_inv hs
    obtain ⟨rfl, hs⟩ := hs
    replace hs := xlc_inv hs
    obtain ⟨v, he, hs⟩ := hs
    replace hs := xcA_inv hs
    obtain ⟨⟨a, rfl⟩ | rfl, hs⟩ := hs
    · cases hs
      exact ⟨xle.rf, fun _ _ k H LS locs cells slots I => lv_aload hx hb hdec (I.2.2.1.at he (by decide)) (k H LS locs cells slots I)⟩
    · cases hs
      exact ⟨xle.rf, fun _ _ k H LS locs cells slots I => lv_aloadN hx hb hdec (I.2.2.1.at he (by decide)) (k H LS locs cells slots I)⟩
  | istore_n i =>
    replace hs := xG_inv hs
    obtain ⟨rfl, hs⟩ := hs
    replace hs := xqI_inv hs
    obtain ⟨x, sk, rfl, hs⟩ := hs
    replace hs := xif_inv hs
    obtain ⟨hi, hs⟩ := hs
    cases hs
    exact ⟨xle.rf, fun _ _ k H LS locs cells slots ⟨i1, i2, ⟨hlen, lv, hl, hh⟩, i4, i5, i6, i7⟩ => lv_istore_n hx hb hdec rfl hl hi rfl (fun LS' h' => k H LS' locs cells slots ⟨i1, i2, xLo.st1 hlen hh rfl h', i4, i5, i6, i7⟩)⟩
  | istore i =>
    replace hs := xG_inv hs
    obtain ⟨rfl, hs⟩ := hs
    replace hs := xqI_inv hs
    obtain ⟨x, sk, rfl, hs⟩ := hs
    replace hs := xif_inv hs
    obtain ⟨hi, hs⟩ := hs
    cases hs
    exact ⟨xle.rf, fun _ _ k H LS locs cells slots ⟨i1, i2, ⟨hlen, lv, hl, hh⟩, i4, i5, i6, i7⟩ => lv_istore hx hb hdec hl hi rfl (fun LS' h' => k H LS' locs cells slots ⟨i1, i2, xLo.st1 hlen hh rfl h', i4, i5, i6, i7⟩)⟩
  | lstore_n i =>
    replace hs := xG_inv hs
    obtain ⟨rfl, hs⟩ := hs
    replace hs := xqL_inv hs
    obtain ⟨x, sk, rfl, hs⟩ := hs
    replace hs := xif_inv hs
    obtain ⟨hi, hs⟩ := hs
    cases hs
    exact ⟨xle.rf, fun _ _ k H LS locs cells slots ⟨i1, i2, ⟨hlen, lv, hl, hh⟩, i4, i5, i6, i7⟩ => lv_lstore_n hx hb hdec rfl hl hi rfl (fun LS' h' => k H LS' locs cells slots ⟨i1, i2, xLo.st2 hlen hh rfl h', i4, i5, i6, i7⟩)⟩
  | lstore i =>
    replace hs := xG_inv hs
    obtain ⟨rfl, hs⟩ := hs
    replace hs := xqL_inv hs
    obtain ⟨x, sk, rfl, hs⟩ := hs
    replace hs := xif_inv hs
    obtain ⟨hi, hs⟩ := hs
    cases hs
    exact ⟨xle.rf, fun _ _ k H LS locs cells slots ⟨i1, i2, ⟨hlen, lv, hl, hh⟩, i4, i5, i6, i7⟩ => lv_lstore hx hb hdec hl hi rfl (fun LS' h' => k H LS' locs cells slots ⟨i1, i2, xLo.st2 hlen hh rfl h', i4, i5, i6, i7⟩)⟩
  | astore_n i =>
    replace hs := xG_inv hs
    obtain ⟨rfl, hs⟩ := hs
    replace hs := xqA_inv hs
    obtain ⟨r, sk, rfl, hs⟩ := hs
    replace hs := xif_inv hs
    obtain ⟨hi, hs⟩ := hs
    cases hs
    cases r with
    | some a => exact ⟨xle.rf, fun _ _ k H LS locs cells slots ⟨i1, i2, ⟨hlen, lv, hl, hh⟩, i4, i5, i6, i7⟩ => lv_astore_n hx hb hdec rfl hl hi rfl (fun LS' h' => k H LS' locs cells slots ⟨i1, i2, xLo.st1 hlen hh rfl h', i4, i5, i6, i7⟩)⟩
    | none => exact ⟨xle.rf, fun _ _ k H LS locs cells slots ⟨i1, i2, ⟨hlen, lv, hl, hh⟩, i4, i5, i6, i7⟩ => lv_astore_nN hx hb hdec rfl hl hi rfl (fun LS' h' => k H LS' locs cells slots ⟨i1, i2, xLo.st1 hlen hh rfl h', i4, i5, i6, i7⟩)⟩
  | astore i =>
    replace hs := xG_inv hs
    obtain ⟨rfl, hs⟩ := hs
    replace hs := xqA_inv hs
    obtain ⟨r, sk, rfl, hs⟩ := hs
    replace hs := xif_inv hs
    obtain ⟨hi, hs⟩ := hs
    cases hs
    cases r with
    | some a => exact ⟨xle.rf, fun _ _ k H LS locs cells slots ⟨i1, i2, ⟨hlen, lv, hl, hh⟩, i4, i5, i6, i7⟩ => lv_astore hx hb hdec hl hi rfl (fun LS' h' => k H LS' locs cells slots ⟨i1, i2, xLo.st1 hlen hh rfl h', i4, i5, i6, i7⟩)⟩
    | none => exact ⟨xle.rf, fun _ _ k H LS locs cells slots ⟨i1, i2, ⟨hlen, lv, hl, hh⟩, i4, i5, i6, i7⟩ => lv_astoreN hx hb hdec hl hi rfl (fun LS' h' => k H LS' locs cells slots ⟨i1, i2, xLo.st1 hlen hh rfl h', i4, i5, i6, i7⟩)⟩
  | iinc i n =>
    replace hs := xG_inv hs
    obtain ⟨rfl, hs⟩ := hs
    replace hs := xlc_inv hs
    obtain ⟨v, he, hs⟩ := hs
    replace hs := xcI_inv hs
    obtain ⟨x, rfl, hs⟩ := hs
    replace hs := xif_inv hs
    obtain ⟨hi, hs⟩ := hs
    cases hs
    refine ⟨xle.rf, fun _ _ k H LS locs cells slots ⟨i1, i2, ⟨hlen, lv, hl, hh⟩, i4, i5, i6, i7⟩ => ?_⟩
    obtain ⟨kk, hkk⟩ := List.getElem?_of_mem (hh i 1 _ he (by decide)).1
    exact lv_iinc hx hb hdec hl hkk rfl hi rfl (fun LS' h' => k H LS' locs cells slots ⟨i1, i2, xLo.st1 hlen hh rfl h', i4, i5, i6, i7⟩)
  | iconst n =>
    replace hs := xG_inv hs
    obtain ⟨rfl, hs⟩ := hs
    cases hs
    exact ⟨xle.rf, fun _ _ k H LS locs cells slots I => lv_iconst hx hb hdec rfl (k H LS locs cells slots I)⟩
  | bipush n =>
    replace hs := xG_inv hs
    obtain ⟨rfl, hs⟩ := hs
    cases hs
    exact ⟨xle.rf, fun _ _ k H LS locs cells slots I => lv_bipush hx hb hdec rfl (k H LS locs cells slots I)⟩
  | sipush n =>
    replace hs := xG_inv hs
    obtain ⟨rfl, hs⟩ := hs
    cases hs
    exact ⟨xle.rf, fun _ _ k H LS locs cells slots I => lv_sipush hx hb hdec rfl (k H LS locs cells slots I)⟩
  | lconst n =>
    replace hs := xG_inv hs
    obtain ⟨rfl, hs⟩ := hs
    cases hs
    exact ⟨xle.rf, fun _ _ k H LS locs cells slots I => lv_lconst hx hb hdec rfl (k H LS locs cells slots I)⟩
  | aconst_null =>
    replace hs := xG_inv hs
    obtain ⟨rfl, hs⟩ := hs
    cases hs
    exact ⟨xle.rf, fun _ _ k H LS locs cells slots I => lv_null hx hb hdec (k H LS locs cells slots I)⟩
  | ldc i =>
    replace hs := xG_inv hs
    obtain ⟨rfl, hs⟩ := hs
    split at hs
    · rename_i v he
      cases hs
      exact ⟨xle.rf, fun _ _ k H LS locs cells slots I => lv_ldc hx hb hown (hts _ (x_ldci_ok he)) hdec (k H LS locs cells slots I)⟩
    · cases hs
  | ldc_w i =>
    replace hs := xG_inv hs
    obtain ⟨rfl, hs⟩ := hs
    split at hs
    · rename_i v he
      cases hs
      exact ⟨xle.rf, fun _ _ k H LS locs cells slots I => lv_ldcw hx hb hown (hts _ (x_ldci_ok he)) hdec (k H LS locs cells slots I)⟩
    · cases hs
  | ldc2_w i =>
    replace hs := xG_inv hs
    obtain ⟨rfl, hs⟩ := hs
    split at hs
    · rename_i v he
      cases hs
      exact ⟨xle.rf, fun _ _ k H LS locs cells slots I => lv_ldc2 hx hb hown (hts _ (x_ldcl_ok he)) hdec (k H LS locs cells slots I)⟩
    · cases hs
  | iadd =>
    replace hs := xG_inv hs
    obtain ⟨rfl, hs⟩ := hs
    replace hs := xqII_inv hs
    obtain ⟨x, y, sk, rfl, hs⟩ := hs
    cases hs
    exact ⟨xle.rf, fun _ _ k H LS locs cells slots I => lv_iadd hx hb hdec (k H LS locs cells slots I)⟩
  | isub =>
    replace hs := xG_inv hs
    obtain ⟨rfl, hs⟩ := hs
    replace hs := xqII_inv hs
    obtain ⟨x, y, sk, rfl, hs⟩ := hs
    cases hs
    exact ⟨xle.rf, fun _ _ k H LS locs cells slots I => lv_isub hx hb hdec (k H LS locs cells slots I)⟩
  | imul =>
    replace hs := xG_inv hs
    obtain ⟨rfl, hs⟩ := hs
    replace hs := xqII_inv hs
    obtain ⟨x, y, sk, rfl, hs⟩ := hs
    cases hs
    exact ⟨xle.rf, fun _ _ k H LS locs cells slots I => lv_imul hx hb hdec (k H LS locs cells slots I)⟩
  | iand =>
    replace hs := xG_inv hs
    obtain ⟨rfl, hs⟩ := hs
    replace hs := xqII_inv hs
    obtain ⟨x, y, sk, rfl, hs⟩ := hs
    cases hs
    exact ⟨xle.rf, fun _ _ k H LS locs cells slots I => lv_iand hx hb hdec (k H LS locs cells slots I)⟩
  | ior =>
    replace hs := xG_inv hs
    obtain ⟨rfl, hs⟩ := hs
    replace hs := xqII_inv hs
    obtain ⟨x, y, sk, rfl, hs⟩ := hs
    cases hs
    exact ⟨xle.rf, fun _ _ k H LS locs cells slots I => lv_ior hx hb hdec (k H LS locs cells slots I)⟩
  | ixor =>
    replace hs := xG_inv hs
    obtain ⟨rfl, hs⟩ := hs
    replace hs := xqII_inv hs
    obtain ⟨x, y, sk, rfl, hs⟩ := hs
    cases hs
    exact ⟨xle.rf, fun _ _ k H LS locs cells slots I => lv_ixor hx hb hdec (k H LS locs cells slots I)⟩
  | ishl =>
    replace hs := xG_inv hs
    obtain ⟨rfl, hs⟩ := hs
    replace hs := xqII_inv hs
    obtain ⟨x, y, sk, rfl, hs⟩ := hs
    cases hs
    exact ⟨xle.rf, fun _ _ k H LS locs cells slots I => lv_ishl hx hb hdec (k H LS locs cells slots I)⟩
  | ishr =>
    replace hs := xG_inv hs
    obtain ⟨rfl, hs⟩ := hs
    replace hs := xqII_inv hs
    obtain ⟨x, y, sk, rfl, hs⟩ := hs
    cases hs
    exact ⟨xle.rf, fun _ _ k H LS locs cells slots I => lv_ishr hx hb hdec (k H LS locs cells slots I)⟩
  | iushr =>
    replace hs := xG_inv hs
    obtain ⟨rfl, hs⟩ := hs
    replace hs := xqII_inv hs
    obtain ⟨x, y, sk, rfl, hs⟩ := hs
    cases hs
    exact ⟨xle.rf, fun _ _ k H LS locs cells slots I => lv_iushr hx hb hdec rfl (k H LS locs cells slots I)⟩
  | ladd =>
    replace hs := xG_inv hs
    obtain ⟨rfl, hs⟩ := hs
    replace hs := xqLL_inv hs
    obtain ⟨x, y, sk, rfl, hs⟩ := hs
    cases hs
    exact ⟨xle.rf, fun _ _ k H LS locs cells slots I => lv_ladd hx hb hdec (k H LS locs cells slots I)⟩
  | lsub =>
    replace hs := xG_inv hs
    obtain ⟨rfl, hs⟩ := hs
    replace hs := xqLL_inv hs
    obtain ⟨x, y, sk, rfl, hs⟩ := hs
    cases hs
    exact ⟨xle.rf, fun _ _ k H LS locs cells slots I => lv_lsub hx hb hdec (k H LS locs cells slots I)⟩
  | lmul =>
    replace hs := xG_inv hs
    obtain ⟨rfl, hs⟩ := hs
    replace hs := xqLL_inv hs
    obtain ⟨x, y, sk, rfl, hs⟩ := hs
    cases hs
    exact ⟨xle.rf, fun _ _ k H LS locs cells slots I => lv_lmul hx hb hdec (k H LS locs cells slots I)⟩
  | land =>
    replace hs := xG_inv hs
    obtain ⟨rfl, hs⟩ := hs
    replace hs := xqLL_inv hs
    obtain ⟨x, y, sk, rfl, hs⟩ := hs
    cases hs
    exact ⟨xle.rf, fun _ _ k H LS locs cells slots I => lv_land hx hb hdec (k H LS locs cells slots I)⟩
  | lor =>
    replace hs := xG_inv hs
    obtain ⟨rfl, hs⟩ := hs
    replace hs := xqLL_inv hs
    obtain ⟨x, y, sk, rfl, hs⟩ := hs
    cases hs
    exact ⟨xle.rf, fun _ _ k H LS locs cells slots I => lv_lor hx hb hdec (k H LS locs cells slots I)⟩
  | lxor =>
    replace hs := xG_inv hs
    obtain ⟨rfl, hs⟩ := hs
    replace hs := xqLL_inv hs
    obtain ⟨x, y, sk, rfl, hs⟩ := hs
    cases hs
    exact ⟨xle.rf, fun _ _ k H LS locs cells slots I => lv_lxor hx hb hdec (k H LS locs cells slots I)⟩
  | idiv =>
    replace hs := xG_inv hs
    obtain ⟨rfl, hs⟩ := hs
    replace hs := xqII_inv hs
    obtain ⟨x, y, sk, rfl, hs⟩ := hs
    replace hs := xifn_inv hs
    obtain ⟨hne, hs⟩ := hs
    cases hs
    exact ⟨xle.rf, fun _ _ k H LS locs cells slots I => lv_idiv hx hb hdec hne (k H LS locs cells slots I)⟩
  | irem =>
    replace hs := xG_inv hs
    obtain ⟨rfl, hs⟩ := hs
    replace hs := xqII_inv hs
    obtain ⟨x, y, sk, rfl, hs⟩ := hs
    replace hs := xifn_inv hs
    obtain ⟨hne, hs⟩ := hs
    cases hs
    exact ⟨xle.rf, fun _ _ k H LS locs cells slots I => lv_irem hx hb hdec hne (k H LS locs cells slots I)⟩
  | ldiv =>
    replace hs := xG_inv hs
    obtain ⟨rfl, hs⟩ := hs
    replace hs := xqLL_inv hs
    obtain ⟨x, y, sk, rfl, hs⟩ := hs
    replace hs := xifn_inv hs
    obtain ⟨hne, hs⟩ := hs
    cases hs
    exact ⟨xle.rf, fun _ _ k H LS locs cells slots I => lv_ldiv hx hb hdec hne (k H LS locs cells slots I)⟩
  | lrem =>
    replace hs := xG_inv hs
    obtain ⟨rfl, hs⟩ := hs
    replace hs := xqLL_inv hs
    obtain ⟨x, y, sk, rfl, hs⟩ := hs
    replace hs := xifn_inv hs
    obtain ⟨hne, hs⟩ := hs
    cases hs
    exact ⟨xle.rf, fun _ _ k H LS locs cells slots I => lv_lrem hx hb hdec hne (k H LS locs cells slots I)⟩
  | ineg =>
    replace hs := xG_inv hs
    obtain ⟨rfl, hs⟩ := hs
    replace hs := xqI_inv hs
    obtain ⟨x, sk, rfl, hs⟩ := hs
    cases hs
    exact ⟨xle.rf, fun _ _ k H LS locs cells slots I => lv_ineg hx hb hdec (k H LS locs cells slots I)⟩
  | lneg =>
    replace hs := xG_inv hs
    obtain ⟨rfl, hs⟩ := hs
    replace hs := xqL_inv hs
    obtain ⟨x, sk, rfl, hs⟩ := hs
    cases hs
    exact ⟨xle.rf, fun _ _ k H LS locs cells slots I => lv_lneg hx hb hdec (k H LS locs cells slots I)⟩
  | lshl =>
    replace hs := xG_inv hs
    obtain ⟨rfl, hs⟩ := hs
    replace hs := xqLI_inv hs
    obtain ⟨x, y, sk, rfl, hs⟩ := hs
    cases hs
    exact ⟨xle.rf, fun _ _ k H LS locs cells slots I => lv_lshl hx hb hdec rfl (k H LS locs cells slots I)⟩
  | lshr =>
    replace hs := xG_inv hs
    obtain ⟨rfl, hs⟩ := hs
    replace hs := xqLI_inv hs
    obtain ⟨x, y, sk, rfl, hs⟩ := hs
    cases hs
    exact ⟨xle.rf, fun _ _ k H LS locs cells slots I => lv_lshr hx hb hdec rfl (k H LS locs cells slots I)⟩
  | lushr =>
    replace hs := xG_inv hs
    obtain ⟨rfl, hs⟩ := hs
    replace hs := xqLI_inv hs
    obtain ⟨x, y, sk, rfl, hs⟩ := hs
    cases hs
    exact ⟨xle.rf, fun _ _ k H LS locs cells slots I => lv_lushr hx hb hdec rfl (k H LS locs cells slots I)⟩
  | lcmp =>
    replace hs := xG_inv hs
    obtain ⟨rfl, hs⟩ := hs
    replace hs := xqLL_inv hs
    obtain ⟨x, y, sk, rfl, hs⟩ := hs
    cases hs
    exact ⟨xle.rf, fun _ _ k H LS locs cells slots I => W.lcmp hx hb hdec (k H LS locs cells slots I)⟩
  | i2l =>
    replace hs := xG_inv hs
    obtain ⟨rfl, hs⟩ := hs
    replace hs := xqI_inv hs
    obtain ⟨x, sk, rfl, hs⟩ := hs
    cases hs
    exact ⟨xle.rf, fun _ _ k H LS locs cells slots I => lv_i2l hx hb hdec rfl (k H LS locs cells slots I)⟩
  | l2i =>
    replace hs := xG_inv hs
    obtain ⟨rfl, hs⟩ := hs
    replace hs := xqL_inv hs
    obtain ⟨x, sk, rfl, hs⟩ := hs
    cases hs
    exact ⟨xle.rf, fun _ _ k H LS locs cells slots I => lv_l2i hx hb hdec rfl (k H LS locs cells slots I)⟩
  | i2b =>
    replace hs := xG_inv hs
    obtain ⟨rfl, hs⟩ := hs
    replace hs := xqI_inv hs
    obtain ⟨x, sk, rfl, hs⟩ := hs
    cases hs
    exact ⟨xle.rf, fun _ _ k H LS locs cells slots I => lv_i2b hx hb hdec rfl (k H LS locs cells slots I)⟩
  | i2s =>
    replace hs := xG_inv hs
    obtain ⟨rfl, hs⟩ := hs
    replace hs := xqI_inv hs
    obtain ⟨x, sk, rfl, hs⟩ := hs
    cases hs
    exact ⟨xle.rf, fun _ _ k H LS locs cells slots I => lv_i2s hx hb hdec rfl (k H LS locs cells slots I)⟩
  | i2c =>
    replace hs := xG_inv hs
    obtain ⟨rfl, hs⟩ := hs
    replace hs := xqI_inv hs
    obtain ⟨x, sk, rfl, hs⟩ := hs
    cases hs
    exact ⟨xle.rf, fun _ _ k H LS locs cells slots I => lv_i2c hx hb hdec rfl (k H LS locs cells slots I)⟩
  | dup =>
    replace hs := xG_inv hs
    obtain ⟨rfl, hs⟩ := hs
    replace hs := xqV_inv hs
    obtain ⟨v, sk, rfl, hs⟩ := hs
    replace hs := xif_inv hs
    obtain ⟨h1, hs⟩ := hs
    cases hs
    exact ⟨xle.rf, fun _ _ k H LS locs cells slots I => lv_dup hx hb hdec h1 (k H LS locs cells slots I)⟩
  | pop =>
    replace hs := xG_inv hs
    obtain ⟨rfl, hs⟩ := hs
    replace hs := xqV_inv hs
    obtain ⟨v, sk, rfl, hs⟩ := hs
    replace hs := xif_inv hs
    obtain ⟨h1, hs⟩ := hs
    cases hs
    exact ⟨xle.rf, fun _ _ k H LS locs cells slots I => lv_pop hx hb hdec h1 (k H LS locs cells slots I)⟩
  | dup_x1 =>
    replace hs := xG_inv hs
    obtain ⟨rfl, hs⟩ := hs
    replace hs := xqV_inv hs
    obtain ⟨v, sk, rfl, hs⟩ := hs
    replace hs := xqV_inv hs
    obtain ⟨w, sk, rfl, hs⟩ := hs
    replace hs := xif_inv hs
    obtain ⟨⟨h1, h2⟩, hs⟩ := hs
    cases hs
    exact ⟨xle.rf, fun _ _ k H LS locs cells slots I => lv_dup_x1 hx hb hdec h1 h2 (k H LS locs cells slots I)⟩
  | dup_x2 =>
    replace hs := xG_inv hs
    obtain ⟨rfl, hs⟩ := hs
    replace hs := xqV_inv hs
    obtain ⟨v, sk, rfl, hs⟩ := hs
    replace hs := xqV_inv hs
    obtain ⟨w, sk, rfl, hs⟩ := hs
    replace hs := xqV_inv hs
    obtain ⟨u, sk, rfl, hs⟩ := hs
    replace hs := xif_inv hs
    obtain ⟨⟨h1, h2, h3⟩, hs⟩ := hs
    cases hs
    exact ⟨xle.rf, fun _ _ k H LS locs cells slots I => lv_dup_x2 hx hb hdec h1 h2 h3 (k H LS locs cells slots I)⟩
  | pop2 =>
    replace hs := xG_inv hs
    obtain ⟨rfl, hs⟩ := hs
    replace hs := xqV_inv hs
    obtain ⟨v, sk, rfl, hs⟩ := hs
    replace hs := xif_inv hs
    obtain ⟨h1, hs⟩ := hs
    cases hs
    exact ⟨xle.rf, fun _ _ k H LS locs cells slots I => lv_pop2_2 hx hb hdec h1 (k H LS locs cells slots I)⟩
  | dup2_x1 =>
    replace hs := xG_inv hs
    obtain ⟨rfl, hs⟩ := hs
    replace hs := xqV_inv hs
    obtain ⟨v, sk, rfl, hs⟩ := hs
    replace hs := xqV_inv hs
    obtain ⟨w, sk, rfl, hs⟩ := hs
    replace hs := xif_inv hs
    obtain ⟨⟨h1, h2⟩, hs⟩ := hs
    cases hs
    exact ⟨xle.rf, fun _ _ k H LS locs cells slots I => lv_dup2_x1_2 hx hb hdec h1 h2 (k H LS locs cells slots I)⟩
  | dup2_x2 =>
    replace hs := xG_inv hs
    obtain ⟨rfl, hs⟩ := hs
    replace hs := xqV_inv hs
    obtain ⟨v, sk, rfl, hs⟩ := hs
    replace hs := xqV_inv hs
    obtain ⟨w, sk, rfl, hs⟩ := hs
    replace hs := xqV_inv hs
    obtain ⟨u, sk, rfl, hs⟩ := hs
    replace hs := xif_inv hs
    obtain ⟨⟨h1, h2, h3⟩, hs⟩ := hs
    cases hs
    exact ⟨xle.rf, fun _ _ k H LS locs cells slots I => lv_dup2_x2_2 hx hb hdec h1 h2 h3 (k H LS locs cells slots I)⟩
  | dup2 =>
    replace hs := xG_inv hs
    obtain ⟨rfl, hs⟩ := hs
    replace hs := xqV_inv hs
    obtain ⟨v, sk, rfl, hs⟩ := hs
    split at hs
    · rename_i h1
      cases hs
      exact ⟨xle.rf, fun _ _ k H LS locs cells slots I => lv_dup2_2 hx hb hdec h1 (k H LS locs cells slots I)⟩
    · replace hs := xqV_inv hs
      obtain ⟨w, sk, rfl, hs⟩ := hs
      replace hs := xif_inv hs
      obtain ⟨⟨h1, h2⟩, hs⟩ := hs
      cases hs
      exact ⟨xle.rf, fun _ _ k H LS locs cells slots I => lv_dup2_11 hx hb hdec h1 h2 (k H LS locs cells slots I)⟩
  | ifCond c off =>
    replace hs := xG_inv hs
    obtain ⟨rfl, hs⟩ := hs
    replace hs := xqI_inv hs
    obtain ⟨x, sk, rfl, hs⟩ := hs
    replace hs := xjc_inv hs
    obtain ⟨h0, ⟨hc, hs⟩ | ⟨hc, hs⟩⟩ := hs
    all_goals cases hs
    all_goals cases c
    all_goals simp only [xcb, decide_eq_true_eq, decide_eq_false_iff_not, Bool.not_eq_true', Bool.not_eq_false'] at hc
    · exact ⟨xle.rf, fun _ _ k H LS locs cells slots I => lv_if_eq hx hb hdec (xtgt h0) (fun _ => (k H LS locs cells slots I)) (fun hn => absurd hc hn)⟩
    · exact ⟨xle.rf, fun _ _ k H LS locs cells slots I => lv_if_ne hx hb hdec (xtgt h0) (fun _ => (k H LS locs cells slots I)) (fun hn => absurd hn hc)⟩
    · exact ⟨xle.rf, fun _ _ k H LS locs cells slots I => lv_if_lt hx hb hdec (xtgt h0) (fun _ => (k H LS locs cells slots I)) (fun hn => absurd hc hn)⟩
    · exact ⟨xle.rf, fun _ _ k H LS locs cells slots I => lv_if_ge hx hb hdec (xtgt h0) (fun _ => (k H LS locs cells slots I)) (fun hn => absurd hc hn)⟩
    · exact ⟨xle.rf, fun _ _ k H LS locs cells slots I => lv_if_gt hx hb hdec (xtgt h0) (fun _ => (k H LS locs cells slots I)) (fun hn => absurd hc hn)⟩
    · exact ⟨xle.rf, fun _ _ k H LS locs cells slots I => lv_if_le hx hb hdec (xtgt h0) (fun _ => (k H LS locs cells slots I)) (fun hn => absurd hc hn)⟩
    · exact ⟨xle.rf, fun _ _ k H LS locs cells slots I => lv_if_eq hx hb hdec (xtgt h0) (fun hn => absurd hn hc) (fun _ => (k H LS locs cells slots I))⟩
    · exact ⟨xle.rf, fun _ _ k H LS locs cells slots I => lv_if_ne hx hb hdec (xtgt h0) (fun hn => absurd hc hn) (fun _ => (k H LS locs cells slots I))⟩
    · exact ⟨xle.rf, fun _ _ k H LS locs cells slots I => lv_if_lt hx hb hdec (xtgt h0) (fun hn => absurd hn hc) (fun _ => (k H LS locs cells slots I))⟩
    · exact ⟨xle.rf, fun _ _ k H LS locs cells slots I => lv_if_ge hx hb hdec (xtgt h0) (fun hn => absurd hn hc) (fun _ => (k H LS locs cells slots I))⟩
    · exact ⟨xle.rf, fun _ _ k H LS locs cells slots I => lv_if_gt hx hb hdec (xtgt h0) (fun hn => absurd hn hc) (fun _ => (k H LS locs cells slots I))⟩
    · exact ⟨xle.rf, fun _ _ k H LS locs cells slots I => lv_if_le hx hb hdec (xtgt h0) (fun hn => absurd hn hc) (fun _ => (k H LS locs cells slots I))⟩
  | if_icmp c off =>
    replace hs := xG_inv hs
    obtain ⟨rfl, hs⟩ := hs
    replace hs := xqII_inv hs
    obtain ⟨x, y, sk, rfl, hs⟩ := hs
    replace hs := xjc_inv hs
    obtain ⟨h0, ⟨hc, hs⟩ | ⟨hc, hs⟩⟩ := hs
    all_goals cases hs
    all_goals cases c
    all_goals simp only [xcb, decide_eq_true_eq, decide_eq_false_iff_not, Bool.not_eq_true', Bool.not_eq_false'] at hc
    · exact ⟨xle.rf, fun _ _ k H LS locs cells slots I => lv_icmp_eq hx hb hdec (xtgt h0) (fun _ => (k H LS locs cells slots I)) (fun hn => absurd hc hn)⟩
    · exact ⟨xle.rf, fun _ _ k H LS locs cells slots I => lv_icmp_ne hx hb hdec (xtgt h0) (fun _ => (k H LS locs cells slots I)) (fun hn => absurd hn hc)⟩
    · exact ⟨xle.rf, fun _ _ k H LS locs cells slots I => lv_icmp_lt hx hb hdec (xtgt h0) (fun _ => (k H LS locs cells slots I)) (fun hn => absurd hc hn)⟩
    · exact ⟨xle.rf, fun _ _ k H LS locs cells slots I => lv_icmp_ge hx hb hdec (xtgt h0) (fun _ => (k H LS locs cells slots I)) (fun hn => absurd hc hn)⟩
    · exact ⟨xle.rf, fun _ _ k H LS locs cells slots I => lv_icmp_gt hx hb hdec (xtgt h0) (fun _ => (k H LS locs cells slots I)) (fun hn => absurd hc hn)⟩
    · exact ⟨xle.rf, fun _ _ k H LS locs cells slots I => lv_icmp_le hx hb hdec (xtgt h0) (fun _ => (k H LS locs cells slots I)) (fun hn => absurd hc hn)⟩
    · exact ⟨xle.rf, fun _ _ k H LS locs cells slots I => lv_icmp_eq hx hb hdec (xtgt h0) (fun hn => absurd hn hc) (fun _ => (k H LS locs cells slots I))⟩
    · exact ⟨xle.rf, fun _ _ k H LS locs cells slots I => lv_icmp_ne hx hb hdec (xtgt h0) (fun hn => absurd hc hn) (fun _ => (k H LS locs cells slots I))⟩
    · exact ⟨xle.rf, fun _ _ k H LS locs cells slots I => lv_icmp_lt hx hb hdec (xtgt h0) (fun hn => absurd hn hc) (fun _ => (k H LS locs cells slots I))⟩
    · exact ⟨xle.rf, fun _ _ k H LS locs cells slots I => lv_icmp_ge hx hb hdec (xtgt h0) (fun hn => absurd hn hc) (fun _ => (k H LS locs cells slots I))⟩
    · exact ⟨xle.rf, fun _ _ k H LS locs cells slots I => lv_icmp_gt hx hb hdec (xtgt h0) (fun hn => absurd hn hc) (fun _ => (k H LS locs cells slots I))⟩
    · exact ⟨xle.rf, fun _ _ k H LS locs cells slots I => lv_icmp_le hx hb hdec (xtgt h0) (fun hn => absurd hn hc) (fun _ => (k H LS locs cells slots I))⟩
  | if_acmp c off =>
    replace hs := xG_inv hs
    obtain ⟨rfl, hs⟩ := hs
    replace hs := xqA_inv hs
    obtain ⟨y, sk, rfl, hs⟩ := hs
    replace hs := xqA_inv hs
    obtain ⟨x, sk, rfl, hs⟩ := hs
    replace hs := xjc_inv hs
    obtain ⟨h0, ⟨hc, hs⟩ | ⟨hc, hs⟩⟩ := hs
    all_goals cases hs
    all_goals cases c
    all_goals simp only [decide_eq_true_eq, decide_eq_false_iff_not, Bool.not_eq_true', Bool.not_eq_false'] at hc
    · exact ⟨xle.rf, fun _ _ k H LS locs cells slots I => lv_acmp_eq hx hb hdec (xtgt h0) (fun _ => (k H LS locs cells slots I)) (fun hn => absurd hc hn)⟩
    · exact ⟨xle.rf, fun _ _ k H LS locs cells slots I => lv_acmp_ne hx hb hdec (xtgt h0) (fun _ => (k H LS locs cells slots I)) (fun hn => absurd hn hc)⟩
    · exact ⟨xle.rf, fun _ _ k H LS locs cells slots I => lv_acmp_eq hx hb hdec (xtgt h0) (fun hn => absurd hn hc) (fun _ => (k H LS locs cells slots I))⟩
    · exact ⟨xle.rf, fun _ _ k H LS locs cells slots I => lv_acmp_ne hx hb hdec (xtgt h0) (fun hn => absurd hc hn) (fun _ => (k H LS locs cells slots I))⟩
  | ifnull off =>
    replace hs := xG_inv hs
    obtain ⟨rfl, hs⟩ := hs
    replace hs := xqA_inv hs
    obtain ⟨r, sk, rfl, hs⟩ := hs
    replace hs := xjc_inv hs
    obtain ⟨h0, hs⟩ := hs
    cases r with
    | none =>
      rcases hs with ⟨hc, hs⟩ | ⟨hc, hs⟩
      all_goals first | cases hc | skip
      cases hs
      exact ⟨xle.rf, fun _ _ k H LS locs cells slots I => lv_ifnullN hx hb hdec (xtgt h0) (k H LS locs cells slots I)⟩
    | some a =>
      rcases hs with ⟨hc, hs⟩ | ⟨hc, hs⟩
      all_goals first | cases hc | skip
      cases hs
      exact ⟨xle.rf, fun _ _ k H LS locs cells slots I => lv_ifnull hx hb hdec (k H LS locs cells slots I)⟩
  | ifnonnull off =>
    replace hs := xG_inv hs
    obtain ⟨rfl, hs⟩ := hs
    replace hs := xqA_inv hs
    obtain ⟨r, sk, rfl, hs⟩ := hs
    replace hs := xjc_inv hs
    obtain ⟨h0, hs⟩ := hs
    cases r with
    | none =>
      rcases hs with ⟨hc, hs⟩ | ⟨hc, hs⟩
      all_goals first | cases hc | skip
      cases hs
      exact ⟨xle.rf, fun _ _ k H LS locs cells slots I => lv_ifnonnullN hx hb hdec (k H LS locs cells slots I)⟩
    | some a =>
      rcases hs with ⟨hc, hs⟩ | ⟨hc, hs⟩
      all_goals first | cases hc | skip
      cases hs
      exact ⟨xle.rf, fun _ _ k H LS locs cells slots I => lv_ifnonnull hx hb hdec (xtgt h0) (k H LS locs cells slots I)⟩
  | goto off =>
    replace hs := xG_inv hs
    obtain ⟨rfl, hs⟩ := hs
    replace hs := xjt_inv hs
    obtain ⟨h0, hs⟩ := hs
    cases hs
    exact ⟨xle.rf, fun _ _ k H LS locs cells slots I => lv_goto hx hb hdec (xtgt h0) (k H LS locs cells slots I)⟩
  | tableswitch dflt lo hi offs =>
    replace hs := xqI_inv hs
    obtain ⟨x, sk, rfl, hs⟩ := hs
    split at hs
    · rename_i h1
      replace hs := xjt_inv hs
      obtain ⟨h0, hs⟩ := hs
      cases hs
      exact ⟨xle.rf, fun _ _ k H LS locs cells slots I => lv_tableOut hx hb hdec h1 (xtgt h0) (k H LS locs cells slots I)⟩
    · rename_i h1
      split at hs
      · rename_i off he
        replace hs := xjt_inv hs
        obtain ⟨h0, hs⟩ := hs
        cases hs
        exact ⟨xle.rf, fun _ _ k H LS locs cells slots I => lv_tableIn hx hb hdec (fun q => h1 (Or.inl q)) (fun q => h1 (Or.inr q)) he (xtgt h0) (k H LS locs cells slots I)⟩
      · cases hs
  | lookupswitch dflt ps =>
    replace hs := xqI_inv hs
    obtain ⟨x, sk, rfl, hs⟩ := hs
    replace hs := xif_inv hs
    obtain ⟨h1, hs⟩ := hs
    replace hs := xjt_inv hs
    obtain ⟨h0, hs⟩ := hs
    cases hs
    exact ⟨xle.rf, fun _ _ k H LS locs cells slots I => lv_lookup hx hb hdec h1 rfl (xtgt h0) (k H LS locs cells slots I)⟩
  | getfield i =>
    replace hs := xG_inv hs
    obtain ⟨rfl, hs⟩ := hs
    split at hs
    · rename_i ci k0 hf
      replace hs := xqR_inv hs
      obtain ⟨a, sk, rfl, hs⟩ := hs
      replace hs := xgf_inv hs
      obtain ⟨fs, v, ha, hv, hs⟩ := hs
      cases hs
      exact ⟨xle.rf, fun _ _ k => xw_getf hx hb hown hts hK hf ha hv hdec k⟩
    · cases hs
  | putfield i =>
    replace hs := xG_inv hs
    obtain ⟨rfl, hs⟩ := hs
    split at hs
    · rename_i ci k0 hf
      replace hs := xqV_inv hs
      obtain ⟨v, sk, rfl, hs⟩ := hs
      replace hs := xqR_inv hs
      obtain ⟨a, sk, rfl, hs⟩ := hs
      replace hs := xob_inv hs
      obtain ⟨fs, ha, hs⟩ := hs
      replace hs := xif_inv hs
      obtain ⟨⟨h1, h2, h3⟩, hs⟩ := hs
      cases hs
      exact ⟨⟨rfl, Nat.le_refl _, Nat.le_refl _⟩, fun _ _ k => xw_putf hx hb hown hts hK hini hf ha h1 h2 h3 hdec k⟩
    · cases hs
  | new i =>
    replace hs := xG_inv hs
    obtain ⟨rfl, hs⟩ := hs
    split at hs
    · rename_i ci hf
      cases hs
      exact ⟨⟨rfl, Nat.le_succ _, Nat.le_add_right _ _⟩, fun hC hS k => xw_new hx hb hown hts hK hb0 hf hdec hC hS k⟩
    · cases hs
  | newarray ty =>
    replace hs := xG_inv hs
    obtain ⟨rfl, hs⟩ := hs
    replace hs := xqI_inv hs
    obtain ⟨n, sk, rfl, hs⟩ := hs
    split at hs
    · rename_i t hf
      replace hs := xif_inv hs
      obtain ⟨⟨h1, h2⟩, hs⟩ := hs
      cases hs
      exact ⟨⟨rfl, Nat.le_succ _, Nat.le_add_right _ _⟩, fun hC hS k => xw_newa hx hb hts hK hb0 hf h1 h2 hdec hC hS k⟩
    · cases hs
  | anewarray i =>
    replace hs := xG_inv hs
    obtain ⟨rfl, hs⟩ := hs
    replace hs := xqI_inv hs
    obtain ⟨n, sk, rfl, hs⟩ := hs
    split at hs
    · rename_i t hf
      replace hs := xif_inv hs
      obtain ⟨⟨h1, h2⟩, hs⟩ := hs
      cases hs
      exact ⟨⟨rfl, Nat.le_succ _, Nat.le_add_right _ _⟩, fun hC hS k => xw_anew hx hb hown hts hK hb0 hf h1 h2 hdec hC hS k⟩
    · cases hs
  | arraylength =>
    replace hs := xG_inv hs
    obtain ⟨rfl, hs⟩ := hs
    replace hs := xqR_inv hs
    obtain ⟨a, sk, rfl, hs⟩ := hs
    replace hs := xar_inv hs
    obtain ⟨t, n, z, ha, hs⟩ := hs
    replace hs := xif_inv hs
    obtain ⟨ht, hs⟩ := hs
    cases hs
    exact ⟨xle.rf, fun _ _ k H LS locs cells slots I => (by
      obtain ⟨scr, u1, u2, u3, u4, u5⟩ := (I.1.2 a _ ha).1.isA (hK.2.1 t _ (List.getElem?_eq_getElem (l := x_at) ht)).1
      exact W.alen (n := Int32.ofNat n) hx hb u1 u2 (by rw [u4]) rfl rfl hdec (k H LS locs cells slots I))⟩
  | aaload =>
    replace hs := xG_inv hs
    obtain ⟨rfl, hs⟩ := hs
    replace hs := xqIR_inv hs
    obtain ⟨a, i, sk, rfl, hs⟩ := hs
    replace hs := xar_inv hs
    obtain ⟨t, n, z, ha, hs⟩ := hs
    replace hs := xif_inv hs
    obtain ⟨⟨hq, hin⟩, hs⟩ := hs
    cases hs
    obtain ⟨C, hat, hnS, hcl⟩ := x_isq_ok hq
    exact ⟨xle.rf, fun _ _ k H LS locs cells slots I => W.aald (ty := .object C) hx hb ((I.1.2 a _ ha).1.arr hnS) ((hK.2.1 t _ hat).1 n z) rfl (fun q => by cases q) (xw_in hin) (arrV_read _ _ (xs_in hin)) rfl rfl hdec (k H LS locs cells slots I)⟩
  | aastore =>
    replace hs := xG_inv hs
    obtain ⟨rfl, hs⟩ := hs
    replace hs := xqA_inv hs
    obtain ⟨r, sk, rfl, hs⟩ := hs
    have hs1 := xqIR_inv hs
    obtain ⟨a, i, sk', rfl, hs0⟩ := hs1
    obtain ⟨h1, h2⟩ := xw_aast (p := p) (l := l) (e := e) (R := R) (s := s) (m := m) (args := args) (below := below) (meth := meth) (c := c) (Q := Q) (b0 := b0) (c0 := c0) (s0 := s0) hx hb hK hdec hs
    exact ⟨h1, fun _ _ k => h2 k⟩
  | iaload =>
    replace hs := xG_inv hs
    obtain ⟨rfl, hs⟩ := hs
    replace hs := xald_inv hs
    obtain ⟨a, i, sk, t, n, z, rfl, ha, hat, hin, hs⟩ := hs
    cases hs
    exact ⟨xle.rf, fun _ _ k H LS locs cells slots I => (by
      obtain ⟨scr, u1, u2, u3, u4, u5⟩ := (I.1.2 a _ ha).1.isA (hK.2.1 t _ (x_at_I hat)).1
      exact W.iald hx hb u1 u2 u3 (by rw [u4]; exact hin) (u5 _ (xs_in hin)) rfl rfl hdec (k H LS locs cells slots I))⟩
  | laload =>
    replace hs := xG_inv hs
    obtain ⟨rfl, hs⟩ := hs
    replace hs := xald_inv hs
    obtain ⟨a, i, sk, t, n, z, rfl, ha, hat, hin, hs⟩ := hs
    cases hs
    exact ⟨xle.rf, fun _ _ k H LS locs cells slots I => W.lald hx hb ((I.1.2 a _ ha).1.arr (by rcases hat with rfl | rfl <;> decide)) ((hK.2.1 t _ (x_at_J hat)).1 n z) (fun q => by cases q) (xw_in hin) (arrV_read _ _ (xs_in hin)) rfl rfl hdec (k H LS locs cells slots I)⟩
  | baload =>
    replace hs := xG_inv hs
    obtain ⟨rfl, hs⟩ := hs
    replace hs := xald_inv hs
    obtain ⟨a, i, sk, t, n, z, rfl, ha, hat, hin, hs⟩ := hs
    cases hs
    rcases hat with rfl | rfl
    · exact ⟨xle.rf, fun _ _ k H LS locs cells slots I => W.bald hx hb ((I.1.2 a _ ha).1.arr x_nS_B) ((hK.2.1 _ _ x_at_B).1 n z) (fun q => by cases q) (xw_in hin) (arrV_read _ _ (xs_in hin)) rfl rfl hdec (k H LS locs cells slots I)⟩
    · exact ⟨xle.rf, fun _ _ k H LS locs cells slots I => W.zald hx hb ((I.1.2 a _ ha).1.arr x_nS_Z) ((hK.2.1 _ _ x_at_Z).1 n z) (fun q => by cases q) (xw_in hin) (arrV_read _ _ (xs_in hin)) rfl rfl hdec (k H LS locs cells slots I)⟩
  | iastore =>
    replace hs := xG_inv hs
    obtain ⟨rfl, hs⟩ := hs
    replace hs := xqI_inv hs
    obtain ⟨x, sk, rfl, hs⟩ := hs
    replace hs := xast_inv hs
    obtain ⟨a, i, sk, n, z, rfl, ha, hin, hs⟩ := hs
    cases hs
    exact ⟨⟨rfl, Nat.le_refl _, Nat.le_refl _⟩, fun _ _ k H LS locs cells slots I => W.iast hx hb ((I.1.2 a _ ha).1.arr x_nS_I) ((hK.2.1 _ _ (x_at_I (Or.inl rfl))).1 n z) (fun q => by cases q) (xw_in hin) rfl rfl hdec (fun H1 e1 e2 e3 => xw_sto I ((I.1.2 a _ ha).2 x_nS_I) x_nS_I k e1 e2 e3)⟩
  | lastore =>
    replace hs := xG_inv hs
    obtain ⟨rfl, hs⟩ := hs
    replace hs := xqL_inv hs
    obtain ⟨x, sk, rfl, hs⟩ := hs
    replace hs := xast_inv hs
    obtain ⟨a, i, sk, n, z, rfl, ha, hin, hs⟩ := hs
    cases hs
    exact ⟨⟨rfl, Nat.le_refl _, Nat.le_refl _⟩, fun _ _ k H LS locs cells slots I => W.last hx hb ((I.1.2 a _ ha).1.arr x_nS_J) ((hK.2.1 _ _ (x_at_J (Or.inl rfl))).1 n z) (fun q => by cases q) (xw_in hin) rfl rfl hdec (fun H1 e1 e2 e3 => xw_sto I ((I.1.2 a _ ha).2 x_nS_J) x_nS_J k e1 e2 e3)⟩
  | bastore =>
    replace hs := xG_inv hs
    obtain ⟨rfl, hs⟩ := hs
    replace hs := xqI_inv hs
    obtain ⟨x, sk, rfl, hs⟩ := hs
    split at hs
    · rename_i q hq
      cases hs
      obtain ⟨a, i, sk, n, z, rfl, ha, hin, hs⟩ := xast_inv hq
      cases hs
      exact ⟨⟨rfl, Nat.le_refl _, Nat.le_refl _⟩, fun _ _ k H LS locs cells slots I => W.bast hx hb ((I.1.2 a _ ha).1.arr x_nS_B) ((hK.2.1 _ _ x_at_B).1 n z) (fun q => by cases q) (xw_in hin) rfl rfl hdec (fun H1 e1 e2 e3 => xw_sto I ((I.1.2 a _ ha).2 x_nS_B) x_nS_B k e1 e2 e3)⟩
    · replace hs := xast_inv hs
      obtain ⟨a, i, sk, n, z, rfl, ha, hin, hs⟩ := hs
      cases hs
      exact ⟨⟨rfl, Nat.le_refl _, Nat.le_refl _⟩, fun _ _ k H LS locs cells slots I => W.zast hx hb ((I.1.2 a _ ha).1.arr x_nS_Z) ((hK.2.1 _ _ x_at_Z).1 n z) (fun q => by cases q) (xw_in hin) rfl rfl hdec (fun H1 e1 e2 e3 => xw_sto I ((I.1.2 a _ ha).2 x_nS_Z) x_nS_Z k e1 e2 e3)⟩
  | invokestatic i =>
    replace hs := xG_inv hs
    obtain ⟨rfl, hs⟩ := hs
    split at hs
    · rename_i kd jj n hf
      split at hs
      · rename_i hkd
        subst hkd
        replace hs := xif_inv hs
        obtain ⟨hn, hs⟩ := hs
        replace hs := xdone_inv hs
        obtain ⟨r, h1, hroom, hc, hs⟩ := hs
        cases hs
        obtain ⟨hle, hd0, hj, hM⟩ := hcall _ _ _ _ _ hc
        refine ⟨hle, fun hC hS k H LS locs cells slots I => ?_⟩
        have hbc : h.2.1 ≤ h.2.2.1 := by have a1 := I.2.1; have a2 := I.2.2.2.2.2.1; omega
        have hlen : ((st.take n).reverse).length = n := by rw [List.length_reverse, List.length_take]; omega
        have hstk : st = ((st.take n).reverse).reverse ++ st.drop n := by rw [List.reverse_reverse, List.take_append_drop]
        have hrm : cells + (h'.2.2.1 - h.2.2.1) ≤ R.cells ∧ slots + (h'.2.2.2 - h.2.2.2) ≤ R.slots := by
          have a2 := I.2.2.2.2.2; have a3 := hle.2; omega
        obtain ⟨hlink, hstat, hinit, hd⟩ := x_inv_ok0 hf
        exact xw_back I hle k (va_runS (g := F0 m pc LS st) ⟨hx, hb, hml, hown, hts⟩ hM ⟨callB_of n hts (xw_good jj hj) rfl rfl rfl (hts _ hinit) (hts _ hlink) hd (xw_room hj hd0 hRf hRl), hts _ hstat⟩ (xw_pre hK I.1 hbc) rfl hlen I.2.2.1.sz hstk (lv_room hroom) hdec hrm)
      · split at hs
        · rename_i hkd
          subst hkd
          replace hs := xcp_inv hs
          obtain ⟨n1, dp, a, sp, a0, rest, m0, m1, z0, z1, rfl, ha0, ha1, g1, g2, g3, g4, g5, g6, hd0, hroom, hs⟩ := hs
          cases hs
          exact ⟨⟨rfl, Nat.le_refl _, Nat.le_refl _⟩, fun _ _ k => xw_cp hx hb hml hown hts hK hf ha0 ha1 g1 g2 g3 g4 g5 g6 (by omega) (by omega) hroom hdec k⟩
        · split at hs
          · rename_i hkd
            subst hkd
            replace hs := xqII_inv hs
            obtain ⟨x, y, sk, rfl, hs⟩ := hs
            replace hs := xnat_inv hs
            obtain ⟨⟨hd0, hroom⟩, hs⟩ := hs
            cases hs
            obtain ⟨w1, w2, w3, w4⟩ := x_inv_ok8 hf
            exact ⟨xle.rf, fun hC hS k H LS locs cells slots I => va_mmin hx hb (hml.trans I.2.2.1.sz.symm) hown (hts _ w1) (hts _ w2) (hts _ w3) (hts _ w4) (by omega) (by omega) (by have a2 := I.2.2.2.2.2; omega) (by have a2 := I.2.2.2.2.2; omega) hdec (k H LS locs cells slots I)⟩
          · split at hs
            · rename_i hkd
              subst hkd
              replace hs := xqII_inv hs
              obtain ⟨x, y, sk, rfl, hs⟩ := hs
              replace hs := xnat_inv hs
              obtain ⟨⟨hd0, hroom⟩, hs⟩ := hs
              cases hs
              obtain ⟨w1, w2, w3, w4⟩ := x_inv_ok9 hf
              exact ⟨xle.rf, fun hC hS k H LS locs cells slots I => va_mmax hx hb (hml.trans I.2.2.1.sz.symm) hown (hts _ w1) (hts _ w2) (hts _ w3) (hts _ w4) (by omega) (by omega) (by have a2 := I.2.2.2.2.2; omega) (by have a2 := I.2.2.2.2.2; omega) hdec (k H LS locs cells slots I)⟩
            · split at hs
              · rename_i hkd
                subst hkd
                replace hs := xqLL_inv hs
                obtain ⟨x, y, sk, rfl, hs⟩ := hs
                replace hs := xnat_inv hs
                obtain ⟨⟨hd0, hroom⟩, hs⟩ := hs
                cases hs
                obtain ⟨w1, w2, w3, w4⟩ := x_inv_ok10 hf
                exact ⟨xle.rf, fun hC hS k H LS locs cells slots I => va_mmin_long hx hb (hml.trans I.2.2.1.sz.symm) hown (hts _ w1) (hts _ w2) (hts _ w3) (hts _ w4) (by omega) (by omega) (by have a2 := I.2.2.2.2.2; omega) (by have a2 := I.2.2.2.2.2; omega) hdec (k H LS locs cells slots I)⟩
              · cases hs
    · cases hs
  | invokevirtual i =>
    replace hs := xG_inv hs
    obtain ⟨rfl, hs⟩ := hs
    split at hs
    · rename_i kd jj n hf
      replace hs := xif_inv hs
      obtain ⟨⟨hkd, hn⟩, hs⟩ := hs
      subst hkd
      replace hs := xqR_inv hs
      obtain ⟨b, rest, hdr, hs⟩ := hs
      replace hs := xis_inv hs
      obtain ⟨fs, hrc, hs⟩ := hs
      replace hs := xdone_inv hs
      obtain ⟨r, h1, hroom, hc, hs⟩ := hs
      cases hs
      obtain ⟨hle, hd0, hj, hM⟩ := hcall _ _ _ _ _ hc
      refine ⟨hle, fun hC hS k H LS locs cells slots I => ?_⟩
      have hbc : h.2.1 ≤ h.2.2.1 := by have a1 := I.2.1; have a2 := I.2.2.2.2.2.1; omega
      have hlen : ((st.take n).reverse).length = n := by rw [List.length_reverse, List.length_take]; omega
      have hstk : st = ((st.take n).reverse).reverse ++ .ref b :: rest := by rw [List.reverse_reverse, ← hdr, List.take_append_drop]
      have hrm : cells + (h'.2.2.1 - h.2.2.1) ≤ R.cells ∧ slots + (h'.2.2.2 - h.2.2.2) ≤ R.slots := by
        have a2 := I.2.2.2.2.2; have a3 := hle.2; omega
      obtain ⟨hlink, hinst, hsel, hinit, hrv, hd⟩ := x_inv_ok2 hf
      exact xw_back I hle k (va_runV (g := F0 m pc LS st) ⟨hx, hb, hml, hown, hts⟩ hM ⟨callB_of n hts (xw_good jj hj) rfl rfl rfl (hts _ hinit) (hts _ hlink) hd (xw_room hj hd0 hRf hRl), hts _ hinst, hts _ hsel⟩ (xw_preV hK I.1 hbc hj hrv hrc) rfl hlen I.2.2.1.sz hstk (lv_room hroom) hdec hrm)
    · cases hs
  | invokespecial i =>
    replace hs := xG_inv hs
    obtain ⟨rfl, hs⟩ := hs
    split at hs
    · rename_i kd jj n hf
      split at hs
      · rename_i hk6
        subst hk6
        replace hs := xqR_inv hs
        obtain ⟨a, rest, rfl, hs⟩ := hs
        replace hs := xnat_inv hs
        obtain ⟨⟨hd0, hroom⟩, hs⟩ := hs
        cases hs
        obtain ⟨hlink, hinst, hcode⟩ := x_inv_ok6 hf
        refine ⟨xle.rf, fun _ _ k H LS locs cells slots I => ?_⟩
        refine W.objInit hx hb hown (hts _ hlink) (hts _ hinst) (hts _ hcode) rfl (by rw [hml]; exact I.2.2.1.sz) rfl hdec (by omega) ?_ (k H LS locs cells slots I)
        have h8 := lv_room (m := m) (pc := pc) (ls := LS) (rest := .ref a :: st') hroom
        omega
      · replace hs := xif_inv hs
        obtain ⟨⟨hkd, hn⟩, hs⟩ := hs
        replace hs := xqR_inv hs
        obtain ⟨b, rest, hdr, hs⟩ := hs
        replace hs := xdone_inv hs
        obtain ⟨r, h1, hroom, hc, hs⟩ := hs
        cases hs
        obtain ⟨hle, hd0, hj, hM⟩ := hcall _ _ _ _ _ hc
        refine ⟨hle, fun hC hS k H LS locs cells slots I => ?_⟩
        have hbc : h.2.1 ≤ h.2.2.1 := by have a1 := I.2.1; have a2 := I.2.2.2.2.2.1; omega
        have hlen : ((st.take n).reverse).length = n := by rw [List.length_reverse, List.length_take]; omega
        have hstk : st = ((st.take n).reverse).reverse ++ .ref b :: rest := by rw [List.reverse_reverse, ← hdr, List.take_append_drop]
        have hrm : cells + (h'.2.2.1 - h.2.2.1) ≤ R.cells ∧ slots + (h'.2.2.2 - h.2.2.2) ≤ R.slots := by
          have a2 := I.2.2.2.2.2; have a3 := hle.2; omega
        rcases hkd with rfl | rfl
        · obtain ⟨hlink, hinst, hinit, hnm, hrt, hd⟩ := x_inv_ok4 hf
          exact xw_back I hle k (va_runI (g := F0 m pc LS st) ⟨hx, hb, hml, hown, hts⟩ hM ⟨callB_of n hts (xw_good jj hj) (by unfold x_ws x_code; rw [hrt]) rfl rfl (hts _ hinit) (hts _ hlink) hd (xw_room hj hd0 hRf hRl), hnm, hts _ hinst⟩ (xw_pre hK I.1 hbc) rfl hlen I.2.2.1.sz hstk (lv_room hroom) hdec hrm)
        · obtain ⟨hlink, hinst, hinit, hnm, hrt, hd⟩ := x_inv_ok5 hf
          exact xw_back I hle k (va_runIN (g := F0 m pc LS st) ⟨hx, hb, hml, hown, hts⟩ hM ⟨va_cnB n hts (xw_good jj hj) (by unfold x_ws x_code; rw [hrt]) rfl rfl (hK.2.2.2 _ _ _ _ hlink) (hts _ hinit) hd (xw_room hj hd0 hRf hRl), hnm, hts _ hinst⟩ (xw_pre hK I.1 hbc) rfl hlen I.2.2.1.sz hstk (lv_room hroom) hdec hrm)
    · cases hs
  | _ => cases hs
end Step
