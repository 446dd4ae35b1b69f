set_option maxHeartbeats 8000000 in
set_option maxRecDepth 100000 in
theorem xs_le {j d : Nat} {call : Nat → List Value → xH → Option xR} {ins : Jvm.ClassFile.Instr} {len pc pc' : Nat} {ls ls' : xL} {st st' : List Value} {h h' : xH} (hcall : ∀ jj as h r h1, call jj as h = some (r, h1) → xle h h1)
    (hs : xs d call j ins len pc ls st h = some (pc', ls', st', h')) : xle h h' := by
  cases ins with
  | iload_n i =>
    replace hs := xG_inv hs
    obtain ⟨rfl, hs⟩ := hs
    replace hs := xlc_inv hs
    obtain ⟨v, he, hs⟩ := hs
    replace hs := xcI_inv hs
    obtain ⟨x, rfl, hs⟩ := hs
    cases hs
    exact xle.rf
  | iload i =>
    replace hs := xG_inv hs
    obtain ⟨rfl, hs⟩ := hs
    replace hs := xlc_inv hs
    obtain ⟨v, he, hs⟩ := hs
    replace hs := xcI_inv hs
    obtain ⟨x, rfl, hs⟩ := hs
    cases hs
    exact xle.rf
  | lload_n i =>
    replace hs := xG_inv hs
    obtain ⟨rfl, hs⟩ := hs
    replace hs := xlc_inv hs
    obtain ⟨v, he, hs⟩ := hs
    replace hs := xcL_inv hs
    obtain ⟨x, rfl, hs⟩ := hs
    cases hs
    exact xle.rf
  | lload i =>
    replace hs := xG_inv hs
    obtain ⟨rfl, hs⟩ := hs
    replace hs := xlc_inv hs
    obtain ⟨v, he, hs⟩ := hs
    replace hs := xcL_inv hs
    obtain ⟨x, rfl, hs⟩ := hs
    cases hs
    exact xle.rf
  | aload_n i =>
    replace hs := xG_inv hs
    obtain ⟨rfl, hs⟩ := hs
    replace hs := xlc_inv hs
    obtain ⟨v, he, hs⟩ := hs
    replace hs := xcA_inv hs
    obtain ⟨⟨a, rfl⟩ | rfl, hs⟩ := hs
    · cases hs
      exact xle.rf
    · cases hs
      exact xle.rf
  | aload i =>
    replace hs := xG_inv hs
    obtain ⟨rfl, hs⟩ := hs
    replace hs := xlc_inv hs
    obtain ⟨v, he, hs⟩ := hs
    replace hs := xcA_inv hs
    obtain ⟨⟨a, rfl⟩ | rfl, hs⟩ := hs
    · cases hs
      exact xle.rf
    · cases hs
      exact xle.rf
  | istore_n i =>
    replace hs := xG_inv hs
    obtain ⟨rfl, hs⟩ := hs
    replace hs := xqI_inv hs
    obtain ⟨x, sk, rfl, hs⟩ := hs
    replace hs := xif_inv hs
    obtain ⟨hi, hs⟩ := hs
    cases hs
    exact xle.rf
  | istore i =>
    replace hs := xG_inv hs
    obtain ⟨rfl, hs⟩ := hs
    replace hs := xqI_inv hs
    obtain ⟨x, sk, rfl, hs⟩ := hs
    replace hs := xif_inv hs
    obtain ⟨hi, hs⟩ := hs
    cases hs
    exact xle.rf
  | lstore_n i =>
    replace hs := xG_inv hs
    obtain ⟨rfl, hs⟩ := hs
    replace hs := xqL_inv hs
    obtain ⟨x, sk, rfl, hs⟩ := hs
    replace hs := xif_inv hs
    obtain ⟨hi, hs⟩ := hs
    cases hs
    exact xle.rf
  | lstore i =>
    replace hs := xG_inv hs
    obtain ⟨rfl, hs⟩ := hs
    replace hs := xqL_inv hs
    obtain ⟨x, sk, rfl, hs⟩ := hs
    replace hs := xif_inv hs
    obtain ⟨hi, hs⟩ := hs
    cases hs
    exact xle.rf
  | astore_n i =>
    replace hs := xG_inv hs
    obtain ⟨rfl, hs⟩ := hs
    replace hs := xqA_inv hs
    obtain ⟨r, sk, rfl, hs⟩ := hs
    replace hs := xif_inv hs
    obtain ⟨hi, hs⟩ := hs
    cases hs
    cases r with
    | some a => exact xle.rf
    | none => exact xle.rf
  | astore i =>
    replace hs := xG_inv hs
    obtain ⟨rfl, hs⟩ := hs
    replace hs := xqA_inv hs
    obtain ⟨r, sk, rfl, hs⟩ := hs
    replace hs := xif_inv hs
    obtain ⟨hi, hs⟩ := hs
    cases hs
    cases r with
    | some a => exact xle.rf
    | none => exact xle.rf
  | iinc i n =>
    replace hs := xG_inv hs
    obtain ⟨rfl, hs⟩ := hs
    replace hs := xlc_inv hs
    obtain ⟨v, he, hs⟩ := hs
    replace hs := xcI_inv hs
    obtain ⟨x, rfl, hs⟩ := hs
    replace hs := xif_inv hs
    obtain ⟨hi, hs⟩ := hs
    cases hs
    exact xle.rf
  | iconst n =>
    replace hs := xG_inv hs
    obtain ⟨rfl, hs⟩ := hs
    cases hs
    exact xle.rf
  | bipush n =>
    replace hs := xG_inv hs
    obtain ⟨rfl, hs⟩ := hs
    cases hs
    exact xle.rf
  | sipush n =>
    replace hs := xG_inv hs
    obtain ⟨rfl, hs⟩ := hs
    cases hs
    exact xle.rf
  | lconst n =>
    replace hs := xG_inv hs
    obtain ⟨rfl, hs⟩ := hs
    cases hs
    exact xle.rf
  | aconst_null =>
    replace hs := xG_inv hs
    obtain ⟨rfl, hs⟩ := hs
    cases hs
    exact xle.rf
  | ldc i =>
    replace hs := xG_inv hs
    obtain ⟨rfl, hs⟩ := hs
    split at hs
    · rename_i v he
      cases hs
      exact xle.rf
    · cases hs
  | ldc_w i =>
    replace hs := xG_inv hs
    obtain ⟨rfl, hs⟩ := hs
    split at hs
    · rename_i v he
      cases hs
      exact xle.rf
    · cases hs
  | ldc2_w i =>
    replace hs := xG_inv hs
    obtain ⟨rfl, hs⟩ := hs
    split at hs
    · rename_i v he
      cases hs
      exact xle.rf
    · cases hs
  | iadd =>
    replace hs := xG_inv hs
    obtain ⟨rfl, hs⟩ := hs
    replace hs := xqII_inv hs
    obtain ⟨x, y, sk, rfl, hs⟩ := hs
    cases hs
    exact xle.rf
  | isub =>
    replace hs := xG_inv hs
    obtain ⟨rfl, hs⟩ := hs
    replace hs := xqII_inv hs
    obtain ⟨x, y, sk, rfl, hs⟩ := hs
    cases hs
    exact xle.rf
  | imul =>
    replace hs := xG_inv hs
    obtain ⟨rfl, hs⟩ := hs
    replace hs := xqII_inv hs
    obtain ⟨x, y, sk, rfl, hs⟩ := hs
    cases hs
    exact xle.rf
  | iand =>
    replace hs := xG_inv hs
    obtain ⟨rfl, hs⟩ := hs
    replace hs := xqII_inv hs
    obtain ⟨x, y, sk, rfl, hs⟩ := hs
    cases hs
    exact xle.rf
  | ior =>
    replace hs := xG_inv hs
    obtain ⟨rfl, hs⟩ := hs
    replace hs := xqII_inv hs
    obtain ⟨x, y, sk, rfl, hs⟩ := hs
    cases hs
    exact xle.rf
  | ixor =>
    replace hs := xG_inv hs
    obtain ⟨rfl, hs⟩ := hs
    replace hs := xqII_inv hs
    obtain ⟨x, y, sk, rfl, hs⟩ := hs
    cases hs
    exact xle.rf
  | ishl =>
    replace hs := xG_inv hs
    obtain ⟨rfl, hs⟩ := hs
    replace hs := xqII_inv hs
    obtain ⟨x, y, sk, rfl, hs⟩ := hs
    cases hs
    exact xle.rf
  | ishr =>
    replace hs := xG_inv hs
    obtain ⟨rfl, hs⟩ := hs
    replace hs := xqII_inv hs
    obtain ⟨x, y, sk, rfl, hs⟩ := hs
    cases hs
    exact xle.rf
  | iushr =>
    replace hs := xG_inv hs
    obtain ⟨rfl, hs⟩ := hs
    replace hs := xqII_inv hs
    obtain ⟨x, y, sk, rfl, hs⟩ := hs
    cases hs
    exact xle.rf
  | ladd =>
    replace hs := xG_inv hs
    obtain ⟨rfl, hs⟩ := hs
    replace hs := xqLL_inv hs
    obtain ⟨x, y, sk, rfl, hs⟩ := hs
    cases hs
    exact xle.rf
  | lsub =>
    replace hs := xG_inv hs
    obtain ⟨rfl, hs⟩ := hs
    replace hs := xqLL_inv hs
    obtain ⟨x, y, sk, rfl, hs⟩ := hs
    cases hs
    exact xle.rf
  | lmul =>
    replace hs := xG_inv hs
    obtain ⟨rfl, hs⟩ := hs
    replace hs := xqLL_inv hs
    obtain ⟨x, y, sk, rfl, hs⟩ := hs
    cases hs
    exact xle.rf
  | land =>
    replace hs := xG_inv hs
    obtain ⟨rfl, hs⟩ := hs
    replace hs := xqLL_inv hs
    obtain ⟨x, y, sk, rfl, hs⟩ := hs
    cases hs
    exact xle.rf
  | lor =>
    replace hs := xG_inv hs
    obtain ⟨rfl, hs⟩ := hs
    replace hs := xqLL_inv hs
    obtain ⟨x, y, sk, rfl, hs⟩ := hs
    cases hs
    exact xle.rf
  | lxor =>
    replace hs := xG_inv hs
    obtain ⟨rfl, hs⟩ := hs
    replace hs := xqLL_inv hs
    obtain ⟨x, y, sk, rfl, hs⟩ := hs
    cases hs
    exact xle.rf
  | idiv =>
    replace hs := xG_inv hs
    obtain ⟨rfl, hs⟩ := hs
    replace hs := xqII_inv hs
    obtain ⟨x, y, sk, rfl, hs⟩ := hs
    replace hs := xifn_inv hs
    obtain ⟨hne, hs⟩ := hs
    cases hs
    exact xle.rf
  | irem =>
    replace hs := xG_inv hs
    obtain ⟨rfl, hs⟩ := hs
    replace hs := xqII_inv hs
    obtain ⟨x, y, sk, rfl, hs⟩ := hs
    replace hs := xifn_inv hs
    obtain ⟨hne, hs⟩ := hs
    cases hs
    exact xle.rf
  | ldiv =>
    replace hs := xG_inv hs
    obtain ⟨rfl, hs⟩ := hs
    replace hs := xqLL_inv hs
    obtain ⟨x, y, sk, rfl, hs⟩ := hs
    replace hs := xifn_inv hs
    obtain ⟨hne, hs⟩ := hs
    cases hs
    exact xle.rf
  | lrem =>
    replace hs := xG_inv hs
    obtain ⟨rfl, hs⟩ := hs
    replace hs := xqLL_inv hs
    obtain ⟨x, y, sk, rfl, hs⟩ := hs
    replace hs := xifn_inv hs
    obtain ⟨hne, hs⟩ := hs
    cases hs
    exact xle.rf
  | ineg =>
    replace hs := xG_inv hs
    obtain ⟨rfl, hs⟩ := hs
    replace hs := xqI_inv hs
    obtain ⟨x, sk, rfl, hs⟩ := hs
    cases hs
    exact xle.rf
  | lneg =>
    replace hs := xG_inv hs
    obtain ⟨rfl, hs⟩ := hs
    replace hs := xqL_inv hs
    obtain ⟨x, sk, rfl, hs⟩ := hs
    cases hs
    exact xle.rf
  | lshl =>
    replace hs := xG_inv hs
    obtain ⟨rfl, hs⟩ := hs
    replace hs := xqLI_inv hs
    obtain ⟨x, y, sk, rfl, hs⟩ := hs
    cases hs
    exact xle.rf
  | lshr =>
    replace hs := xG_inv hs
    obtain ⟨rfl, hs⟩ := hs
    replace hs := xqLI_inv hs
    obtain ⟨x, y, sk, rfl, hs⟩ := hs
    cases hs
    exact xle.rf
  | lushr =>
    replace hs := xG_inv hs
    obtain ⟨rfl, hs⟩ := hs
    replace hs := xqLI_inv hs
    obtain ⟨x, y, sk, rfl, hs⟩ := hs
    cases hs
    exact xle.rf
  | lcmp =>
    replace hs := xG_inv hs
    obtain ⟨rfl, hs⟩ := hs
    replace hs := xqLL_inv hs
    obtain ⟨x, y, sk, rfl, hs⟩ := hs
    cases hs
    exact xle.rf
  | i2l =>
    replace hs := xG_inv hs
    obtain ⟨rfl, hs⟩ := hs
    replace hs := xqI_inv hs
    obtain ⟨x, sk, rfl, hs⟩ := hs
    cases hs
    exact xle.rf
  | l2i =>
    replace hs := xG_inv hs
    obtain ⟨rfl, hs⟩ := hs
    replace hs := xqL_inv hs
    obtain ⟨x, sk, rfl, hs⟩ := hs
    cases hs
    exact xle.rf
  | i2b =>
    replace hs := xG_inv hs
    obtain ⟨rfl, hs⟩ := hs
    replace hs := xqI_inv hs
    obtain ⟨x, sk, rfl, hs⟩ := hs
    cases hs
    exact xle.rf
  | i2s =>
    replace hs := xG_inv hs
    obtain ⟨rfl, hs⟩ := hs
    replace hs := xqI_inv hs
    obtain ⟨x, sk, rfl, hs⟩ := hs
    cases hs
    exact xle.rf
  | i2c =>
    replace hs := xG_inv hs
    obtain ⟨rfl, hs⟩ := hs
    replace hs := xqI_inv hs
    obtain ⟨x, sk, rfl, hs⟩ := hs
    cases hs
    exact xle.rf
  | dup =>
    replace hs := xG_inv hs
    obtain ⟨rfl, hs⟩ := hs
    replace hs := xqV_inv hs
    obtain ⟨v, sk, rfl, hs⟩ := hs
    replace hs := xif_inv hs
    obtain ⟨h1, hs⟩ := hs
    cases hs
    exact xle.rf
  | pop =>
    replace hs := xG_inv hs
    obtain ⟨rfl, hs⟩ := hs
    replace hs := xqV_inv hs
    obtain ⟨v, sk, rfl, hs⟩ := hs
    replace hs := xif_inv hs
    obtain ⟨h1, hs⟩ := hs
    cases hs
    exact xle.rf
  | dup_x1 =>
    replace hs := xG_inv hs
    obtain ⟨rfl, hs⟩ := hs
    replace hs := xqV_inv hs
    obtain ⟨v, sk, rfl, hs⟩ := hs
    replace hs := xqV_inv hs
    obtain ⟨w, sk, rfl, hs⟩ := hs
    replace hs := xif_inv hs
    obtain ⟨⟨h1, h2⟩, hs⟩ := hs
    cases hs
    exact xle.rf
  | dup_x2 =>
    replace hs := xG_inv hs
    obtain ⟨rfl, hs⟩ := hs
    replace hs := xqV_inv hs
    obtain ⟨v, sk, rfl, hs⟩ := hs
    replace hs := xqV_inv hs
    obtain ⟨w, sk, rfl, hs⟩ := hs
    replace hs := xqV_inv hs
    obtain ⟨u, sk, rfl, hs⟩ := hs
    replace hs := xif_inv hs
    obtain ⟨⟨h1, h2, h3⟩, hs⟩ := hs
    cases hs
    exact xle.rf
  | pop2 =>
    replace hs := xG_inv hs
    obtain ⟨rfl, hs⟩ := hs
    replace hs := xqV_inv hs
    obtain ⟨v, sk, rfl, hs⟩ := hs
    replace hs := xif_inv hs
    obtain ⟨h1, hs⟩ := hs
    cases hs
    exact xle.rf
  | dup2_x1 =>
    replace hs := xG_inv hs
    obtain ⟨rfl, hs⟩ := hs
    replace hs := xqV_inv hs
    obtain ⟨v, sk, rfl, hs⟩ := hs
    replace hs := xqV_inv hs
    obtain ⟨w, sk, rfl, hs⟩ := hs
    replace hs := xif_inv hs
    obtain ⟨⟨h1, h2⟩, hs⟩ := hs
    cases hs
    exact xle.rf
  | dup2_x2 =>
    replace hs := xG_inv hs
    obtain ⟨rfl, hs⟩ := hs
    replace hs := xqV_inv hs
    obtain ⟨v, sk, rfl, hs⟩ := hs
    replace hs := xqV_inv hs
    obtain ⟨w, sk, rfl, hs⟩ := hs
    replace hs := xqV_inv hs
    obtain ⟨u, sk, rfl, hs⟩ := hs
    replace hs := xif_inv hs
    obtain ⟨⟨h1, h2, h3⟩, hs⟩ := hs
    cases hs
    exact xle.rf
  | dup2 =>
    replace hs := xG_inv hs
    obtain ⟨rfl, hs⟩ := hs
    replace hs := xqV_inv hs
    obtain ⟨v, sk, rfl, hs⟩ := hs
    split at hs
    · rename_i h1
      cases hs
      exact xle.rf
    · replace hs := xqV_inv hs
      obtain ⟨w, sk, rfl, hs⟩ := hs
      replace hs := xif_inv hs
      obtain ⟨⟨h1, h2⟩, hs⟩ := hs
      cases hs
      exact xle.rf
  | ifCond c off =>
    replace hs := xG_inv hs
    obtain ⟨rfl, hs⟩ := hs
    replace hs := xqI_inv hs
    obtain ⟨x, sk, rfl, hs⟩ := hs
    replace hs := xjc_inv hs
    obtain ⟨h0, ⟨hc, hs⟩ | ⟨hc, hs⟩⟩ := hs
    all_goals cases hs
    all_goals cases c
    all_goals simp only [xcb, decide_eq_true_eq, decide_eq_false_iff_not, Bool.not_eq_true', Bool.not_eq_false'] at hc
    · exact xle.rf
    · exact xle.rf
    · exact xle.rf
    · exact xle.rf
    · exact xle.rf
    · exact xle.rf
    · exact xle.rf
    · exact xle.rf
    · exact xle.rf
    · exact xle.rf
    · exact xle.rf
    · exact xle.rf
  | if_icmp c off =>
    replace hs := xG_inv hs
    obtain ⟨rfl, hs⟩ := hs
    replace hs := xqII_inv hs
    obtain ⟨x, y, sk, rfl, hs⟩ := hs
    replace hs := xjc_inv hs
    obtain ⟨h0, ⟨hc, hs⟩ | ⟨hc, hs⟩⟩ := hs
    all_goals cases hs
    all_goals cases c
    all_goals simp only [xcb, decide_eq_true_eq, decide_eq_false_iff_not, Bool.not_eq_true', Bool.not_eq_false'] at hc
    · exact xle.rf
    · exact xle.rf
    · exact xle.rf
    · exact xle.rf
    · exact xle.rf
    · exact xle.rf
    · exact xle.rf
    · exact xle.rf
    · exact xle.rf
    · exact xle.rf
    · exact xle.rf
    · exact xle.rf
  | if_acmp c off =>
    replace hs := xG_inv hs
    obtain ⟨rfl, hs⟩ := hs
    replace hs := xqA_inv hs
    obtain ⟨y, sk, rfl, hs⟩ := hs
    replace hs := xqA_inv hs
    obtain ⟨x, sk, rfl, hs⟩ := hs
    replace hs := xjc_inv hs
    obtain ⟨h0, ⟨hc, hs⟩ | ⟨hc, hs⟩⟩ := hs
    all_goals cases hs
    all_goals cases c
    all_goals simp only [decide_eq_true_eq, decide_eq_false_iff_not, Bool.not_eq_true', Bool.not_eq_false'] at hc
    · exact xle.rf
    · exact xle.rf
    · exact xle.rf
    · exact xle.rf
  | ifnull off =>
    replace hs := xG_inv hs
    obtain ⟨rfl, hs⟩ := hs
    replace hs := xqA_inv hs
    obtain ⟨r, sk, rfl, hs⟩ := hs
    replace hs := xjc_inv hs
    obtain ⟨h0, hs⟩ := hs
    cases r with
    | none =>
      rcases hs with ⟨hc, hs⟩ | ⟨hc, hs⟩
      all_goals first | cases hc | skip
      cases hs
      exact xle.rf
    | some a =>
      rcases hs with ⟨hc, hs⟩ | ⟨hc, hs⟩
      all_goals first | cases hc | skip
      cases hs
      exact xle.rf
  | ifnonnull off =>
    replace hs := xG_inv hs
    obtain ⟨rfl, hs⟩ := hs
    replace hs := xqA_inv hs
    obtain ⟨r, sk, rfl, hs⟩ := hs
    replace hs := xjc_inv hs
    obtain ⟨h0, hs⟩ := hs
    cases r with
    | none =>
      rcases hs with ⟨hc, hs⟩ | ⟨hc, hs⟩
      all_goals first | cases hc | skip
      cases hs
      exact xle.rf
    | some a =>
      rcases hs with ⟨hc, hs⟩ | ⟨hc, hs⟩
      all_goals first | cases hc | skip
      cases hs
      exact xle.rf
  | goto off =>
    replace hs := xG_inv hs
    obtain ⟨rfl, hs⟩ := hs
    replace hs := xjt_inv hs
    obtain ⟨h0, hs⟩ := hs
    cases hs
    exact xle.rf
  | tableswitch dflt lo hi offs =>
    replace hs := xqI_inv hs
    obtain ⟨x, sk, rfl, hs⟩ := hs
    split at hs
    · rename_i h1
      replace hs := xjt_inv hs
      obtain ⟨h0, hs⟩ := hs
      cases hs
      exact xle.rf
    · rename_i h1
      split at hs
      · rename_i off he
        replace hs := xjt_inv hs
        obtain ⟨h0, hs⟩ := hs
        cases hs
        exact xle.rf
      · cases hs
  | lookupswitch dflt ps =>
    replace hs := xqI_inv hs
    obtain ⟨x, sk, rfl, hs⟩ := hs
    replace hs := xif_inv hs
    obtain ⟨h1, hs⟩ := hs
    replace hs := xjt_inv hs
    obtain ⟨h0, hs⟩ := hs
    cases hs
    exact xle.rf
  | getfield i =>
    replace hs := xG_inv hs
    obtain ⟨rfl, hs⟩ := hs
    split at hs
    · rename_i ci k0 hf
      replace hs := xqR_inv hs
      obtain ⟨a, sk, rfl, hs⟩ := hs
      replace hs := xgf_inv hs
      obtain ⟨fs, v, ha, hv, hs⟩ := hs
      cases hs
      exact xle.rf
    · cases hs
  | putfield i =>
    replace hs := xG_inv hs
    obtain ⟨rfl, hs⟩ := hs
    split at hs
    · rename_i ci k0 hf
      replace hs := xqV_inv hs
      obtain ⟨v, sk, rfl, hs⟩ := hs
      replace hs := xqR_inv hs
      obtain ⟨a, sk, rfl, hs⟩ := hs
      replace hs := xob_inv hs
      obtain ⟨fs, ha, hs⟩ := hs
      replace hs := xif_inv hs
      obtain ⟨⟨h1, h2, h3⟩, hs⟩ := hs
      cases hs
      exact ⟨rfl, Nat.le_refl _, Nat.le_refl _⟩
    · cases hs
  | new i =>
    replace hs := xG_inv hs
    obtain ⟨rfl, hs⟩ := hs
    split at hs
    · rename_i ci hf
      cases hs
      exact ⟨rfl, Nat.le_succ _, Nat.le_add_right _ _⟩
    · cases hs
  | newarray ty =>
    replace hs := xG_inv hs
    obtain ⟨rfl, hs⟩ := hs
    replace hs := xqI_inv hs
    obtain ⟨n, sk, rfl, hs⟩ := hs
    split at hs
    · rename_i t hf
      replace hs := xif_inv hs
      obtain ⟨⟨h1, h2⟩, hs⟩ := hs
      cases hs
      exact ⟨rfl, Nat.le_succ _, Nat.le_add_right _ _⟩
    · cases hs
  | anewarray i =>
    replace hs := xG_inv hs
    obtain ⟨rfl, hs⟩ := hs
    replace hs := xqI_inv hs
    obtain ⟨n, sk, rfl, hs⟩ := hs
    split at hs
    · rename_i t hf
      replace hs := xif_inv hs
      obtain ⟨⟨h1, h2⟩, hs⟩ := hs
      cases hs
      exact ⟨rfl, Nat.le_succ _, Nat.le_add_right _ _⟩
    · cases hs
  | arraylength =>
    replace hs := xG_inv hs
    obtain ⟨rfl, hs⟩ := hs
    replace hs := xqR_inv hs
    obtain ⟨a, sk, rfl, hs⟩ := hs
    replace hs := xar_inv hs
    obtain ⟨t, n, z, ha, hs⟩ := hs
    replace hs := xif_inv hs
    obtain ⟨ht, hs⟩ := hs
    cases hs
    exact xle.rf
  | aaload =>
    replace hs := xG_inv hs
    obtain ⟨rfl, hs⟩ := hs
    replace hs := xqIR_inv hs
    obtain ⟨a, i, sk, rfl, hs⟩ := hs
    replace hs := xar_inv hs
    obtain ⟨t, n, z, ha, hs⟩ := hs
    replace hs := xif_inv hs
    obtain ⟨⟨hq, hin⟩, hs⟩ := hs
    cases hs
    obtain ⟨C, hat, hnS, hcl⟩ := x_isq_ok hq
    exact xle.rf
  | aastore =>
    replace hs := xG_inv hs
    obtain ⟨rfl, hs⟩ := hs
    replace hs := xqA_inv hs
    obtain ⟨r, sk, rfl, hs⟩ := hs
    replace hs := xqIR_inv hs
    obtain ⟨a, i, sk, rfl, hs⟩ := hs
    replace hs := xar_inv hs
    obtain ⟨t, n, z, ha, hs⟩ := hs
    replace hs := xif_inv hs
    obtain ⟨_, hs⟩ := hs
    split at hs
    · cases hs
      exact ⟨rfl, Nat.le_refl _, Nat.le_refl _⟩
    · replace hs := xis_inv hs
      obtain ⟨fs, hv, hs⟩ := hs
      cases hs
      exact ⟨rfl, Nat.le_refl _, Nat.le_refl _⟩
  | iaload =>
    replace hs := xG_inv hs
    obtain ⟨rfl, hs⟩ := hs
    replace hs := xald_inv hs
    obtain ⟨a, i, sk, t, n, z, rfl, ha, hat, hin, hs⟩ := hs
    cases hs
    exact xle.rf
  | laload =>
    replace hs := xG_inv hs
    obtain ⟨rfl, hs⟩ := hs
    replace hs := xald_inv hs
    obtain ⟨a, i, sk, t, n, z, rfl, ha, hat, hin, hs⟩ := hs
    cases hs
    exact xle.rf
  | baload =>
    replace hs := xG_inv hs
    obtain ⟨rfl, hs⟩ := hs
    replace hs := xald_inv hs
    obtain ⟨a, i, sk, t, n, z, rfl, ha, hat, hin, hs⟩ := hs
    cases hs
    rcases hat with rfl | rfl
    · exact xle.rf
    · exact xle.rf
  | iastore =>
    replace hs := xG_inv hs
    obtain ⟨rfl, hs⟩ := hs
    replace hs := xqI_inv hs
    obtain ⟨x, sk, rfl, hs⟩ := hs
    replace hs := xast_inv hs
    obtain ⟨a, i, sk, n, z, rfl, ha, hin, hs⟩ := hs
    cases hs
    exact ⟨rfl, Nat.le_refl _, Nat.le_refl _⟩
  | lastore =>
    replace hs := xG_inv hs
    obtain ⟨rfl, hs⟩ := hs
    replace hs := xqL_inv hs
    obtain ⟨x, sk, rfl, hs⟩ := hs
    replace hs := xast_inv hs
    obtain ⟨a, i, sk, n, z, rfl, ha, hin, hs⟩ := hs
    cases hs
    exact ⟨rfl, Nat.le_refl _, Nat.le_refl _⟩
  | bastore =>
    replace hs := xG_inv hs
    obtain ⟨rfl, hs⟩ := hs
    replace hs := xqI_inv hs
    obtain ⟨x, sk, rfl, hs⟩ := hs
    split at hs
    · rename_i q hq
      cases hs
      obtain ⟨a, i, sk, n, z, rfl, ha, hin, hs⟩ := xast_inv hq
      cases hs
      exact ⟨rfl, Nat.le_refl _, Nat.le_refl _⟩
    · replace hs := xast_inv hs
      obtain ⟨a, i, sk, n, z, rfl, ha, hin, hs⟩ := hs
      cases hs
      exact ⟨rfl, Nat.le_refl _, Nat.le_refl _⟩
  | invokestatic i =>
    replace hs := xG_inv hs
    obtain ⟨rfl, hs⟩ := hs
    split at hs
    · split at hs
      · replace hs := xif_inv hs
        obtain ⟨_, hs⟩ := hs
        replace hs := xdone_inv hs
        obtain ⟨r, h1, hroom, hc, hs⟩ := hs
        cases hs
        exact hcall _ _ _ _ _ hc
      · split at hs
        · replace hs := xcp_inv hs
          obtain ⟨n1, dp, a, sp, a0, rest, m0, m1, z0, z1, rfl, ha0, ha1, g1, g2, g3, g4, g5, g6, hd0, hroom, hs⟩ := hs
          cases hs
          exact ⟨rfl, Nat.le_refl _, Nat.le_refl _⟩
        · split at hs
          · replace hs := xqII_inv hs
            obtain ⟨x, y, sk, rfl, hs⟩ := hs
            replace hs := xnat_inv hs
            obtain ⟨_, hs⟩ := hs
            cases hs
            exact xle.rf
          · split at hs
            · replace hs := xqII_inv hs
              obtain ⟨x, y, sk, rfl, hs⟩ := hs
              replace hs := xnat_inv hs
              obtain ⟨_, hs⟩ := hs
              cases hs
              exact xle.rf
            · split at hs
              · replace hs := xqLL_inv hs
                obtain ⟨x, y, sk, rfl, hs⟩ := hs
                replace hs := xnat_inv hs
                obtain ⟨_, hs⟩ := hs
                cases hs
                exact xle.rf
              · cases hs
    · cases hs
  | invokevirtual i =>
    replace hs := xG_inv hs
    obtain ⟨rfl, hs⟩ := hs
    split at hs
    · replace hs := xif_inv hs
      obtain ⟨_, hs⟩ := hs
      replace hs := xqR_inv hs
      obtain ⟨b, rest, hdr, hs⟩ := hs
      replace hs := xis_inv hs
      obtain ⟨fs, hrc, hs⟩ := hs
      replace hs := xdone_inv hs
      obtain ⟨r, h1, hroom, hc, hs⟩ := hs
      cases hs
      exact hcall _ _ _ _ _ hc
    · cases hs
  | invokespecial i =>
    replace hs := xG_inv hs
    obtain ⟨rfl, hs⟩ := hs
    split at hs
    · split at hs
      · replace hs := xqR_inv hs
        obtain ⟨a, rest, rfl, hs⟩ := hs
        replace hs := xnat_inv hs
        obtain ⟨_, hs⟩ := hs
        cases hs
        exact xle.rf
      · replace hs := xif_inv hs
        obtain ⟨_, hs⟩ := hs
        replace hs := xqR_inv hs
        obtain ⟨b, rest, hdr, hs⟩ := hs
        replace hs := xdone_inv hs
        obtain ⟨r, h1, hroom, hc, hs⟩ := hs
        cases hs
        exact hcall _ _ _ _ _ hc
    · cases hs
  | _ => cases hs
theorem xe_ge {j d : Nat} {call : Nat → List Value → xH → Option xR} (hcall : ∀ jj as h r h1, call jj as h = some (r, h1) → xle h h1) : ∀ (n pc : Nat) (ls : xL) (st : List Value) (h : xH) (r : xR), xe d call j n pc ls st h = some r → xle h r.2
  | 0, _, _, _, _, _, he => by cases he
  | n + 1, pc, ls, st, h, r, he => by
    cases hd : decode (x_b j) pc with
    | error x => simp [xe, hd] at he
    | ok q =>
      obtain ⟨ins, len⟩ := q
      rw [xe_succ hd] at he
      split at he
      · cases he
        exact xle.rf
      · split at he
        · rename_i hs
          exact (xs_le hcall hs).tr (xe_ge hcall n _ _ _ _ r he)
        · cases he
theorem xm_le : ∀ (d jj : Nat) (as : List Value) (h : xH) (r : Option Value) (h1 : xH), xm d jj as h = some (r, h1) → xle h h1
  | 0, _, _, _, _, _, he => by cases he
  | d + 1, jj, as, h, r, h1, he => by
    obtain ⟨-, he⟩ := xif_inv (show (if jj < x_n ∧ as.map Value.category = x_cs jj then xrunc d (xm d) jj 0 (xentL (x_nl jj) (x_cs jj) as) [] h else none) = some (r, h1) from he)
    obtain ⟨n, hn⟩ := xrunc_to he
    exact xe_ge (xm_le d) n _ _ _ _ (r, h1) hn
