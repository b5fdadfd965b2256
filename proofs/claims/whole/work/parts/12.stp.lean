/-! ANY STEP OF THE SMALL MACHINE THAT STAYS IN ITS METHOD -/
theorem zcall_inr {z : Nat} {st : List Value} {hp : zHp} {g : Bool} {res : Nat × List Value × List Value × zHp} (h : zcall z st hp = some (g, .inl res)) : False := by
  unfold zcall at h
  dsimp only at h
  cases hc : ((zM z).2.2.2.2.2.1 == 0) with
  | true => rw [hc] at h; simp at h
  | false =>
    rw [hc] at h
    simp only [cond_false] at h
    split at h
    · simp at h
    · cases h
theorem zstp_sound {G : zG} {y : Nat} {r : zRow} {lv st : List Value} {hp : zHp} {res : Nat × List Value × List Value × zHp} (hk : zchk y r = true) (hkF : zchkF y r = true) (h : zstp y r lv st hp = some (true, .inl res)) : zSnd G y r.1 lv st hp res := by
  obtain ⟨pc, len, ins, v, b, c0⟩ := r
  cases ins
  case iconst => exact zs_iconst hk h
  case bipush => exact zs_bipush hk h
  case sipush => exact zs_sipush hk h
  case lconst => exact zs_lconst hk h
  case ldc => exact zs_ldc hk h
  case ldc_w => exact zs_ldc_w hk h
  case ldc2_w => exact zs_ldc2_w hk h
  case iload => exact zs_iload hk h
  case lload => exact zs_lload hk h
  case aload => exact zs_aload hk h
  case iload_n => exact zs_iload_n hk h
  case lload_n => exact zs_lload_n hk h
  case aload_n => exact zs_aload_n hk h
  case istore => exact zs_istore hk h
  case lstore => exact zs_lstore hk h
  case astore => exact zs_astore hk h
  case istore_n => exact zs_istore_n hk h
  case lstore_n => exact zs_lstore_n hk h
  case astore_n => exact zs_astore_n hk h
  case iinc => exact zs_iinc hk h
  case iadd => exact zs_iadd hk h
  case isub => exact zs_isub hk h
  case imul => exact zs_imul hk h
  case iand => exact zs_iand hk h
  case ior => exact zs_ior hk h
  case ixor => exact zs_ixor hk h
  case ishl => exact zs_ishl hk h
  case ishr => exact zs_ishr hk h
  case iushr => exact zs_iushr hk h
  case ladd => exact zs_ladd hk h
  case lsub => exact zs_lsub hk h
  case lmul => exact zs_lmul hk h
  case idiv => exact zs_idiv hk h
  case irem => exact zs_irem hk h
  case ldiv => exact zs_ldiv hk h
  case ineg => exact zs_ineg hk h
  case lcmp => exact zs_lcmp hk h
  case i2l => exact zs_i2l hk h
  case l2i => exact zs_l2i hk h
  case i2s => exact zs_i2s hk h
  case i2c => exact zs_i2c hk h
  case pop => exact zs_pop hk h
  case dup => exact zs_dup hk h
  case dup_x1 => exact zs_dup_x1 hk h
  case dup2 => exact zs_dup2 hk h
  case goto => exact zs_goto hk h
  case ifCond => exact zs_ifCond hk h
  case if_icmp => exact zs_if_icmp hk h
  case tableswitch => exact zs_tableswitch hk h
  case lookupswitch => exact zs_lookupswitch hk h
  case getfield => exact zs_getfield hk h
  case iaload => exact zs_iaload hk h
  case saload => exact zs_saload hk h
  case aaload => exact zs_aaload hk h
  case arraylength => exact zs_arraylength hk h
  case iastore => exact zs_iastore hk h
  case sastore => exact zs_sastore hk h
  case aastore => exact zs_aastore hk h
  case new => exact zs_new hk h
  case newarray => exact zs_newarray hk h
  case anewarray => exact zs_anewarray hk h
  case multianewarray => exact zs_multianewarray hk h
  case putfield => exact zs_putfield hk hkF h
  case invokestatic n =>
    by_cases hb : b = 0
    · subst hb
      exact (zcall_inr (z := c0) (st := st) (hp := hp) (g := true) (res := res) h).elim
    · exact zs_min hk hb h
  case invokespecial n =>
    by_cases hb : b = 0
    · subst hb
      exact (zcall_inr (z := c0) (st := st) (hp := hp) (g := true) (res := res) h).elim
    · exact zs_objInit hk hb h
  case invokevirtual n =>
    by_cases hb : b = 0
    · subst hb
      exact (zcall_inr (z := c0) (st := st) (hp := hp) (g := true) (res := res) h).elim
    · exact zs_str hk hb h
  case ireturn => simp only [zstp] at h; split at h <;> simp at h
  case lreturn => simp only [zstp] at h; split at h <;> simp at h
  case areturn => simp only [zstp] at h; split at h <;> simp at h
  case return_ => simp only [zstp] at h; split at h <;> simp at h
  all_goals (exact absurd h (by simp [zstp]))
