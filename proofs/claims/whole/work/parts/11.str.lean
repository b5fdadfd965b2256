/-! String constants: charAt, indexOf -/
theorem zs_str {G : zG} {y pc len b c0 : Nat} {v : Value} {lv st : List Value} {hp : zHp} {res : Nat × List Value × List Value × zHp} {n : Nat} (hk : zchk y (pc, len, (.invokevirtual n), v, b, c0) = true) (hb0 : ¬ b = 0) (h : zstp y (pc, len, (.invokevirtual n), v, b, c0) lv st hp = some (true, .inl res)) : zSnd G y pc lv st hp res := by
  sorry
