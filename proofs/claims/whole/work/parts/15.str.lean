theorem zk_o_slen {n pc : Nat} (hd : decode cX8_isWord pc = .ok (.invokevirtual 90, 3)) (hn : n ≤ 8 := by decide) : zk_I1 M_X8_isWord n pc 3 zk_slen := by
  sorry
theorem zk_o_schr {n pc : Nat} (hd : decode cX8_isWord pc = .ok (.invokevirtual 94, 3)) (hn : n ≤ 8 := by decide) : zk_I2 M_X8_isWord n pc 3 zk_schr := by
  sorry
