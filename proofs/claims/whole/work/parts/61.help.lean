/-! helpers, evaluated -/
theorem q_out (v a b : Int32) (h : zk_H) : f_X11_isOutside SHP [.int v, .int a, .int b] h = some (.int (if v < a ∨ b < v then 1 else 0), h) := by
  by_cases h1 : v < a <;> by_cases h2 : b < v <;> simp [f_X11_isOutside, b_X11_isOutside, h1, h2, zk_sem, zk_flat, zk_env, Value.category, zk_ret, zk_ret0, zk_it, zk_or, zk_and, zk_not, zk_c1, zk_c2, zk_li, zk_lr, zk_ll, zk_c, zk_u, zk_b, zk_fi, zk_fd, zk_gi, zk_gn, zk_gl, zk_fl, zk_fs, zk_gf, zk_al, zk_aa, zk_ca, zk_ck, zk_rc, zk_ev, zk_seq, zk_skip, zk_if, zk_si, zk_sr, zk_inc, zk_okS, zk_pf, zk_pfo, zk_as, zk_aso, zk_xc, zk_rok, narrow]
theorem q_in (v a b : Int32) (h : zk_H) : f_X12_in SHP [.int v, .int a, .int b] h = some (.int (if a ≤ v ∧ v ≤ b then 1 else 0), h) := by
  by_cases h1 : a ≤ v <;> by_cases h2 : v ≤ b <;> simp [f_X12_in, b_X12_in, h1, h2, zk_sem, zk_flat, zk_env, Value.category, zk_ret, zk_ret0, zk_it, zk_or, zk_and, zk_not, zk_c1, zk_c2, zk_li, zk_lr, zk_ll, zk_c, zk_u, zk_b, zk_fi, zk_fd, zk_gi, zk_gn, zk_gl, zk_fl, zk_fs, zk_gf, zk_al, zk_aa, zk_ca, zk_ck, zk_rc, zk_ev, zk_seq, zk_skip, zk_if, zk_si, zk_sr, zk_inc, zk_okS, zk_pf, zk_pfo, zk_as, zk_aso, zk_xc, zk_rok, narrow]
theorem qo_0_0 (h : zk_H) : zk_rdF SHP 11 0 (.ref 0) h = some (.ref 1) := rfl
theorem qo_0_1 (h : zk_H) : zk_rdF SHP 11 1 (.ref 0) h = some (.ref 65) := rfl
theorem qo_0_2 (h : zk_H) : zk_rdF SHP 11 2 (.ref 0) h = some (.ref 129) := rfl
theorem qo_0_3 (h : zk_H) : zk_rdF SHP 11 3 (.ref 0) h = some (.ref 131) := rfl
theorem qo_0_4 (h : zk_H) : zk_rdF SHP 11 4 (.ref 0) h = some (.ref 152) := rfl
theorem qo_0_5 (h : zk_H) : zk_rdF SHP 11 5 (.ref 0) h = some (.ref 155) := rfl
theorem qo_0_6 (h : zk_H) : zk_rdF SHP 11 6 (.ref 0) h = some (.ref 159) := rfl
theorem qo_0_7 (h : zk_H) : zk_rdF SHP 11 7 (.ref 0) h = some (.int (h 0 7)) := rfl
theorem qp_0_7 (x : Int32) (h : zk_H) : zk_wrF SHP 11 7 false (.ref 0) (.int x) h = some (zk_up h 0 7 x) := by
  simp [zk_wrF, qc_0]
theorem qo_1_0 (h : zk_H) : zk_rdF SHP 10 0 (.ref 1) h = some (.ref 2) := rfl
theorem qo_1_1 (h : zk_H) : zk_rdF SHP 10 1 (.ref 1) h = some (.ref 3) := rfl
theorem qo_1_2 (h : zk_H) : zk_rdF SHP 10 2 (.ref 1) h = some (.ref 4) := rfl
theorem qo_1_3 (h : zk_H) : zk_rdF SHP 10 3 (.ref 1) h = some (.ref 5) := rfl
theorem qo_1_4 (h : zk_H) : zk_rdF SHP 10 4 (.ref 1) h = some (.ref 6) := rfl
theorem qo_1_5 (h : zk_H) : zk_rdF SHP 10 5 (.ref 1) h = some (.ref 11) := rfl
theorem qo_1_6 (h : zk_H) : zk_rdF SHP 10 6 (.ref 1) h = some (.ref 15) := rfl
theorem qo_1_7 (h : zk_H) : zk_rdF SHP 10 7 (.ref 1) h = some (.int (h 1 7)) := rfl
theorem qp_1_7 (x : Int32) (h : zk_H) : zk_wrF SHP 10 7 false (.ref 1) (.int x) h = some (zk_up h 1 7 x) := by
  simp [zk_wrF, qc_1]
theorem qo_1_8 (h : zk_H) : zk_rdF SHP 10 8 (.ref 1) h = some (.int (h 1 8)) := rfl
theorem qp_1_8 (x : Int32) (h : zk_H) : zk_wrF SHP 10 8 false (.ref 1) (.int x) h = some (zk_up h 1 8 x) := by
  simp [zk_wrF, qc_1]
theorem qo_1_9 (h : zk_H) : zk_rdF SHP 10 9 (.ref 1) h = some (.int (h 1 9)) := rfl
theorem qp_1_9 (x : Int32) (h : zk_H) : zk_wrF SHP 10 9 false (.ref 1) (.int x) h = some (zk_up h 1 9 x) := by
  simp [zk_wrF, qc_1]
theorem qo_1_10 (h : zk_H) : zk_rdF SHP 10 10 (.ref 1) h = some (.int (h 1 10)) := rfl
theorem qp_1_10 (x : Int32) (h : zk_H) : zk_wrF SHP 10 10 false (.ref 1) (.int x) h = some (zk_up h 1 10 x) := by
  simp [zk_wrF, qc_1]
theorem qo_1_11 (h : zk_H) : zk_rdF SHP 10 11 (.ref 1) h = some (.int (h 1 11)) := rfl
theorem qp_1_11 (x : Int32) (h : zk_H) : zk_wrF SHP 10 11 false (.ref 1) (.int x) h = some (zk_up h 1 11 x) := by
  simp [zk_wrF, qc_1]
theorem qo_1_12 (h : zk_H) : zk_rdF SHP 10 12 (.ref 1) h = some (.int (h 1 12)) := rfl
theorem qp_1_12 (x : Int32) (h : zk_H) : zk_wrF SHP 10 12 false (.ref 1) (.int x) h = some (zk_up h 1 12 x) := by
  simp [zk_wrF, qc_1]
theorem qo_1_13 (h : zk_H) : zk_rdF SHP 10 13 (.ref 1) h = some (.int (h 1 13)) := rfl
theorem qp_1_13 (x : Int32) (h : zk_H) : zk_wrF SHP 10 13 false (.ref 1) (.int x) h = some (zk_up h 1 13 x) := by
  simp [zk_wrF, qc_1]
theorem qo_65_0 (h : zk_H) : zk_rdF SHP 10 0 (.ref 65) h = some (.ref 66) := rfl
theorem qo_65_1 (h : zk_H) : zk_rdF SHP 10 1 (.ref 65) h = some (.ref 67) := rfl
theorem qo_65_2 (h : zk_H) : zk_rdF SHP 10 2 (.ref 65) h = some (.ref 68) := rfl
theorem qo_65_3 (h : zk_H) : zk_rdF SHP 10 3 (.ref 65) h = some (.ref 69) := rfl
theorem qo_65_4 (h : zk_H) : zk_rdF SHP 10 4 (.ref 65) h = some (.ref 70) := rfl
theorem qo_65_5 (h : zk_H) : zk_rdF SHP 10 5 (.ref 65) h = some (.ref 75) := rfl
theorem qo_65_6 (h : zk_H) : zk_rdF SHP 10 6 (.ref 65) h = some (.ref 79) := rfl
theorem qo_65_7 (h : zk_H) : zk_rdF SHP 10 7 (.ref 65) h = some (.int (h 65 7)) := rfl
theorem qp_65_7 (x : Int32) (h : zk_H) : zk_wrF SHP 10 7 false (.ref 65) (.int x) h = some (zk_up h 65 7 x) := by
  simp [zk_wrF, qc_65]
theorem qo_65_8 (h : zk_H) : zk_rdF SHP 10 8 (.ref 65) h = some (.int (h 65 8)) := rfl
theorem qp_65_8 (x : Int32) (h : zk_H) : zk_wrF SHP 10 8 false (.ref 65) (.int x) h = some (zk_up h 65 8 x) := by
  simp [zk_wrF, qc_65]
theorem qo_65_9 (h : zk_H) : zk_rdF SHP 10 9 (.ref 65) h = some (.int (h 65 9)) := rfl
theorem qp_65_9 (x : Int32) (h : zk_H) : zk_wrF SHP 10 9 false (.ref 65) (.int x) h = some (zk_up h 65 9 x) := by
  simp [zk_wrF, qc_65]
theorem qo_65_10 (h : zk_H) : zk_rdF SHP 10 10 (.ref 65) h = some (.int (h 65 10)) := rfl
theorem qp_65_10 (x : Int32) (h : zk_H) : zk_wrF SHP 10 10 false (.ref 65) (.int x) h = some (zk_up h 65 10 x) := by
  simp [zk_wrF, qc_65]
theorem qo_65_11 (h : zk_H) : zk_rdF SHP 10 11 (.ref 65) h = some (.int (h 65 11)) := rfl
theorem qp_65_11 (x : Int32) (h : zk_H) : zk_wrF SHP 10 11 false (.ref 65) (.int x) h = some (zk_up h 65 11 x) := by
  simp [zk_wrF, qc_65]
theorem qo_65_12 (h : zk_H) : zk_rdF SHP 10 12 (.ref 65) h = some (.int (h 65 12)) := rfl
theorem qp_65_12 (x : Int32) (h : zk_H) : zk_wrF SHP 10 12 false (.ref 65) (.int x) h = some (zk_up h 65 12 x) := by
  simp [zk_wrF, qc_65]
theorem qo_65_13 (h : zk_H) : zk_rdF SHP 10 13 (.ref 65) h = some (.int (h 65 13)) := rfl
theorem qp_65_13 (x : Int32) (h : zk_H) : zk_wrF SHP 10 13 false (.ref 65) (.int x) h = some (zk_up h 65 13 x) := by
  simp [zk_wrF, qc_65]
theorem qo_6_0 (h : zk_H) : zk_rdF SHP 9 0 (.ref 6) h = some (.ref 7) := rfl
theorem qo_6_1 (h : zk_H) : zk_rdF SHP 9 1 (.ref 6) h = some (.ref 8) := rfl
theorem qo_6_2 (h : zk_H) : zk_rdF SHP 9 2 (.ref 6) h = some (.ref 9) := rfl
theorem qo_6_3 (h : zk_H) : zk_rdF SHP 9 3 (.ref 6) h = some (.ref 10) := rfl
theorem qo_6_4 (h : zk_H) : zk_rdF SHP 9 4 (.ref 6) h = some (.int (h 6 4)) := rfl
theorem qp_6_4 (x : Int32) (h : zk_H) : zk_wrF SHP 9 4 false (.ref 6) (.int x) h = some (zk_up h 6 4 x) := by
  simp [zk_wrF, qc_6]
theorem qo_6_5 (h : zk_H) : zk_rdF SHP 9 5 (.ref 6) h = some (.int (h 6 5)) := rfl
theorem qp_6_5 (x : Int32) (h : zk_H) : zk_wrF SHP 9 5 false (.ref 6) (.int x) h = some (zk_up h 6 5 x) := by
  simp [zk_wrF, qc_6]
theorem qo_70_0 (h : zk_H) : zk_rdF SHP 9 0 (.ref 70) h = some (.ref 71) := rfl
theorem qo_70_1 (h : zk_H) : zk_rdF SHP 9 1 (.ref 70) h = some (.ref 72) := rfl
theorem qo_70_2 (h : zk_H) : zk_rdF SHP 9 2 (.ref 70) h = some (.ref 73) := rfl
theorem qo_70_3 (h : zk_H) : zk_rdF SHP 9 3 (.ref 70) h = some (.ref 74) := rfl
theorem qo_70_4 (h : zk_H) : zk_rdF SHP 9 4 (.ref 70) h = some (.int (h 70 4)) := rfl
theorem qp_70_4 (x : Int32) (h : zk_H) : zk_wrF SHP 9 4 false (.ref 70) (.int x) h = some (zk_up h 70 4 x) := by
  simp [zk_wrF, qc_70]
theorem qo_70_5 (h : zk_H) : zk_rdF SHP 9 5 (.ref 70) h = some (.int (h 70 5)) := rfl
theorem qp_70_5 (x : Int32) (h : zk_H) : zk_wrF SHP 9 5 false (.ref 70) (.int x) h = some (zk_up h 70 5 x) := by
  simp [zk_wrF, qc_70]
theorem qo_11_0 (h : zk_H) : zk_rdF SHP 1 0 (.ref 11) h = some (.ref 12) := rfl
theorem qo_11_1 (h : zk_H) : zk_rdF SHP 1 1 (.ref 11) h = some (.ref 13) := rfl
theorem qo_11_2 (h : zk_H) : zk_rdF SHP 1 2 (.ref 11) h = some (.ref 14) := rfl
theorem qo_11_3 (h : zk_H) : zk_rdF SHP 1 3 (.ref 11) h = some (.int (h 11 3)) := rfl
theorem qp_11_3 (x : Int32) (h : zk_H) : zk_wrF SHP 1 3 false (.ref 11) (.int x) h = some (zk_up h 11 3 x) := by
  simp [zk_wrF, qc_11]
theorem qo_15_0 (h : zk_H) : zk_rdF SHP 1 0 (.ref 15) h = some (.ref 16) := rfl
theorem qo_15_1 (h : zk_H) : zk_rdF SHP 1 1 (.ref 15) h = some (.ref 17) := rfl
theorem qo_15_2 (h : zk_H) : zk_rdF SHP 1 2 (.ref 15) h = some (.ref 18) := rfl
theorem qo_15_3 (h : zk_H) : zk_rdF SHP 1 3 (.ref 15) h = some (.int (h 15 3)) := rfl
theorem qp_15_3 (x : Int32) (h : zk_H) : zk_wrF SHP 1 3 false (.ref 15) (.int x) h = some (zk_up h 15 3 x) := by
  simp [zk_wrF, qc_15]
theorem qo_75_0 (h : zk_H) : zk_rdF SHP 1 0 (.ref 75) h = some (.ref 76) := rfl
theorem qo_75_1 (h : zk_H) : zk_rdF SHP 1 1 (.ref 75) h = some (.ref 77) := rfl
theorem qo_75_2 (h : zk_H) : zk_rdF SHP 1 2 (.ref 75) h = some (.ref 78) := rfl
theorem qo_75_3 (h : zk_H) : zk_rdF SHP 1 3 (.ref 75) h = some (.int (h 75 3)) := rfl
theorem qp_75_3 (x : Int32) (h : zk_H) : zk_wrF SHP 1 3 false (.ref 75) (.int x) h = some (zk_up h 75 3 x) := by
  simp [zk_wrF, qc_75]
theorem qo_79_0 (h : zk_H) : zk_rdF SHP 1 0 (.ref 79) h = some (.ref 80) := rfl
theorem qo_79_1 (h : zk_H) : zk_rdF SHP 1 1 (.ref 79) h = some (.ref 81) := rfl
theorem qo_79_2 (h : zk_H) : zk_rdF SHP 1 2 (.ref 79) h = some (.ref 82) := rfl
theorem qo_79_3 (h : zk_H) : zk_rdF SHP 1 3 (.ref 79) h = some (.int (h 79 3)) := rfl
theorem qp_79_3 (x : Int32) (h : zk_H) : zk_wrF SHP 1 3 false (.ref 79) (.int x) h = some (zk_up h 79 3 x) := by
  simp [zk_wrF, qc_79]
theorem qo_129_0 (h : zk_H) : zk_rdF SHP 8 0 (.ref 129) h = some (.ref 130) := rfl
theorem qo_129_1 (h : zk_H) : zk_rdF SHP 8 1 (.ref 129) h = some (.int (h 129 1)) := rfl
theorem qp_129_1 (x : Int32) (h : zk_H) : zk_wrF SHP 8 1 false (.ref 129) (.int x) h = some (zk_up h 129 1 x) := by
  simp [zk_wrF, qc_129]
theorem qo_129_2 (h : zk_H) : zk_rdF SHP 8 2 (.ref 129) h = some (.int (h 129 2)) := rfl
theorem qp_129_2 (x : Int32) (h : zk_H) : zk_wrF SHP 8 2 false (.ref 129) (.int x) h = some (zk_up h 129 2 x) := by
  simp [zk_wrF, qc_129]
theorem qo_129_3 (h : zk_H) : zk_rdF SHP 8 3 (.ref 129) h = some (.int (h 129 3)) := rfl
theorem qp_129_3 (x : Int32) (h : zk_H) : zk_wrF SHP 8 3 false (.ref 129) (.int x) h = some (zk_up h 129 3 x) := by
  simp [zk_wrF, qc_129]
theorem qo_129_4 (h : zk_H) : zk_rdF SHP 8 4 (.ref 129) h = some (.int (h 129 4)) := rfl
theorem qp_129_4 (x : Int32) (h : zk_H) : zk_wrF SHP 8 4 false (.ref 129) (.int x) h = some (zk_up h 129 4 x) := by
  simp [zk_wrF, qc_129]
theorem qo_129_5 (h : zk_H) : zk_rdF SHP 8 5 (.ref 129) h = some (.int (h 129 5)) := rfl
theorem qp_129_5 (x : Int32) (h : zk_H) : zk_wrF SHP 8 5 false (.ref 129) (.int x) h = some (zk_up h 129 5 x) := by
  simp [zk_wrF, qc_129]
theorem qo_129_6 (h : zk_H) : zk_rdF SHP 8 6 (.ref 129) h = some (.int (h 129 6)) := rfl
theorem qp_129_6 (x : Int32) (h : zk_H) : zk_wrF SHP 8 6 false (.ref 129) (.int x) h = some (zk_up h 129 6 x) := by
  simp [zk_wrF, qc_129]
theorem qo_129_7 (h : zk_H) : zk_rdF SHP 8 7 (.ref 129) h = some (.int (h 129 7)) := rfl
theorem qp_129_7 (x : Int32) (h : zk_H) : zk_wrF SHP 8 7 false (.ref 129) (.int x) h = some (zk_up h 129 7 x) := by
  simp [zk_wrF, qc_129]
theorem qo_129_8 (h : zk_H) : zk_rdF SHP 8 8 (.ref 129) h = some (.int (h 129 8)) := rfl
theorem qp_129_8 (x : Int32) (h : zk_H) : zk_wrF SHP 8 8 false (.ref 129) (.int x) h = some (zk_up h 129 8 x) := by
  simp [zk_wrF, qc_129]
theorem qo_131_0 (h : zk_H) : zk_rdF SHP 4 0 (.ref 131) h = some (.ref 132) := rfl
theorem qo_131_1 (h : zk_H) : zk_rdF SHP 4 1 (.ref 131) h = some (.ref 133) := rfl
theorem qo_131_2 (h : zk_H) : zk_rdF SHP 4 2 (.ref 131) h = some (.ref 134) := rfl
theorem qo_131_3 (h : zk_H) : zk_rdF SHP 4 3 (.ref 131) h = some (.ref 135) := rfl
theorem qo_131_4 (h : zk_H) : zk_rdF SHP 4 4 (.ref 131) h = some (.ref 136) := rfl
theorem qo_131_5 (h : zk_H) : zk_rdF SHP 4 5 (.ref 131) h = some (.ref 144) := rfl
theorem qo_131_6 (h : zk_H) : zk_rdF SHP 4 6 (.ref 131) h = some (.int (h 131 6)) := rfl
theorem qp_131_6 (x : Int32) (h : zk_H) : zk_wrF SHP 4 6 false (.ref 131) (.int x) h = some (zk_up h 131 6 x) := by
  simp [zk_wrF, qc_131]
theorem qo_131_7 (h : zk_H) : zk_rdF SHP 4 7 (.ref 131) h = some (.ref 151) := rfl
theorem qo_131_8 (h : zk_H) : zk_rdF SHP 4 8 (.ref 131) h = some (.int (h 131 8)) := rfl
theorem qp_131_8 (x : Int32) (h : zk_H) : zk_wrF SHP 4 8 false (.ref 131) (.int x) h = some (zk_up h 131 8 x) := by
  simp [zk_wrF, qc_131]
theorem qo_131_9 (h : zk_H) : zk_rdF SHP 4 9 (.ref 131) h = some (.int (h 131 9)) := rfl
theorem qp_131_9 (x : Int32) (h : zk_H) : zk_wrF SHP 4 9 false (.ref 131) (.int x) h = some (zk_up h 131 9 x) := by
  simp [zk_wrF, qc_131]
theorem qo_131_10 (h : zk_H) : zk_rdF SHP 4 10 (.ref 131) h = some (.int (h 131 10)) := rfl
theorem qp_131_10 (x : Int32) (h : zk_H) : zk_wrF SHP 4 10 false (.ref 131) (.int x) h = some (zk_up h 131 10 x) := by
  simp [zk_wrF, qc_131]
theorem qo_152_0 (h : zk_H) : zk_rdF SHP 7 0 (.ref 152) h = some (.ref 153) := rfl
theorem qo_152_1 (h : zk_H) : zk_rdF SHP 7 1 (.ref 152) h = some (.ref 154) := rfl
theorem qo_155_0 (h : zk_H) : zk_rdF SHP 0 0 (.ref 155) h = some (.ref 156) := rfl
theorem qo_155_1 (h : zk_H) : zk_rdF SHP 0 1 (.ref 155) h = some (.ref 157) := rfl
theorem qo_155_2 (h : zk_H) : zk_rdF SHP 0 2 (.ref 155) h = some (.ref 158) := rfl
theorem qo_159_0 (h : zk_H) : zk_rdF SHP 3 0 (.ref 159) h = some (.ref 160) := rfl
theorem qo_159_1 (h : zk_H) : zk_rdF SHP 3 1 (.ref 159) h = some (.ref 169) := rfl
theorem qo_159_2 (h : zk_H) : zk_rdF SHP 3 2 (.ref 159) h = some (.ref 177) := rfl
theorem qo_159_3 (h : zk_H) : zk_rdF SHP 3 3 (.ref 159) h = some (.int (h 159 3)) := rfl
theorem qp_159_3 (x : Int32) (h : zk_H) : zk_wrF SHP 3 3 false (.ref 159) (.int x) h = some (zk_up h 159 3 x) := by
  simp [zk_wrF, qc_159]
theorem qo_159_4 (h : zk_H) : zk_rdF SHP 3 4 (.ref 159) h = some (.int (h 159 4)) := rfl
theorem qp_159_4 (x : Int32) (h : zk_H) : zk_wrF SHP 3 4 false (.ref 159) (.int x) h = some (zk_up h 159 4 x) := by
  simp [zk_wrF, qc_159]
theorem qo_178_0 (h : zk_H) : zk_rdF SHP 12 0 (.ref 178) h = some (.ref 179) := rfl
theorem qo_178_1 (h : zk_H) : zk_rdF SHP 12 1 (.ref 178) h = some (.ref 180) := rfl
theorem qo_178_2 (h : zk_H) : zk_rdF SHP 12 2 (.ref 178) h = some (.ref 181) := rfl
theorem qo_178_3 (h : zk_H) : zk_rdF SHP 12 3 (.ref 178) h = some (.ref 182) := rfl
theorem qo_178_4 (h : zk_H) : zk_rdF SHP 12 4 (.ref 178) h = some (.ref 183) := rfl
theorem qo_178_5 (h : zk_H) : zk_rdF SHP 12 5 (.ref 178) h = some (.ref 184) := rfl
theorem qo_178_6 (h : zk_H) : zk_rdF SHP 12 6 (.ref 178) h = some (.ref 185) := rfl
theorem qo_178_7 (h : zk_H) : zk_rdF SHP 12 7 (.ref 178) h = some (.ref 186) := rfl
theorem qo_178_8 (h : zk_H) : zk_rdF SHP 12 8 (.ref 178) h = some (.ref 187) := rfl
theorem qo_178_9 (h : zk_H) : zk_rdF SHP 12 9 (.ref 178) h = some (.ref 188) := rfl
theorem qo_178_10 (h : zk_H) : zk_rdF SHP 12 10 (.ref 178) h = some (.ref 189) := rfl
theorem qo_178_11 (h : zk_H) : zk_rdF SHP 12 11 (.ref 178) h = some (.ref 190) := rfl
theorem qo_178_12 (h : zk_H) : zk_rdF SHP 12 12 (.ref 178) h = some (.ref 191) := rfl
theorem qo_178_13 (h : zk_H) : zk_rdF SHP 12 13 (.ref 178) h = some (.ref 192) := rfl
theorem qo_178_14 (h : zk_H) : zk_rdF SHP 12 14 (.ref 178) h = some (.int (h 178 14)) := rfl
theorem qp_178_14 (x : Int32) (h : zk_H) : zk_wrF SHP 12 14 false (.ref 178) (.int x) h = some (zk_up h 178 14 x) := by
  simp [zk_wrF, qc_178]
theorem qo_178_15 (h : zk_H) : zk_rdF SHP 12 15 (.ref 178) h = some (.int (h 178 15)) := rfl
theorem qp_178_15 (x : Int32) (h : zk_H) : zk_wrF SHP 12 15 false (.ref 178) (.int x) h = some (zk_up h 178 15 x) := by
  simp [zk_wrF, qc_178]
theorem qo_178_16 (h : zk_H) : zk_rdF SHP 12 16 (.ref 178) h = some (.int (h 178 16)) := rfl
theorem qp_178_16 (x : Int32) (h : zk_H) : zk_wrF SHP 12 16 false (.ref 178) (.int x) h = some (zk_up h 178 16 x) := by
  simp [zk_wrF, qc_178]
theorem qo_178_17 (h : zk_H) : zk_rdF SHP 12 17 (.ref 178) h = some (.ref 193) := rfl
theorem qo_178_18 (h : zk_H) : zk_rdF SHP 12 18 (.ref 178) h = some (.int (h 178 18)) := rfl
theorem qp_178_18 (x : Int32) (h : zk_H) : zk_wrF SHP 12 18 false (.ref 178) (.int x) h = some (zk_up h 178 18 x) := by
  simp [zk_wrF, qc_178]
theorem qo_178_19 (h : zk_H) : zk_rdF SHP 12 19 (.ref 178) h = some (.int (h 178 19)) := rfl
theorem qp_178_19 (x : Int32) (h : zk_H) : zk_wrF SHP 12 19 false (.ref 178) (.int x) h = some (zk_up h 178 19 x) := by
  simp [zk_wrF, qc_178]
theorem qo_178_20 (h : zk_H) : zk_rdF SHP 12 20 (.ref 178) h = some (.int (h 178 20)) := rfl
theorem qp_178_20 (x : Int32) (h : zk_H) : zk_wrF SHP 12 20 false (.ref 178) (.int x) h = some (zk_up h 178 20 x) := by
  simp [zk_wrF, qc_178]
theorem qo_178_21 (h : zk_H) : zk_rdF SHP 12 21 (.ref 178) h = some (.int (h 178 21)) := rfl
theorem qp_178_21 (x : Int32) (h : zk_H) : zk_wrF SHP 12 21 false (.ref 178) (.int x) h = some (zk_up h 178 21 x) := by
  simp [zk_wrF, qc_178]
theorem qo_178_22 (h : zk_H) : zk_rdF SHP 12 22 (.ref 178) h = some (.int (h 178 22)) := rfl
theorem qp_178_22 (x : Int32) (h : zk_H) : zk_wrF SHP 12 22 false (.ref 178) (.int x) h = some (zk_up h 178 22 x) := by
  simp [zk_wrF, qc_178]
theorem qo_178_23 (h : zk_H) : zk_rdF SHP 12 23 (.ref 178) h = some (.int (h 178 23)) := rfl
theorem qp_178_23 (x : Int32) (h : zk_H) : zk_wrF SHP 12 23 false (.ref 178) (.int x) h = some (zk_up h 178 23 x) := by
  simp [zk_wrF, qc_178]
theorem qo_178_24 (h : zk_H) : zk_rdF SHP 12 24 (.ref 178) h = some (.ref 194) := rfl
theorem qo_178_25 (h : zk_H) : zk_rdF SHP 12 25 (.ref 178) h = some (.ref 195) := rfl
theorem qo_178_26 (h : zk_H) : zk_rdF SHP 12 26 (.ref 178) h = some (.ref 196) := rfl
theorem qo_178_27 (h : zk_H) : zk_rdF SHP 12 27 (.ref 178) h = some (.ref 197) := rfl
theorem qo_178_28 (h : zk_H) : zk_rdF SHP 12 28 (.ref 178) h = some (.ref 198) := rfl
theorem qo_178_29 (h : zk_H) : zk_rdF SHP 12 29 (.ref 178) h = some (.ref 199) := rfl
theorem qo_178_30 (h : zk_H) : zk_rdF SHP 12 30 (.ref 178) h = some (.int (h 178 30)) := rfl
theorem qp_178_30 (x : Int32) (h : zk_H) : zk_wrF SHP 12 30 false (.ref 178) (.int x) h = some (zk_up h 178 30 x) := by
  simp [zk_wrF, qc_178]
theorem qo_178_31 (h : zk_H) : zk_rdF SHP 12 31 (.ref 178) h = some (.ref 200) := rfl
theorem qo_178_32 (h : zk_H) : zk_rdF SHP 12 32 (.ref 178) h = some (.int (h 178 32)) := rfl
theorem qp_178_32 (x : Int32) (h : zk_H) : zk_wrF SHP 12 32 false (.ref 178) (.int x) h = some (zk_up h 178 32 x) := by
  simp [zk_wrF, qc_178]
theorem qb_0 (x : Int32) (hx : x = 0 ∨ x = 1) (h : zk_H) : zk_wrF SHP 11 7 true (.ref 0) (.int x) h = some (zk_up h 0 7 x) := by
  simp [zk_wrF, qc_0, hx]
theorem qb_178 (x : Int32) (hx : x = 0 ∨ x = 1) (h : zk_H) : zk_wrF SHP 12 30 true (.ref 178) (.int x) h = some (zk_up h 178 30 x) := by
  simp [zk_wrF, qc_178, hx]
theorem qz_site (s : Nat) (hs : s < 6) (x : Int32) (hx : x = 0 ∨ x = 1) (h : zk_H) : zk_wrF SHP 6 4 true (.ref (19 + 3 * s)) (.int x) h = some (zk_up h (19 + 3 * s) 4 x) := by
  simp [zk_wrF, qs_site s hs, hx]
theorem qz_plug4 (s : Nat) (hs : s < 16) (x : Int32) (hx : x = 0 ∨ x = 1) (h : zk_H) : zk_wrF SHP 5 4 true (.ref (37 + s)) (.int x) h = some (zk_up h (37 + s) 4 x) := by
  simp [zk_wrF, qs_plug s hs, hx]
theorem qz_plug5 (s : Nat) (hs : s < 16) (x : Int32) (hx : x = 0 ∨ x = 1) (h : zk_H) : zk_wrF SHP 5 5 true (.ref (37 + s)) (.int x) h = some (zk_up h (37 + s) 5 x) := by
  simp [zk_wrF, qs_plug s hs, hx]
theorem q_hasSite (x : Int32) (h : zk_H) : f_X10_hasSite SHP [.ref 1, .int x] h = some (.int (if 0 ≤ x ∧ x < h 1 7 then 1 else 0), h) := by
  by_cases h1 : 0 ≤ x <;> by_cases h2 : x < h 1 7 <;> simp [f_X10_hasSite, b_X10_hasSite, h1, h2, qo_1_7, zk_sem, zk_flat, zk_env, Value.category, zk_ret, zk_ret0, zk_it, zk_or, zk_and, zk_not, zk_c1, zk_c2, zk_li, zk_lr, zk_ll, zk_c, zk_u, zk_b, zk_fi, zk_fd, zk_gi, zk_gn, zk_gl, zk_fl, zk_fs, zk_gf, zk_al, zk_aa, zk_ca, zk_ck, zk_rc, zk_ev, zk_seq, zk_skip, zk_if, zk_si, zk_sr, zk_inc, zk_okS, zk_pf, zk_pfo, zk_as, zk_aso, zk_xc, zk_rok, narrow]
theorem q_hasPlug (x : Int32) (h : zk_H) : f_X10_hasPlug SHP [.ref 1, .int x] h = some (.int (if 0 ≤ x ∧ x < h 1 8 then 1 else 0), h) := by
  by_cases h1 : 0 ≤ x <;> by_cases h2 : x < h 1 8 <;> simp [f_X10_hasPlug, b_X10_hasPlug, h1, h2, qo_1_8, zk_sem, zk_flat, zk_env, Value.category, zk_ret, zk_ret0, zk_it, zk_or, zk_and, zk_not, zk_c1, zk_c2, zk_li, zk_lr, zk_ll, zk_c, zk_u, zk_b, zk_fi, zk_fd, zk_gi, zk_gn, zk_gl, zk_fl, zk_fs, zk_gf, zk_al, zk_aa, zk_ca, zk_ck, zk_rc, zk_ev, zk_seq, zk_skip, zk_if, zk_si, zk_sr, zk_inc, zk_okS, zk_pf, zk_pfo, zk_as, zk_aso, zk_xc, zk_rok, narrow]
theorem q_hasCar (x : Int32) (h : zk_H) : f_X10_hasCar SHP [.ref 1, .int x] h = some (.int (if 0 ≤ x ∧ x < h 1 9 then 1 else 0), h) := by
  by_cases h1 : 0 ≤ x <;> by_cases h2 : x < h 1 9 <;> simp [f_X10_hasCar, b_X10_hasCar, h1, h2, qo_1_9, zk_sem, zk_flat, zk_env, Value.category, zk_ret, zk_ret0, zk_it, zk_or, zk_and, zk_not, zk_c1, zk_c2, zk_li, zk_lr, zk_ll, zk_c, zk_u, zk_b, zk_fi, zk_fd, zk_gi, zk_gn, zk_gl, zk_fl, zk_fs, zk_gf, zk_al, zk_aa, zk_ca, zk_ck, zk_rc, zk_ev, zk_seq, zk_skip, zk_if, zk_si, zk_sr, zk_inc, zk_okS, zk_pf, zk_pfo, zk_as, zk_aso, zk_xc, zk_rok, narrow]
theorem q_isSite (x : Int32) (h : zk_H) : f_X12_isSite SHP [.ref 178, .int x] h = some (.int (if 0 ≤ x ∧ x ≤ h 179 1 - 1 then 1 else 0), h) := by
  have e : zk_rdA SHP (.ref 179) (.int 1) h = some (.int (h 179 1)) := qa_179 1 (by decide) h
  simp [f_X12_isSite, b_X12_isSite, q_in, qo_178_0, e, zk_sem, zk_flat, zk_env, Value.category, zk_ret, zk_ret0, zk_it, zk_or, zk_and, zk_not, zk_c1, zk_c2, zk_li, zk_lr, zk_ll, zk_c, zk_u, zk_b, zk_fi, zk_fd, zk_gi, zk_gn, zk_gl, zk_fl, zk_fs, zk_gf, zk_al, zk_aa, zk_ca, zk_ck, zk_rc, zk_ev, zk_seq, zk_skip, zk_if, zk_si, zk_sr, zk_inc, zk_okS, zk_pf, zk_pfo, zk_as, zk_aso, zk_xc, zk_rok, narrow]
  split <;> rfl
theorem q_isPlug (x : Int32) (h : zk_H) : f_X12_isPlug SHP [.ref 178, .int x] h = some (.int (if 0 ≤ x ∧ x ≤ h 179 2 - 1 then 1 else 0), h) := by
  have e : zk_rdA SHP (.ref 179) (.int 2) h = some (.int (h 179 2)) := qa_179 2 (by decide) h
  simp [f_X12_isPlug, b_X12_isPlug, q_in, qo_178_0, e, zk_sem, zk_flat, zk_env, Value.category, zk_ret, zk_ret0, zk_it, zk_or, zk_and, zk_not, zk_c1, zk_c2, zk_li, zk_lr, zk_ll, zk_c, zk_u, zk_b, zk_fi, zk_fd, zk_gi, zk_gn, zk_gl, zk_fl, zk_fs, zk_gf, zk_al, zk_aa, zk_ca, zk_ck, zk_rc, zk_ev, zk_seq, zk_skip, zk_if, zk_si, zk_sr, zk_inc, zk_okS, zk_pf, zk_pfo, zk_as, zk_aso, zk_xc, zk_rok, narrow]
  split <;> rfl
theorem q_isCar (x : Int32) (h : zk_H) : f_X12_isCar SHP [.ref 178, .int x] h = some (.int (if 0 ≤ x ∧ x ≤ h 179 3 - 1 then 1 else 0), h) := by
  have e : zk_rdA SHP (.ref 179) (.int 3) h = some (.int (h 179 3)) := qa_179 3 (by decide) h
  simp [f_X12_isCar, b_X12_isCar, q_in, qo_178_0, e, zk_sem, zk_flat, zk_env, Value.category, zk_ret, zk_ret0, zk_it, zk_or, zk_and, zk_not, zk_c1, zk_c2, zk_li, zk_lr, zk_ll, zk_c, zk_u, zk_b, zk_fi, zk_fd, zk_gi, zk_gn, zk_gl, zk_fl, zk_fs, zk_gf, zk_al, zk_aa, zk_ca, zk_ck, zk_rc, zk_ev, zk_seq, zk_skip, zk_if, zk_si, zk_sr, zk_inc, zk_okS, zk_pf, zk_pfo, zk_as, zk_aso, zk_xc, zk_rok, narrow]
  split <;> rfl
theorem q_get0 (c : Nat) (hc : c < 12) (h : zk_H) : f_X12_get SHP [.ref 178, .int (nI c), .int 0] h = some (.int (h 183 (16 * c)), h) := by
  have e0 : (16 : Int32) * nI c = nI (16 * c) := by
    rw [show (16 : Int32) = nI 16 from rfl, pk_mul]
  have e : zk_rdA SHP (.ref 183) (.int (nI (16 * c))) h = some (.int (h 183 (16 * c))) := qa_183 _ (by omega) h
  simp [f_X12_get, b_X12_get, qo_178_4, e0, e, zk_sem, zk_flat, zk_env, Value.category, zk_ret, zk_ret0, zk_it, zk_or, zk_and, zk_not, zk_c1, zk_c2, zk_li, zk_lr, zk_ll, zk_c, zk_u, zk_b, zk_fi, zk_fd, zk_gi, zk_gn, zk_gl, zk_fl, zk_fs, zk_gf, zk_al, zk_aa, zk_ca, zk_ck, zk_rc, zk_ev, zk_seq, zk_skip, zk_if, zk_si, zk_sr, zk_inc, zk_okS, zk_pf, zk_pfo, zk_as, zk_aso, zk_xc, zk_rok, narrow]
theorem q_put0 (c : Nat) (hc : c < 12) (x : Int32) (h : zk_H) : f_X12_put SHP [.ref 178, .int (nI c), .int 0, .int x] h = some (.null, zk_up h 183 (16 * c) x) := by
  have e0 : (16 : Int32) * nI c = nI (16 * c) := by
    rw [show (16 : Int32) = nI 16 from rfl, pk_mul]
  have e : zk_wrA SHP (.ref 183) (.int (nI (16 * c))) (.int x) h = some (zk_up h 183 (16 * c) x) := qw_183 _ (by omega) x h
  simp [f_X12_put, b_X12_put, qo_178_4, e0, e, zk_sem, zk_flat, zk_env, Value.category, zk_ret, zk_ret0, zk_it, zk_or, zk_and, zk_not, zk_c1, zk_c2, zk_li, zk_lr, zk_ll, zk_c, zk_u, zk_b, zk_fi, zk_fd, zk_gi, zk_gn, zk_gl, zk_fl, zk_fs, zk_gf, zk_al, zk_aa, zk_ca, zk_ck, zk_rc, zk_ev, zk_seq, zk_skip, zk_if, zk_si, zk_sr, zk_inc, zk_okS, zk_pf, zk_pfo, zk_as, zk_aso, zk_xc, zk_rok, narrow]
theorem q_more0 (c : Nat) (hc : c < 12) (x : Int32) (h : zk_H) : f_X12_more SHP [.ref 178, .int (nI c), .int 0, .int x] h = some (.null, zk_up h 183 (16 * c) (h 183 (16 * c) + x)) := by
  have e0 : (16 : Int32) * nI c = nI (16 * c) := by
    rw [show (16 : Int32) = nI 16 from rfl, pk_mul]
  have e : zk_rdA SHP (.ref 183) (.int (nI (16 * c))) h = some (.int (h 183 (16 * c))) := qa_183 _ (by omega) h
  have e2 : ∀ y, zk_wrA SHP (.ref 183) (.int (nI (16 * c))) (.int y) h = some (zk_up h 183 (16 * c) y) := fun y => qw_183 _ (by omega) y h
  simp [f_X12_more, b_X12_more, qo_178_4, e0, e, e2, zk_sem, zk_flat, zk_env, Value.category, zk_ret, zk_ret0, zk_it, zk_or, zk_and, zk_not, zk_c1, zk_c2, zk_li, zk_lr, zk_ll, zk_c, zk_u, zk_b, zk_fi, zk_fd, zk_gi, zk_gn, zk_gl, zk_fl, zk_fs, zk_gf, zk_al, zk_aa, zk_ca, zk_ck, zk_rc, zk_ev, zk_seq, zk_skip, zk_if, zk_si, zk_sr, zk_inc, zk_okS, zk_pf, zk_pfo, zk_as, zk_aso, zk_xc, zk_rok, narrow]
theorem q_get1 (c : Nat) (hc : c < 12) (h : zk_H) : f_X12_get SHP [.ref 178, .int (nI c), .int 1] h = some (.int (h 183 (16 * c + 1)), h) := by
  have e0 : (16 : Int32) * nI c + 1 = nI (16 * c + 1) := by
    rw [show (16 : Int32) = nI 16 from rfl, show (1 : Int32) = nI 1 from rfl, pk_mul, nI_add]
  have e : zk_rdA SHP (.ref 183) (.int (nI (16 * c + 1))) h = some (.int (h 183 (16 * c + 1))) := qa_183 _ (by omega) h
  simp [f_X12_get, b_X12_get, qo_178_4, e0, e, zk_sem, zk_flat, zk_env, Value.category, zk_ret, zk_ret0, zk_it, zk_or, zk_and, zk_not, zk_c1, zk_c2, zk_li, zk_lr, zk_ll, zk_c, zk_u, zk_b, zk_fi, zk_fd, zk_gi, zk_gn, zk_gl, zk_fl, zk_fs, zk_gf, zk_al, zk_aa, zk_ca, zk_ck, zk_rc, zk_ev, zk_seq, zk_skip, zk_if, zk_si, zk_sr, zk_inc, zk_okS, zk_pf, zk_pfo, zk_as, zk_aso, zk_xc, zk_rok, narrow]
theorem q_put1 (c : Nat) (hc : c < 12) (x : Int32) (h : zk_H) : f_X12_put SHP [.ref 178, .int (nI c), .int 1, .int x] h = some (.null, zk_up h 183 (16 * c + 1) x) := by
  have e0 : (16 : Int32) * nI c + 1 = nI (16 * c + 1) := by
    rw [show (16 : Int32) = nI 16 from rfl, show (1 : Int32) = nI 1 from rfl, pk_mul, nI_add]
  have e : zk_wrA SHP (.ref 183) (.int (nI (16 * c + 1))) (.int x) h = some (zk_up h 183 (16 * c + 1) x) := qw_183 _ (by omega) x h
  simp [f_X12_put, b_X12_put, qo_178_4, e0, e, zk_sem, zk_flat, zk_env, Value.category, zk_ret, zk_ret0, zk_it, zk_or, zk_and, zk_not, zk_c1, zk_c2, zk_li, zk_lr, zk_ll, zk_c, zk_u, zk_b, zk_fi, zk_fd, zk_gi, zk_gn, zk_gl, zk_fl, zk_fs, zk_gf, zk_al, zk_aa, zk_ca, zk_ck, zk_rc, zk_ev, zk_seq, zk_skip, zk_if, zk_si, zk_sr, zk_inc, zk_okS, zk_pf, zk_pfo, zk_as, zk_aso, zk_xc, zk_rok, narrow]
theorem q_more1 (c : Nat) (hc : c < 12) (x : Int32) (h : zk_H) : f_X12_more SHP [.ref 178, .int (nI c), .int 1, .int x] h = some (.null, zk_up h 183 (16 * c + 1) (h 183 (16 * c + 1) + x)) := by
  have e0 : (16 : Int32) * nI c + 1 = nI (16 * c + 1) := by
    rw [show (16 : Int32) = nI 16 from rfl, show (1 : Int32) = nI 1 from rfl, pk_mul, nI_add]
  have e : zk_rdA SHP (.ref 183) (.int (nI (16 * c + 1))) h = some (.int (h 183 (16 * c + 1))) := qa_183 _ (by omega) h
  have e2 : ∀ y, zk_wrA SHP (.ref 183) (.int (nI (16 * c + 1))) (.int y) h = some (zk_up h 183 (16 * c + 1) y) := fun y => qw_183 _ (by omega) y h
  simp [f_X12_more, b_X12_more, qo_178_4, e0, e, e2, zk_sem, zk_flat, zk_env, Value.category, zk_ret, zk_ret0, zk_it, zk_or, zk_and, zk_not, zk_c1, zk_c2, zk_li, zk_lr, zk_ll, zk_c, zk_u, zk_b, zk_fi, zk_fd, zk_gi, zk_gn, zk_gl, zk_fl, zk_fs, zk_gf, zk_al, zk_aa, zk_ca, zk_ck, zk_rc, zk_ev, zk_seq, zk_skip, zk_if, zk_si, zk_sr, zk_inc, zk_okS, zk_pf, zk_pfo, zk_as, zk_aso, zk_xc, zk_rok, narrow]
theorem q_get2 (c : Nat) (hc : c < 12) (h : zk_H) : f_X12_get SHP [.ref 178, .int (nI c), .int 2] h = some (.int (h 183 (16 * c + 2)), h) := by
  have e0 : (16 : Int32) * nI c + 2 = nI (16 * c + 2) := by
    rw [show (16 : Int32) = nI 16 from rfl, show (2 : Int32) = nI 2 from rfl, pk_mul, nI_add]
  have e : zk_rdA SHP (.ref 183) (.int (nI (16 * c + 2))) h = some (.int (h 183 (16 * c + 2))) := qa_183 _ (by omega) h
  simp [f_X12_get, b_X12_get, qo_178_4, e0, e, zk_sem, zk_flat, zk_env, Value.category, zk_ret, zk_ret0, zk_it, zk_or, zk_and, zk_not, zk_c1, zk_c2, zk_li, zk_lr, zk_ll, zk_c, zk_u, zk_b, zk_fi, zk_fd, zk_gi, zk_gn, zk_gl, zk_fl, zk_fs, zk_gf, zk_al, zk_aa, zk_ca, zk_ck, zk_rc, zk_ev, zk_seq, zk_skip, zk_if, zk_si, zk_sr, zk_inc, zk_okS, zk_pf, zk_pfo, zk_as, zk_aso, zk_xc, zk_rok, narrow]
theorem q_put2 (c : Nat) (hc : c < 12) (x : Int32) (h : zk_H) : f_X12_put SHP [.ref 178, .int (nI c), .int 2, .int x] h = some (.null, zk_up h 183 (16 * c + 2) x) := by
  have e0 : (16 : Int32) * nI c + 2 = nI (16 * c + 2) := by
    rw [show (16 : Int32) = nI 16 from rfl, show (2 : Int32) = nI 2 from rfl, pk_mul, nI_add]
  have e : zk_wrA SHP (.ref 183) (.int (nI (16 * c + 2))) (.int x) h = some (zk_up h 183 (16 * c + 2) x) := qw_183 _ (by omega) x h
  simp [f_X12_put, b_X12_put, qo_178_4, e0, e, zk_sem, zk_flat, zk_env, Value.category, zk_ret, zk_ret0, zk_it, zk_or, zk_and, zk_not, zk_c1, zk_c2, zk_li, zk_lr, zk_ll, zk_c, zk_u, zk_b, zk_fi, zk_fd, zk_gi, zk_gn, zk_gl, zk_fl, zk_fs, zk_gf, zk_al, zk_aa, zk_ca, zk_ck, zk_rc, zk_ev, zk_seq, zk_skip, zk_if, zk_si, zk_sr, zk_inc, zk_okS, zk_pf, zk_pfo, zk_as, zk_aso, zk_xc, zk_rok, narrow]
theorem q_more2 (c : Nat) (hc : c < 12) (x : Int32) (h : zk_H) : f_X12_more SHP [.ref 178, .int (nI c), .int 2, .int x] h = some (.null, zk_up h 183 (16 * c + 2) (h 183 (16 * c + 2) + x)) := by
  have e0 : (16 : Int32) * nI c + 2 = nI (16 * c + 2) := by
    rw [show (16 : Int32) = nI 16 from rfl, show (2 : Int32) = nI 2 from rfl, pk_mul, nI_add]
  have e : zk_rdA SHP (.ref 183) (.int (nI (16 * c + 2))) h = some (.int (h 183 (16 * c + 2))) := qa_183 _ (by omega) h
  have e2 : ∀ y, zk_wrA SHP (.ref 183) (.int (nI (16 * c + 2))) (.int y) h = some (zk_up h 183 (16 * c + 2) y) := fun y => qw_183 _ (by omega) y h
  simp [f_X12_more, b_X12_more, qo_178_4, e0, e, e2, zk_sem, zk_flat, zk_env, Value.category, zk_ret, zk_ret0, zk_it, zk_or, zk_and, zk_not, zk_c1, zk_c2, zk_li, zk_lr, zk_ll, zk_c, zk_u, zk_b, zk_fi, zk_fd, zk_gi, zk_gn, zk_gl, zk_fl, zk_fs, zk_gf, zk_al, zk_aa, zk_ca, zk_ck, zk_rc, zk_ev, zk_seq, zk_skip, zk_if, zk_si, zk_sr, zk_inc, zk_okS, zk_pf, zk_pfo, zk_as, zk_aso, zk_xc, zk_rok, narrow]
theorem q_get3 (c : Nat) (hc : c < 12) (h : zk_H) : f_X12_get SHP [.ref 178, .int (nI c), .int 3] h = some (.int (h 183 (16 * c + 3)), h) := by
  have e0 : (16 : Int32) * nI c + 3 = nI (16 * c + 3) := by
    rw [show (16 : Int32) = nI 16 from rfl, show (3 : Int32) = nI 3 from rfl, pk_mul, nI_add]
  have e : zk_rdA SHP (.ref 183) (.int (nI (16 * c + 3))) h = some (.int (h 183 (16 * c + 3))) := qa_183 _ (by omega) h
  simp [f_X12_get, b_X12_get, qo_178_4, e0, e, zk_sem, zk_flat, zk_env, Value.category, zk_ret, zk_ret0, zk_it, zk_or, zk_and, zk_not, zk_c1, zk_c2, zk_li, zk_lr, zk_ll, zk_c, zk_u, zk_b, zk_fi, zk_fd, zk_gi, zk_gn, zk_gl, zk_fl, zk_fs, zk_gf, zk_al, zk_aa, zk_ca, zk_ck, zk_rc, zk_ev, zk_seq, zk_skip, zk_if, zk_si, zk_sr, zk_inc, zk_okS, zk_pf, zk_pfo, zk_as, zk_aso, zk_xc, zk_rok, narrow]
theorem q_put3 (c : Nat) (hc : c < 12) (x : Int32) (h : zk_H) : f_X12_put SHP [.ref 178, .int (nI c), .int 3, .int x] h = some (.null, zk_up h 183 (16 * c + 3) x) := by
  have e0 : (16 : Int32) * nI c + 3 = nI (16 * c + 3) := by
    rw [show (16 : Int32) = nI 16 from rfl, show (3 : Int32) = nI 3 from rfl, pk_mul, nI_add]
  have e : zk_wrA SHP (.ref 183) (.int (nI (16 * c + 3))) (.int x) h = some (zk_up h 183 (16 * c + 3) x) := qw_183 _ (by omega) x h
  simp [f_X12_put, b_X12_put, qo_178_4, e0, e, zk_sem, zk_flat, zk_env, Value.category, zk_ret, zk_ret0, zk_it, zk_or, zk_and, zk_not, zk_c1, zk_c2, zk_li, zk_lr, zk_ll, zk_c, zk_u, zk_b, zk_fi, zk_fd, zk_gi, zk_gn, zk_gl, zk_fl, zk_fs, zk_gf, zk_al, zk_aa, zk_ca, zk_ck, zk_rc, zk_ev, zk_seq, zk_skip, zk_if, zk_si, zk_sr, zk_inc, zk_okS, zk_pf, zk_pfo, zk_as, zk_aso, zk_xc, zk_rok, narrow]
theorem q_more3 (c : Nat) (hc : c < 12) (x : Int32) (h : zk_H) : f_X12_more SHP [.ref 178, .int (nI c), .int 3, .int x] h = some (.null, zk_up h 183 (16 * c + 3) (h 183 (16 * c + 3) + x)) := by
  have e0 : (16 : Int32) * nI c + 3 = nI (16 * c + 3) := by
    rw [show (16 : Int32) = nI 16 from rfl, show (3 : Int32) = nI 3 from rfl, pk_mul, nI_add]
  have e : zk_rdA SHP (.ref 183) (.int (nI (16 * c + 3))) h = some (.int (h 183 (16 * c + 3))) := qa_183 _ (by omega) h
  have e2 : ∀ y, zk_wrA SHP (.ref 183) (.int (nI (16 * c + 3))) (.int y) h = some (zk_up h 183 (16 * c + 3) y) := fun y => qw_183 _ (by omega) y h
  simp [f_X12_more, b_X12_more, qo_178_4, e0, e, e2, zk_sem, zk_flat, zk_env, Value.category, zk_ret, zk_ret0, zk_it, zk_or, zk_and, zk_not, zk_c1, zk_c2, zk_li, zk_lr, zk_ll, zk_c, zk_u, zk_b, zk_fi, zk_fd, zk_gi, zk_gn, zk_gl, zk_fl, zk_fs, zk_gf, zk_al, zk_aa, zk_ca, zk_ck, zk_rc, zk_ev, zk_seq, zk_skip, zk_if, zk_si, zk_sr, zk_inc, zk_okS, zk_pf, zk_pfo, zk_as, zk_aso, zk_xc, zk_rok, narrow]
theorem q_get4 (c : Nat) (hc : c < 12) (h : zk_H) : f_X12_get SHP [.ref 178, .int (nI c), .int 4] h = some (.int (h 183 (16 * c + 4)), h) := by
  have e0 : (16 : Int32) * nI c + 4 = nI (16 * c + 4) := by
    rw [show (16 : Int32) = nI 16 from rfl, show (4 : Int32) = nI 4 from rfl, pk_mul, nI_add]
  have e : zk_rdA SHP (.ref 183) (.int (nI (16 * c + 4))) h = some (.int (h 183 (16 * c + 4))) := qa_183 _ (by omega) h
  simp [f_X12_get, b_X12_get, qo_178_4, e0, e, zk_sem, zk_flat, zk_env, Value.category, zk_ret, zk_ret0, zk_it, zk_or, zk_and, zk_not, zk_c1, zk_c2, zk_li, zk_lr, zk_ll, zk_c, zk_u, zk_b, zk_fi, zk_fd, zk_gi, zk_gn, zk_gl, zk_fl, zk_fs, zk_gf, zk_al, zk_aa, zk_ca, zk_ck, zk_rc, zk_ev, zk_seq, zk_skip, zk_if, zk_si, zk_sr, zk_inc, zk_okS, zk_pf, zk_pfo, zk_as, zk_aso, zk_xc, zk_rok, narrow]
theorem q_put4 (c : Nat) (hc : c < 12) (x : Int32) (h : zk_H) : f_X12_put SHP [.ref 178, .int (nI c), .int 4, .int x] h = some (.null, zk_up h 183 (16 * c + 4) x) := by
  have e0 : (16 : Int32) * nI c + 4 = nI (16 * c + 4) := by
    rw [show (16 : Int32) = nI 16 from rfl, show (4 : Int32) = nI 4 from rfl, pk_mul, nI_add]
  have e : zk_wrA SHP (.ref 183) (.int (nI (16 * c + 4))) (.int x) h = some (zk_up h 183 (16 * c + 4) x) := qw_183 _ (by omega) x h
  simp [f_X12_put, b_X12_put, qo_178_4, e0, e, zk_sem, zk_flat, zk_env, Value.category, zk_ret, zk_ret0, zk_it, zk_or, zk_and, zk_not, zk_c1, zk_c2, zk_li, zk_lr, zk_ll, zk_c, zk_u, zk_b, zk_fi, zk_fd, zk_gi, zk_gn, zk_gl, zk_fl, zk_fs, zk_gf, zk_al, zk_aa, zk_ca, zk_ck, zk_rc, zk_ev, zk_seq, zk_skip, zk_if, zk_si, zk_sr, zk_inc, zk_okS, zk_pf, zk_pfo, zk_as, zk_aso, zk_xc, zk_rok, narrow]
theorem q_more4 (c : Nat) (hc : c < 12) (x : Int32) (h : zk_H) : f_X12_more SHP [.ref 178, .int (nI c), .int 4, .int x] h = some (.null, zk_up h 183 (16 * c + 4) (h 183 (16 * c + 4) + x)) := by
  have e0 : (16 : Int32) * nI c + 4 = nI (16 * c + 4) := by
    rw [show (16 : Int32) = nI 16 from rfl, show (4 : Int32) = nI 4 from rfl, pk_mul, nI_add]
  have e : zk_rdA SHP (.ref 183) (.int (nI (16 * c + 4))) h = some (.int (h 183 (16 * c + 4))) := qa_183 _ (by omega) h
  have e2 : ∀ y, zk_wrA SHP (.ref 183) (.int (nI (16 * c + 4))) (.int y) h = some (zk_up h 183 (16 * c + 4) y) := fun y => qw_183 _ (by omega) y h
  simp [f_X12_more, b_X12_more, qo_178_4, e0, e, e2, zk_sem, zk_flat, zk_env, Value.category, zk_ret, zk_ret0, zk_it, zk_or, zk_and, zk_not, zk_c1, zk_c2, zk_li, zk_lr, zk_ll, zk_c, zk_u, zk_b, zk_fi, zk_fd, zk_gi, zk_gn, zk_gl, zk_fl, zk_fs, zk_gf, zk_al, zk_aa, zk_ca, zk_ck, zk_rc, zk_ev, zk_seq, zk_skip, zk_if, zk_si, zk_sr, zk_inc, zk_okS, zk_pf, zk_pfo, zk_as, zk_aso, zk_xc, zk_rok, narrow]
theorem q_get5 (c : Nat) (hc : c < 12) (h : zk_H) : f_X12_get SHP [.ref 178, .int (nI c), .int 5] h = some (.int (h 183 (16 * c + 5)), h) := by
  have e0 : (16 : Int32) * nI c + 5 = nI (16 * c + 5) := by
    rw [show (16 : Int32) = nI 16 from rfl, show (5 : Int32) = nI 5 from rfl, pk_mul, nI_add]
  have e : zk_rdA SHP (.ref 183) (.int (nI (16 * c + 5))) h = some (.int (h 183 (16 * c + 5))) := qa_183 _ (by omega) h
  simp [f_X12_get, b_X12_get, qo_178_4, e0, e, zk_sem, zk_flat, zk_env, Value.category, zk_ret, zk_ret0, zk_it, zk_or, zk_and, zk_not, zk_c1, zk_c2, zk_li, zk_lr, zk_ll, zk_c, zk_u, zk_b, zk_fi, zk_fd, zk_gi, zk_gn, zk_gl, zk_fl, zk_fs, zk_gf, zk_al, zk_aa, zk_ca, zk_ck, zk_rc, zk_ev, zk_seq, zk_skip, zk_if, zk_si, zk_sr, zk_inc, zk_okS, zk_pf, zk_pfo, zk_as, zk_aso, zk_xc, zk_rok, narrow]
theorem q_put5 (c : Nat) (hc : c < 12) (x : Int32) (h : zk_H) : f_X12_put SHP [.ref 178, .int (nI c), .int 5, .int x] h = some (.null, zk_up h 183 (16 * c + 5) x) := by
  have e0 : (16 : Int32) * nI c + 5 = nI (16 * c + 5) := by
    rw [show (16 : Int32) = nI 16 from rfl, show (5 : Int32) = nI 5 from rfl, pk_mul, nI_add]
  have e : zk_wrA SHP (.ref 183) (.int (nI (16 * c + 5))) (.int x) h = some (zk_up h 183 (16 * c + 5) x) := qw_183 _ (by omega) x h
  simp [f_X12_put, b_X12_put, qo_178_4, e0, e, zk_sem, zk_flat, zk_env, Value.category, zk_ret, zk_ret0, zk_it, zk_or, zk_and, zk_not, zk_c1, zk_c2, zk_li, zk_lr, zk_ll, zk_c, zk_u, zk_b, zk_fi, zk_fd, zk_gi, zk_gn, zk_gl, zk_fl, zk_fs, zk_gf, zk_al, zk_aa, zk_ca, zk_ck, zk_rc, zk_ev, zk_seq, zk_skip, zk_if, zk_si, zk_sr, zk_inc, zk_okS, zk_pf, zk_pfo, zk_as, zk_aso, zk_xc, zk_rok, narrow]
theorem q_more5 (c : Nat) (hc : c < 12) (x : Int32) (h : zk_H) : f_X12_more SHP [.ref 178, .int (nI c), .int 5, .int x] h = some (.null, zk_up h 183 (16 * c + 5) (h 183 (16 * c + 5) + x)) := by
  have e0 : (16 : Int32) * nI c + 5 = nI (16 * c + 5) := by
    rw [show (16 : Int32) = nI 16 from rfl, show (5 : Int32) = nI 5 from rfl, pk_mul, nI_add]
  have e : zk_rdA SHP (.ref 183) (.int (nI (16 * c + 5))) h = some (.int (h 183 (16 * c + 5))) := qa_183 _ (by omega) h
  have e2 : ∀ y, zk_wrA SHP (.ref 183) (.int (nI (16 * c + 5))) (.int y) h = some (zk_up h 183 (16 * c + 5) y) := fun y => qw_183 _ (by omega) y h
  simp [f_X12_more, b_X12_more, qo_178_4, e0, e, e2, zk_sem, zk_flat, zk_env, Value.category, zk_ret, zk_ret0, zk_it, zk_or, zk_and, zk_not, zk_c1, zk_c2, zk_li, zk_lr, zk_ll, zk_c, zk_u, zk_b, zk_fi, zk_fd, zk_gi, zk_gn, zk_gl, zk_fl, zk_fs, zk_gf, zk_al, zk_aa, zk_ca, zk_ck, zk_rc, zk_ev, zk_seq, zk_skip, zk_if, zk_si, zk_sr, zk_inc, zk_okS, zk_pf, zk_pfo, zk_as, zk_aso, zk_xc, zk_rok, narrow]
theorem q_get6 (c : Nat) (hc : c < 12) (h : zk_H) : f_X12_get SHP [.ref 178, .int (nI c), .int 6] h = some (.int (h 183 (16 * c + 6)), h) := by
  have e0 : (16 : Int32) * nI c + 6 = nI (16 * c + 6) := by
    rw [show (16 : Int32) = nI 16 from rfl, show (6 : Int32) = nI 6 from rfl, pk_mul, nI_add]
  have e : zk_rdA SHP (.ref 183) (.int (nI (16 * c + 6))) h = some (.int (h 183 (16 * c + 6))) := qa_183 _ (by omega) h
  simp [f_X12_get, b_X12_get, qo_178_4, e0, e, zk_sem, zk_flat, zk_env, Value.category, zk_ret, zk_ret0, zk_it, zk_or, zk_and, zk_not, zk_c1, zk_c2, zk_li, zk_lr, zk_ll, zk_c, zk_u, zk_b, zk_fi, zk_fd, zk_gi, zk_gn, zk_gl, zk_fl, zk_fs, zk_gf, zk_al, zk_aa, zk_ca, zk_ck, zk_rc, zk_ev, zk_seq, zk_skip, zk_if, zk_si, zk_sr, zk_inc, zk_okS, zk_pf, zk_pfo, zk_as, zk_aso, zk_xc, zk_rok, narrow]
theorem q_put6 (c : Nat) (hc : c < 12) (x : Int32) (h : zk_H) : f_X12_put SHP [.ref 178, .int (nI c), .int 6, .int x] h = some (.null, zk_up h 183 (16 * c + 6) x) := by
  have e0 : (16 : Int32) * nI c + 6 = nI (16 * c + 6) := by
    rw [show (16 : Int32) = nI 16 from rfl, show (6 : Int32) = nI 6 from rfl, pk_mul, nI_add]
  have e : zk_wrA SHP (.ref 183) (.int (nI (16 * c + 6))) (.int x) h = some (zk_up h 183 (16 * c + 6) x) := qw_183 _ (by omega) x h
  simp [f_X12_put, b_X12_put, qo_178_4, e0, e, zk_sem, zk_flat, zk_env, Value.category, zk_ret, zk_ret0, zk_it, zk_or, zk_and, zk_not, zk_c1, zk_c2, zk_li, zk_lr, zk_ll, zk_c, zk_u, zk_b, zk_fi, zk_fd, zk_gi, zk_gn, zk_gl, zk_fl, zk_fs, zk_gf, zk_al, zk_aa, zk_ca, zk_ck, zk_rc, zk_ev, zk_seq, zk_skip, zk_if, zk_si, zk_sr, zk_inc, zk_okS, zk_pf, zk_pfo, zk_as, zk_aso, zk_xc, zk_rok, narrow]
theorem q_more6 (c : Nat) (hc : c < 12) (x : Int32) (h : zk_H) : f_X12_more SHP [.ref 178, .int (nI c), .int 6, .int x] h = some (.null, zk_up h 183 (16 * c + 6) (h 183 (16 * c + 6) + x)) := by
  have e0 : (16 : Int32) * nI c + 6 = nI (16 * c + 6) := by
    rw [show (16 : Int32) = nI 16 from rfl, show (6 : Int32) = nI 6 from rfl, pk_mul, nI_add]
  have e : zk_rdA SHP (.ref 183) (.int (nI (16 * c + 6))) h = some (.int (h 183 (16 * c + 6))) := qa_183 _ (by omega) h
  have e2 : ∀ y, zk_wrA SHP (.ref 183) (.int (nI (16 * c + 6))) (.int y) h = some (zk_up h 183 (16 * c + 6) y) := fun y => qw_183 _ (by omega) y h
  simp [f_X12_more, b_X12_more, qo_178_4, e0, e, e2, zk_sem, zk_flat, zk_env, Value.category, zk_ret, zk_ret0, zk_it, zk_or, zk_and, zk_not, zk_c1, zk_c2, zk_li, zk_lr, zk_ll, zk_c, zk_u, zk_b, zk_fi, zk_fd, zk_gi, zk_gn, zk_gl, zk_fl, zk_fs, zk_gf, zk_al, zk_aa, zk_ca, zk_ck, zk_rc, zk_ev, zk_seq, zk_skip, zk_if, zk_si, zk_sr, zk_inc, zk_okS, zk_pf, zk_pfo, zk_as, zk_aso, zk_xc, zk_rok, narrow]
theorem q_get7 (c : Nat) (hc : c < 12) (h : zk_H) : f_X12_get SHP [.ref 178, .int (nI c), .int 7] h = some (.int (h 183 (16 * c + 7)), h) := by
  have e0 : (16 : Int32) * nI c + 7 = nI (16 * c + 7) := by
    rw [show (16 : Int32) = nI 16 from rfl, show (7 : Int32) = nI 7 from rfl, pk_mul, nI_add]
  have e : zk_rdA SHP (.ref 183) (.int (nI (16 * c + 7))) h = some (.int (h 183 (16 * c + 7))) := qa_183 _ (by omega) h
  simp [f_X12_get, b_X12_get, qo_178_4, e0, e, zk_sem, zk_flat, zk_env, Value.category, zk_ret, zk_ret0, zk_it, zk_or, zk_and, zk_not, zk_c1, zk_c2, zk_li, zk_lr, zk_ll, zk_c, zk_u, zk_b, zk_fi, zk_fd, zk_gi, zk_gn, zk_gl, zk_fl, zk_fs, zk_gf, zk_al, zk_aa, zk_ca, zk_ck, zk_rc, zk_ev, zk_seq, zk_skip, zk_if, zk_si, zk_sr, zk_inc, zk_okS, zk_pf, zk_pfo, zk_as, zk_aso, zk_xc, zk_rok, narrow]
theorem q_put7 (c : Nat) (hc : c < 12) (x : Int32) (h : zk_H) : f_X12_put SHP [.ref 178, .int (nI c), .int 7, .int x] h = some (.null, zk_up h 183 (16 * c + 7) x) := by
  have e0 : (16 : Int32) * nI c + 7 = nI (16 * c + 7) := by
    rw [show (16 : Int32) = nI 16 from rfl, show (7 : Int32) = nI 7 from rfl, pk_mul, nI_add]
  have e : zk_wrA SHP (.ref 183) (.int (nI (16 * c + 7))) (.int x) h = some (zk_up h 183 (16 * c + 7) x) := qw_183 _ (by omega) x h
  simp [f_X12_put, b_X12_put, qo_178_4, e0, e, zk_sem, zk_flat, zk_env, Value.category, zk_ret, zk_ret0, zk_it, zk_or, zk_and, zk_not, zk_c1, zk_c2, zk_li, zk_lr, zk_ll, zk_c, zk_u, zk_b, zk_fi, zk_fd, zk_gi, zk_gn, zk_gl, zk_fl, zk_fs, zk_gf, zk_al, zk_aa, zk_ca, zk_ck, zk_rc, zk_ev, zk_seq, zk_skip, zk_if, zk_si, zk_sr, zk_inc, zk_okS, zk_pf, zk_pfo, zk_as, zk_aso, zk_xc, zk_rok, narrow]
theorem q_more7 (c : Nat) (hc : c < 12) (x : Int32) (h : zk_H) : f_X12_more SHP [.ref 178, .int (nI c), .int 7, .int x] h = some (.null, zk_up h 183 (16 * c + 7) (h 183 (16 * c + 7) + x)) := by
  have e0 : (16 : Int32) * nI c + 7 = nI (16 * c + 7) := by
    rw [show (16 : Int32) = nI 16 from rfl, show (7 : Int32) = nI 7 from rfl, pk_mul, nI_add]
  have e : zk_rdA SHP (.ref 183) (.int (nI (16 * c + 7))) h = some (.int (h 183 (16 * c + 7))) := qa_183 _ (by omega) h
  have e2 : ∀ y, zk_wrA SHP (.ref 183) (.int (nI (16 * c + 7))) (.int y) h = some (zk_up h 183 (16 * c + 7) y) := fun y => qw_183 _ (by omega) y h
  simp [f_X12_more, b_X12_more, qo_178_4, e0, e, e2, zk_sem, zk_flat, zk_env, Value.category, zk_ret, zk_ret0, zk_it, zk_or, zk_and, zk_not, zk_c1, zk_c2, zk_li, zk_lr, zk_ll, zk_c, zk_u, zk_b, zk_fi, zk_fd, zk_gi, zk_gn, zk_gl, zk_fl, zk_fs, zk_gf, zk_al, zk_aa, zk_ca, zk_ck, zk_rc, zk_ev, zk_seq, zk_skip, zk_if, zk_si, zk_sr, zk_inc, zk_okS, zk_pf, zk_pfo, zk_as, zk_aso, zk_xc, zk_rok, narrow]
theorem q_get8 (c : Nat) (hc : c < 12) (h : zk_H) : f_X12_get SHP [.ref 178, .int (nI c), .int 8] h = some (.int (h 183 (16 * c + 8)), h) := by
  have e0 : (16 : Int32) * nI c + 8 = nI (16 * c + 8) := by
    rw [show (16 : Int32) = nI 16 from rfl, show (8 : Int32) = nI 8 from rfl, pk_mul, nI_add]
  have e : zk_rdA SHP (.ref 183) (.int (nI (16 * c + 8))) h = some (.int (h 183 (16 * c + 8))) := qa_183 _ (by omega) h
  simp [f_X12_get, b_X12_get, qo_178_4, e0, e, zk_sem, zk_flat, zk_env, Value.category, zk_ret, zk_ret0, zk_it, zk_or, zk_and, zk_not, zk_c1, zk_c2, zk_li, zk_lr, zk_ll, zk_c, zk_u, zk_b, zk_fi, zk_fd, zk_gi, zk_gn, zk_gl, zk_fl, zk_fs, zk_gf, zk_al, zk_aa, zk_ca, zk_ck, zk_rc, zk_ev, zk_seq, zk_skip, zk_if, zk_si, zk_sr, zk_inc, zk_okS, zk_pf, zk_pfo, zk_as, zk_aso, zk_xc, zk_rok, narrow]
theorem q_put8 (c : Nat) (hc : c < 12) (x : Int32) (h : zk_H) : f_X12_put SHP [.ref 178, .int (nI c), .int 8, .int x] h = some (.null, zk_up h 183 (16 * c + 8) x) := by
  have e0 : (16 : Int32) * nI c + 8 = nI (16 * c + 8) := by
    rw [show (16 : Int32) = nI 16 from rfl, show (8 : Int32) = nI 8 from rfl, pk_mul, nI_add]
  have e : zk_wrA SHP (.ref 183) (.int (nI (16 * c + 8))) (.int x) h = some (zk_up h 183 (16 * c + 8) x) := qw_183 _ (by omega) x h
  simp [f_X12_put, b_X12_put, qo_178_4, e0, e, zk_sem, zk_flat, zk_env, Value.category, zk_ret, zk_ret0, zk_it, zk_or, zk_and, zk_not, zk_c1, zk_c2, zk_li, zk_lr, zk_ll, zk_c, zk_u, zk_b, zk_fi, zk_fd, zk_gi, zk_gn, zk_gl, zk_fl, zk_fs, zk_gf, zk_al, zk_aa, zk_ca, zk_ck, zk_rc, zk_ev, zk_seq, zk_skip, zk_if, zk_si, zk_sr, zk_inc, zk_okS, zk_pf, zk_pfo, zk_as, zk_aso, zk_xc, zk_rok, narrow]
theorem q_more8 (c : Nat) (hc : c < 12) (x : Int32) (h : zk_H) : f_X12_more SHP [.ref 178, .int (nI c), .int 8, .int x] h = some (.null, zk_up h 183 (16 * c + 8) (h 183 (16 * c + 8) + x)) := by
  have e0 : (16 : Int32) * nI c + 8 = nI (16 * c + 8) := by
    rw [show (16 : Int32) = nI 16 from rfl, show (8 : Int32) = nI 8 from rfl, pk_mul, nI_add]
  have e : zk_rdA SHP (.ref 183) (.int (nI (16 * c + 8))) h = some (.int (h 183 (16 * c + 8))) := qa_183 _ (by omega) h
  have e2 : ∀ y, zk_wrA SHP (.ref 183) (.int (nI (16 * c + 8))) (.int y) h = some (zk_up h 183 (16 * c + 8) y) := fun y => qw_183 _ (by omega) y h
  simp [f_X12_more, b_X12_more, qo_178_4, e0, e, e2, zk_sem, zk_flat, zk_env, Value.category, zk_ret, zk_ret0, zk_it, zk_or, zk_and, zk_not, zk_c1, zk_c2, zk_li, zk_lr, zk_ll, zk_c, zk_u, zk_b, zk_fi, zk_fd, zk_gi, zk_gn, zk_gl, zk_fl, zk_fs, zk_gf, zk_al, zk_aa, zk_ca, zk_ck, zk_rc, zk_ev, zk_seq, zk_skip, zk_if, zk_si, zk_sr, zk_inc, zk_okS, zk_pf, zk_pfo, zk_as, zk_aso, zk_xc, zk_rok, narrow]
theorem q_get9 (c : Nat) (hc : c < 12) (h : zk_H) : f_X12_get SHP [.ref 178, .int (nI c), .int 9] h = some (.int (h 183 (16 * c + 9)), h) := by
  have e0 : (16 : Int32) * nI c + 9 = nI (16 * c + 9) := by
    rw [show (16 : Int32) = nI 16 from rfl, show (9 : Int32) = nI 9 from rfl, pk_mul, nI_add]
  have e : zk_rdA SHP (.ref 183) (.int (nI (16 * c + 9))) h = some (.int (h 183 (16 * c + 9))) := qa_183 _ (by omega) h
  simp [f_X12_get, b_X12_get, qo_178_4, e0, e, zk_sem, zk_flat, zk_env, Value.category, zk_ret, zk_ret0, zk_it, zk_or, zk_and, zk_not, zk_c1, zk_c2, zk_li, zk_lr, zk_ll, zk_c, zk_u, zk_b, zk_fi, zk_fd, zk_gi, zk_gn, zk_gl, zk_fl, zk_fs, zk_gf, zk_al, zk_aa, zk_ca, zk_ck, zk_rc, zk_ev, zk_seq, zk_skip, zk_if, zk_si, zk_sr, zk_inc, zk_okS, zk_pf, zk_pfo, zk_as, zk_aso, zk_xc, zk_rok, narrow]
theorem q_put9 (c : Nat) (hc : c < 12) (x : Int32) (h : zk_H) : f_X12_put SHP [.ref 178, .int (nI c), .int 9, .int x] h = some (.null, zk_up h 183 (16 * c + 9) x) := by
  have e0 : (16 : Int32) * nI c + 9 = nI (16 * c + 9) := by
    rw [show (16 : Int32) = nI 16 from rfl, show (9 : Int32) = nI 9 from rfl, pk_mul, nI_add]
  have e : zk_wrA SHP (.ref 183) (.int (nI (16 * c + 9))) (.int x) h = some (zk_up h 183 (16 * c + 9) x) := qw_183 _ (by omega) x h
  simp [f_X12_put, b_X12_put, qo_178_4, e0, e, zk_sem, zk_flat, zk_env, Value.category, zk_ret, zk_ret0, zk_it, zk_or, zk_and, zk_not, zk_c1, zk_c2, zk_li, zk_lr, zk_ll, zk_c, zk_u, zk_b, zk_fi, zk_fd, zk_gi, zk_gn, zk_gl, zk_fl, zk_fs, zk_gf, zk_al, zk_aa, zk_ca, zk_ck, zk_rc, zk_ev, zk_seq, zk_skip, zk_if, zk_si, zk_sr, zk_inc, zk_okS, zk_pf, zk_pfo, zk_as, zk_aso, zk_xc, zk_rok, narrow]
theorem q_more9 (c : Nat) (hc : c < 12) (x : Int32) (h : zk_H) : f_X12_more SHP [.ref 178, .int (nI c), .int 9, .int x] h = some (.null, zk_up h 183 (16 * c + 9) (h 183 (16 * c + 9) + x)) := by
  have e0 : (16 : Int32) * nI c + 9 = nI (16 * c + 9) := by
    rw [show (16 : Int32) = nI 16 from rfl, show (9 : Int32) = nI 9 from rfl, pk_mul, nI_add]
  have e : zk_rdA SHP (.ref 183) (.int (nI (16 * c + 9))) h = some (.int (h 183 (16 * c + 9))) := qa_183 _ (by omega) h
  have e2 : ∀ y, zk_wrA SHP (.ref 183) (.int (nI (16 * c + 9))) (.int y) h = some (zk_up h 183 (16 * c + 9) y) := fun y => qw_183 _ (by omega) y h
  simp [f_X12_more, b_X12_more, qo_178_4, e0, e, e2, zk_sem, zk_flat, zk_env, Value.category, zk_ret, zk_ret0, zk_it, zk_or, zk_and, zk_not, zk_c1, zk_c2, zk_li, zk_lr, zk_ll, zk_c, zk_u, zk_b, zk_fi, zk_fd, zk_gi, zk_gn, zk_gl, zk_fl, zk_fs, zk_gf, zk_al, zk_aa, zk_ca, zk_ck, zk_rc, zk_ev, zk_seq, zk_skip, zk_if, zk_si, zk_sr, zk_inc, zk_okS, zk_pf, zk_pfo, zk_as, zk_aso, zk_xc, zk_rok, narrow]
theorem q_get10 (c : Nat) (hc : c < 12) (h : zk_H) : f_X12_get SHP [.ref 178, .int (nI c), .int 10] h = some (.int (h 183 (16 * c + 10)), h) := by
  have e0 : (16 : Int32) * nI c + 10 = nI (16 * c + 10) := by
    rw [show (16 : Int32) = nI 16 from rfl, show (10 : Int32) = nI 10 from rfl, pk_mul, nI_add]
  have e : zk_rdA SHP (.ref 183) (.int (nI (16 * c + 10))) h = some (.int (h 183 (16 * c + 10))) := qa_183 _ (by omega) h
  simp [f_X12_get, b_X12_get, qo_178_4, e0, e, zk_sem, zk_flat, zk_env, Value.category, zk_ret, zk_ret0, zk_it, zk_or, zk_and, zk_not, zk_c1, zk_c2, zk_li, zk_lr, zk_ll, zk_c, zk_u, zk_b, zk_fi, zk_fd, zk_gi, zk_gn, zk_gl, zk_fl, zk_fs, zk_gf, zk_al, zk_aa, zk_ca, zk_ck, zk_rc, zk_ev, zk_seq, zk_skip, zk_if, zk_si, zk_sr, zk_inc, zk_okS, zk_pf, zk_pfo, zk_as, zk_aso, zk_xc, zk_rok, narrow]
theorem q_put10 (c : Nat) (hc : c < 12) (x : Int32) (h : zk_H) : f_X12_put SHP [.ref 178, .int (nI c), .int 10, .int x] h = some (.null, zk_up h 183 (16 * c + 10) x) := by
  have e0 : (16 : Int32) * nI c + 10 = nI (16 * c + 10) := by
    rw [show (16 : Int32) = nI 16 from rfl, show (10 : Int32) = nI 10 from rfl, pk_mul, nI_add]
  have e : zk_wrA SHP (.ref 183) (.int (nI (16 * c + 10))) (.int x) h = some (zk_up h 183 (16 * c + 10) x) := qw_183 _ (by omega) x h
  simp [f_X12_put, b_X12_put, qo_178_4, e0, e, zk_sem, zk_flat, zk_env, Value.category, zk_ret, zk_ret0, zk_it, zk_or, zk_and, zk_not, zk_c1, zk_c2, zk_li, zk_lr, zk_ll, zk_c, zk_u, zk_b, zk_fi, zk_fd, zk_gi, zk_gn, zk_gl, zk_fl, zk_fs, zk_gf, zk_al, zk_aa, zk_ca, zk_ck, zk_rc, zk_ev, zk_seq, zk_skip, zk_if, zk_si, zk_sr, zk_inc, zk_okS, zk_pf, zk_pfo, zk_as, zk_aso, zk_xc, zk_rok, narrow]
theorem q_more10 (c : Nat) (hc : c < 12) (x : Int32) (h : zk_H) : f_X12_more SHP [.ref 178, .int (nI c), .int 10, .int x] h = some (.null, zk_up h 183 (16 * c + 10) (h 183 (16 * c + 10) + x)) := by
  have e0 : (16 : Int32) * nI c + 10 = nI (16 * c + 10) := by
    rw [show (16 : Int32) = nI 16 from rfl, show (10 : Int32) = nI 10 from rfl, pk_mul, nI_add]
  have e : zk_rdA SHP (.ref 183) (.int (nI (16 * c + 10))) h = some (.int (h 183 (16 * c + 10))) := qa_183 _ (by omega) h
  have e2 : ∀ y, zk_wrA SHP (.ref 183) (.int (nI (16 * c + 10))) (.int y) h = some (zk_up h 183 (16 * c + 10) y) := fun y => qw_183 _ (by omega) y h
  simp [f_X12_more, b_X12_more, qo_178_4, e0, e, e2, zk_sem, zk_flat, zk_env, Value.category, zk_ret, zk_ret0, zk_it, zk_or, zk_and, zk_not, zk_c1, zk_c2, zk_li, zk_lr, zk_ll, zk_c, zk_u, zk_b, zk_fi, zk_fd, zk_gi, zk_gn, zk_gl, zk_fl, zk_fs, zk_gf, zk_al, zk_aa, zk_ca, zk_ck, zk_rc, zk_ev, zk_seq, zk_skip, zk_if, zk_si, zk_sr, zk_inc, zk_okS, zk_pf, zk_pfo, zk_as, zk_aso, zk_xc, zk_rok, narrow]
theorem q_get11 (c : Nat) (hc : c < 12) (h : zk_H) : f_X12_get SHP [.ref 178, .int (nI c), .int 11] h = some (.int (h 183 (16 * c + 11)), h) := by
  have e0 : (16 : Int32) * nI c + 11 = nI (16 * c + 11) := by
    rw [show (16 : Int32) = nI 16 from rfl, show (11 : Int32) = nI 11 from rfl, pk_mul, nI_add]
  have e : zk_rdA SHP (.ref 183) (.int (nI (16 * c + 11))) h = some (.int (h 183 (16 * c + 11))) := qa_183 _ (by omega) h
  simp [f_X12_get, b_X12_get, qo_178_4, e0, e, zk_sem, zk_flat, zk_env, Value.category, zk_ret, zk_ret0, zk_it, zk_or, zk_and, zk_not, zk_c1, zk_c2, zk_li, zk_lr, zk_ll, zk_c, zk_u, zk_b, zk_fi, zk_fd, zk_gi, zk_gn, zk_gl, zk_fl, zk_fs, zk_gf, zk_al, zk_aa, zk_ca, zk_ck, zk_rc, zk_ev, zk_seq, zk_skip, zk_if, zk_si, zk_sr, zk_inc, zk_okS, zk_pf, zk_pfo, zk_as, zk_aso, zk_xc, zk_rok, narrow]
theorem q_put11 (c : Nat) (hc : c < 12) (x : Int32) (h : zk_H) : f_X12_put SHP [.ref 178, .int (nI c), .int 11, .int x] h = some (.null, zk_up h 183 (16 * c + 11) x) := by
  have e0 : (16 : Int32) * nI c + 11 = nI (16 * c + 11) := by
    rw [show (16 : Int32) = nI 16 from rfl, show (11 : Int32) = nI 11 from rfl, pk_mul, nI_add]
  have e : zk_wrA SHP (.ref 183) (.int (nI (16 * c + 11))) (.int x) h = some (zk_up h 183 (16 * c + 11) x) := qw_183 _ (by omega) x h
  simp [f_X12_put, b_X12_put, qo_178_4, e0, e, zk_sem, zk_flat, zk_env, Value.category, zk_ret, zk_ret0, zk_it, zk_or, zk_and, zk_not, zk_c1, zk_c2, zk_li, zk_lr, zk_ll, zk_c, zk_u, zk_b, zk_fi, zk_fd, zk_gi, zk_gn, zk_gl, zk_fl, zk_fs, zk_gf, zk_al, zk_aa, zk_ca, zk_ck, zk_rc, zk_ev, zk_seq, zk_skip, zk_if, zk_si, zk_sr, zk_inc, zk_okS, zk_pf, zk_pfo, zk_as, zk_aso, zk_xc, zk_rok, narrow]
theorem q_more11 (c : Nat) (hc : c < 12) (x : Int32) (h : zk_H) : f_X12_more SHP [.ref 178, .int (nI c), .int 11, .int x] h = some (.null, zk_up h 183 (16 * c + 11) (h 183 (16 * c + 11) + x)) := by
  have e0 : (16 : Int32) * nI c + 11 = nI (16 * c + 11) := by
    rw [show (16 : Int32) = nI 16 from rfl, show (11 : Int32) = nI 11 from rfl, pk_mul, nI_add]
  have e : zk_rdA SHP (.ref 183) (.int (nI (16 * c + 11))) h = some (.int (h 183 (16 * c + 11))) := qa_183 _ (by omega) h
  have e2 : ∀ y, zk_wrA SHP (.ref 183) (.int (nI (16 * c + 11))) (.int y) h = some (zk_up h 183 (16 * c + 11) y) := fun y => qw_183 _ (by omega) y h
  simp [f_X12_more, b_X12_more, qo_178_4, e0, e, e2, zk_sem, zk_flat, zk_env, Value.category, zk_ret, zk_ret0, zk_it, zk_or, zk_and, zk_not, zk_c1, zk_c2, zk_li, zk_lr, zk_ll, zk_c, zk_u, zk_b, zk_fi, zk_fd, zk_gi, zk_gn, zk_gl, zk_fl, zk_fs, zk_gf, zk_al, zk_aa, zk_ca, zk_ck, zk_rc, zk_ev, zk_seq, zk_skip, zk_if, zk_si, zk_sr, zk_inc, zk_okS, zk_pf, zk_pfo, zk_as, zk_aso, zk_xc, zk_rok, narrow]
theorem q_get12 (c : Nat) (hc : c < 12) (h : zk_H) : f_X12_get SHP [.ref 178, .int (nI c), .int 12] h = some (.int (h 183 (16 * c + 12)), h) := by
  have e0 : (16 : Int32) * nI c + 12 = nI (16 * c + 12) := by
    rw [show (16 : Int32) = nI 16 from rfl, show (12 : Int32) = nI 12 from rfl, pk_mul, nI_add]
  have e : zk_rdA SHP (.ref 183) (.int (nI (16 * c + 12))) h = some (.int (h 183 (16 * c + 12))) := qa_183 _ (by omega) h
  simp [f_X12_get, b_X12_get, qo_178_4, e0, e, zk_sem, zk_flat, zk_env, Value.category, zk_ret, zk_ret0, zk_it, zk_or, zk_and, zk_not, zk_c1, zk_c2, zk_li, zk_lr, zk_ll, zk_c, zk_u, zk_b, zk_fi, zk_fd, zk_gi, zk_gn, zk_gl, zk_fl, zk_fs, zk_gf, zk_al, zk_aa, zk_ca, zk_ck, zk_rc, zk_ev, zk_seq, zk_skip, zk_if, zk_si, zk_sr, zk_inc, zk_okS, zk_pf, zk_pfo, zk_as, zk_aso, zk_xc, zk_rok, narrow]
theorem q_put12 (c : Nat) (hc : c < 12) (x : Int32) (h : zk_H) : f_X12_put SHP [.ref 178, .int (nI c), .int 12, .int x] h = some (.null, zk_up h 183 (16 * c + 12) x) := by
  have e0 : (16 : Int32) * nI c + 12 = nI (16 * c + 12) := by
    rw [show (16 : Int32) = nI 16 from rfl, show (12 : Int32) = nI 12 from rfl, pk_mul, nI_add]
  have e : zk_wrA SHP (.ref 183) (.int (nI (16 * c + 12))) (.int x) h = some (zk_up h 183 (16 * c + 12) x) := qw_183 _ (by omega) x h
  simp [f_X12_put, b_X12_put, qo_178_4, e0, e, zk_sem, zk_flat, zk_env, Value.category, zk_ret, zk_ret0, zk_it, zk_or, zk_and, zk_not, zk_c1, zk_c2, zk_li, zk_lr, zk_ll, zk_c, zk_u, zk_b, zk_fi, zk_fd, zk_gi, zk_gn, zk_gl, zk_fl, zk_fs, zk_gf, zk_al, zk_aa, zk_ca, zk_ck, zk_rc, zk_ev, zk_seq, zk_skip, zk_if, zk_si, zk_sr, zk_inc, zk_okS, zk_pf, zk_pfo, zk_as, zk_aso, zk_xc, zk_rok, narrow]
theorem q_more12 (c : Nat) (hc : c < 12) (x : Int32) (h : zk_H) : f_X12_more SHP [.ref 178, .int (nI c), .int 12, .int x] h = some (.null, zk_up h 183 (16 * c + 12) (h 183 (16 * c + 12) + x)) := by
  have e0 : (16 : Int32) * nI c + 12 = nI (16 * c + 12) := by
    rw [show (16 : Int32) = nI 16 from rfl, show (12 : Int32) = nI 12 from rfl, pk_mul, nI_add]
  have e : zk_rdA SHP (.ref 183) (.int (nI (16 * c + 12))) h = some (.int (h 183 (16 * c + 12))) := qa_183 _ (by omega) h
  have e2 : ∀ y, zk_wrA SHP (.ref 183) (.int (nI (16 * c + 12))) (.int y) h = some (zk_up h 183 (16 * c + 12) y) := fun y => qw_183 _ (by omega) y h
  simp [f_X12_more, b_X12_more, qo_178_4, e0, e, e2, zk_sem, zk_flat, zk_env, Value.category, zk_ret, zk_ret0, zk_it, zk_or, zk_and, zk_not, zk_c1, zk_c2, zk_li, zk_lr, zk_ll, zk_c, zk_u, zk_b, zk_fi, zk_fd, zk_gi, zk_gn, zk_gl, zk_fl, zk_fs, zk_gf, zk_al, zk_aa, zk_ca, zk_ck, zk_rc, zk_ev, zk_seq, zk_skip, zk_if, zk_si, zk_sr, zk_inc, zk_okS, zk_pf, zk_pfo, zk_as, zk_aso, zk_xc, zk_rok, narrow]
theorem q_get13 (c : Nat) (hc : c < 12) (h : zk_H) : f_X12_get SHP [.ref 178, .int (nI c), .int 13] h = some (.int (h 183 (16 * c + 13)), h) := by
  have e0 : (16 : Int32) * nI c + 13 = nI (16 * c + 13) := by
    rw [show (16 : Int32) = nI 16 from rfl, show (13 : Int32) = nI 13 from rfl, pk_mul, nI_add]
  have e : zk_rdA SHP (.ref 183) (.int (nI (16 * c + 13))) h = some (.int (h 183 (16 * c + 13))) := qa_183 _ (by omega) h
  simp [f_X12_get, b_X12_get, qo_178_4, e0, e, zk_sem, zk_flat, zk_env, Value.category, zk_ret, zk_ret0, zk_it, zk_or, zk_and, zk_not, zk_c1, zk_c2, zk_li, zk_lr, zk_ll, zk_c, zk_u, zk_b, zk_fi, zk_fd, zk_gi, zk_gn, zk_gl, zk_fl, zk_fs, zk_gf, zk_al, zk_aa, zk_ca, zk_ck, zk_rc, zk_ev, zk_seq, zk_skip, zk_if, zk_si, zk_sr, zk_inc, zk_okS, zk_pf, zk_pfo, zk_as, zk_aso, zk_xc, zk_rok, narrow]
theorem q_put13 (c : Nat) (hc : c < 12) (x : Int32) (h : zk_H) : f_X12_put SHP [.ref 178, .int (nI c), .int 13, .int x] h = some (.null, zk_up h 183 (16 * c + 13) x) := by
  have e0 : (16 : Int32) * nI c + 13 = nI (16 * c + 13) := by
    rw [show (16 : Int32) = nI 16 from rfl, show (13 : Int32) = nI 13 from rfl, pk_mul, nI_add]
  have e : zk_wrA SHP (.ref 183) (.int (nI (16 * c + 13))) (.int x) h = some (zk_up h 183 (16 * c + 13) x) := qw_183 _ (by omega) x h
  simp [f_X12_put, b_X12_put, qo_178_4, e0, e, zk_sem, zk_flat, zk_env, Value.category, zk_ret, zk_ret0, zk_it, zk_or, zk_and, zk_not, zk_c1, zk_c2, zk_li, zk_lr, zk_ll, zk_c, zk_u, zk_b, zk_fi, zk_fd, zk_gi, zk_gn, zk_gl, zk_fl, zk_fs, zk_gf, zk_al, zk_aa, zk_ca, zk_ck, zk_rc, zk_ev, zk_seq, zk_skip, zk_if, zk_si, zk_sr, zk_inc, zk_okS, zk_pf, zk_pfo, zk_as, zk_aso, zk_xc, zk_rok, narrow]
theorem q_more13 (c : Nat) (hc : c < 12) (x : Int32) (h : zk_H) : f_X12_more SHP [.ref 178, .int (nI c), .int 13, .int x] h = some (.null, zk_up h 183 (16 * c + 13) (h 183 (16 * c + 13) + x)) := by
  have e0 : (16 : Int32) * nI c + 13 = nI (16 * c + 13) := by
    rw [show (16 : Int32) = nI 16 from rfl, show (13 : Int32) = nI 13 from rfl, pk_mul, nI_add]
  have e : zk_rdA SHP (.ref 183) (.int (nI (16 * c + 13))) h = some (.int (h 183 (16 * c + 13))) := qa_183 _ (by omega) h
  have e2 : ∀ y, zk_wrA SHP (.ref 183) (.int (nI (16 * c + 13))) (.int y) h = some (zk_up h 183 (16 * c + 13) y) := fun y => qw_183 _ (by omega) y h
  simp [f_X12_more, b_X12_more, qo_178_4, e0, e, e2, zk_sem, zk_flat, zk_env, Value.category, zk_ret, zk_ret0, zk_it, zk_or, zk_and, zk_not, zk_c1, zk_c2, zk_li, zk_lr, zk_ll, zk_c, zk_u, zk_b, zk_fi, zk_fd, zk_gi, zk_gn, zk_gl, zk_fl, zk_fs, zk_gf, zk_al, zk_aa, zk_ca, zk_ck, zk_rc, zk_ev, zk_seq, zk_skip, zk_if, zk_si, zk_sr, zk_inc, zk_okS, zk_pf, zk_pfo, zk_as, zk_aso, zk_xc, zk_rok, narrow]
theorem q_get14 (c : Nat) (hc : c < 12) (h : zk_H) : f_X12_get SHP [.ref 178, .int (nI c), .int 14] h = some (.int (h 183 (16 * c + 14)), h) := by
  have e0 : (16 : Int32) * nI c + 14 = nI (16 * c + 14) := by
    rw [show (16 : Int32) = nI 16 from rfl, show (14 : Int32) = nI 14 from rfl, pk_mul, nI_add]
  have e : zk_rdA SHP (.ref 183) (.int (nI (16 * c + 14))) h = some (.int (h 183 (16 * c + 14))) := qa_183 _ (by omega) h
  simp [f_X12_get, b_X12_get, qo_178_4, e0, e, zk_sem, zk_flat, zk_env, Value.category, zk_ret, zk_ret0, zk_it, zk_or, zk_and, zk_not, zk_c1, zk_c2, zk_li, zk_lr, zk_ll, zk_c, zk_u, zk_b, zk_fi, zk_fd, zk_gi, zk_gn, zk_gl, zk_fl, zk_fs, zk_gf, zk_al, zk_aa, zk_ca, zk_ck, zk_rc, zk_ev, zk_seq, zk_skip, zk_if, zk_si, zk_sr, zk_inc, zk_okS, zk_pf, zk_pfo, zk_as, zk_aso, zk_xc, zk_rok, narrow]
theorem q_put14 (c : Nat) (hc : c < 12) (x : Int32) (h : zk_H) : f_X12_put SHP [.ref 178, .int (nI c), .int 14, .int x] h = some (.null, zk_up h 183 (16 * c + 14) x) := by
  have e0 : (16 : Int32) * nI c + 14 = nI (16 * c + 14) := by
    rw [show (16 : Int32) = nI 16 from rfl, show (14 : Int32) = nI 14 from rfl, pk_mul, nI_add]
  have e : zk_wrA SHP (.ref 183) (.int (nI (16 * c + 14))) (.int x) h = some (zk_up h 183 (16 * c + 14) x) := qw_183 _ (by omega) x h
  simp [f_X12_put, b_X12_put, qo_178_4, e0, e, zk_sem, zk_flat, zk_env, Value.category, zk_ret, zk_ret0, zk_it, zk_or, zk_and, zk_not, zk_c1, zk_c2, zk_li, zk_lr, zk_ll, zk_c, zk_u, zk_b, zk_fi, zk_fd, zk_gi, zk_gn, zk_gl, zk_fl, zk_fs, zk_gf, zk_al, zk_aa, zk_ca, zk_ck, zk_rc, zk_ev, zk_seq, zk_skip, zk_if, zk_si, zk_sr, zk_inc, zk_okS, zk_pf, zk_pfo, zk_as, zk_aso, zk_xc, zk_rok, narrow]
theorem q_more14 (c : Nat) (hc : c < 12) (x : Int32) (h : zk_H) : f_X12_more SHP [.ref 178, .int (nI c), .int 14, .int x] h = some (.null, zk_up h 183 (16 * c + 14) (h 183 (16 * c + 14) + x)) := by
  have e0 : (16 : Int32) * nI c + 14 = nI (16 * c + 14) := by
    rw [show (16 : Int32) = nI 16 from rfl, show (14 : Int32) = nI 14 from rfl, pk_mul, nI_add]
  have e : zk_rdA SHP (.ref 183) (.int (nI (16 * c + 14))) h = some (.int (h 183 (16 * c + 14))) := qa_183 _ (by omega) h
  have e2 : ∀ y, zk_wrA SHP (.ref 183) (.int (nI (16 * c + 14))) (.int y) h = some (zk_up h 183 (16 * c + 14) y) := fun y => qw_183 _ (by omega) y h
  simp [f_X12_more, b_X12_more, qo_178_4, e0, e, e2, zk_sem, zk_flat, zk_env, Value.category, zk_ret, zk_ret0, zk_it, zk_or, zk_and, zk_not, zk_c1, zk_c2, zk_li, zk_lr, zk_ll, zk_c, zk_u, zk_b, zk_fi, zk_fd, zk_gi, zk_gn, zk_gl, zk_fl, zk_fs, zk_gf, zk_al, zk_aa, zk_ca, zk_ck, zk_rc, zk_ev, zk_seq, zk_skip, zk_if, zk_si, zk_sr, zk_inc, zk_okS, zk_pf, zk_pfo, zk_as, zk_aso, zk_xc, zk_rok, narrow]
theorem q_get15 (c : Nat) (hc : c < 12) (h : zk_H) : f_X12_get SHP [.ref 178, .int (nI c), .int 15] h = some (.int (h 183 (16 * c + 15)), h) := by
  have e0 : (16 : Int32) * nI c + 15 = nI (16 * c + 15) := by
    rw [show (16 : Int32) = nI 16 from rfl, show (15 : Int32) = nI 15 from rfl, pk_mul, nI_add]
  have e : zk_rdA SHP (.ref 183) (.int (nI (16 * c + 15))) h = some (.int (h 183 (16 * c + 15))) := qa_183 _ (by omega) h
  simp [f_X12_get, b_X12_get, qo_178_4, e0, e, zk_sem, zk_flat, zk_env, Value.category, zk_ret, zk_ret0, zk_it, zk_or, zk_and, zk_not, zk_c1, zk_c2, zk_li, zk_lr, zk_ll, zk_c, zk_u, zk_b, zk_fi, zk_fd, zk_gi, zk_gn, zk_gl, zk_fl, zk_fs, zk_gf, zk_al, zk_aa, zk_ca, zk_ck, zk_rc, zk_ev, zk_seq, zk_skip, zk_if, zk_si, zk_sr, zk_inc, zk_okS, zk_pf, zk_pfo, zk_as, zk_aso, zk_xc, zk_rok, narrow]
theorem q_put15 (c : Nat) (hc : c < 12) (x : Int32) (h : zk_H) : f_X12_put SHP [.ref 178, .int (nI c), .int 15, .int x] h = some (.null, zk_up h 183 (16 * c + 15) x) := by
  have e0 : (16 : Int32) * nI c + 15 = nI (16 * c + 15) := by
    rw [show (16 : Int32) = nI 16 from rfl, show (15 : Int32) = nI 15 from rfl, pk_mul, nI_add]
  have e : zk_wrA SHP (.ref 183) (.int (nI (16 * c + 15))) (.int x) h = some (zk_up h 183 (16 * c + 15) x) := qw_183 _ (by omega) x h
  simp [f_X12_put, b_X12_put, qo_178_4, e0, e, zk_sem, zk_flat, zk_env, Value.category, zk_ret, zk_ret0, zk_it, zk_or, zk_and, zk_not, zk_c1, zk_c2, zk_li, zk_lr, zk_ll, zk_c, zk_u, zk_b, zk_fi, zk_fd, zk_gi, zk_gn, zk_gl, zk_fl, zk_fs, zk_gf, zk_al, zk_aa, zk_ca, zk_ck, zk_rc, zk_ev, zk_seq, zk_skip, zk_if, zk_si, zk_sr, zk_inc, zk_okS, zk_pf, zk_pfo, zk_as, zk_aso, zk_xc, zk_rok, narrow]
theorem q_more15 (c : Nat) (hc : c < 12) (x : Int32) (h : zk_H) : f_X12_more SHP [.ref 178, .int (nI c), .int 15, .int x] h = some (.null, zk_up h 183 (16 * c + 15) (h 183 (16 * c + 15) + x)) := by
  have e0 : (16 : Int32) * nI c + 15 = nI (16 * c + 15) := by
    rw [show (16 : Int32) = nI 16 from rfl, show (15 : Int32) = nI 15 from rfl, pk_mul, nI_add]
  have e : zk_rdA SHP (.ref 183) (.int (nI (16 * c + 15))) h = some (.int (h 183 (16 * c + 15))) := qa_183 _ (by omega) h
  have e2 : ∀ y, zk_wrA SHP (.ref 183) (.int (nI (16 * c + 15))) (.int y) h = some (zk_up h 183 (16 * c + 15) y) := fun y => qw_183 _ (by omega) y h
  simp [f_X12_more, b_X12_more, qo_178_4, e0, e, e2, zk_sem, zk_flat, zk_env, Value.category, zk_ret, zk_ret0, zk_it, zk_or, zk_and, zk_not, zk_c1, zk_c2, zk_li, zk_lr, zk_ll, zk_c, zk_u, zk_b, zk_fi, zk_fd, zk_gi, zk_gn, zk_gl, zk_fl, zk_fs, zk_gf, zk_al, zk_aa, zk_ca, zk_ck, zk_rc, zk_ev, zk_seq, zk_skip, zk_if, zk_si, zk_sr, zk_inc, zk_okS, zk_pf, zk_pfo, zk_as, zk_aso, zk_xc, zk_rok, narrow]
