/-! gain -/
theorem q_gain (a b x : Int32) : zl_ok2 qInv (f_X11_gain SHP) (f_X12_gain SHP) [.int a, .int b, .int x] := by
  apply q_ok2; intro S hS
  have hn := hS.w.hC
  have hm := hS.w.hP
  rcases pk_ix a (n := S.w.nC) (by omega) with ha | ha | ⟨c, hc, rfl⟩
  all_goals try (
    refine ⟨-1, S, hS, ?_, ?_⟩
    · intro h hh; refine ⟨h, ?_, hh, fun _ _ => rfl⟩
      have hx := qh_nCar hh.w (x := a) (by first | exact Or.inl ha | exact Or.inr ha)
      simp [f_X11_gain, b_X11_gain, qo_0_0, hx, qc_0, qc_1, qc_178, zk_sem, zk_flat, zk_env, Value.category, zk_ret, zk_ret0, zk_it, zk_or, zk_and, zk_not, zk_c1, zk_c2, zk_li, zk_lr, zk_ll, zk_c, zk_u, zk_b, zk_fi, zk_fd, zk_gi, zk_gn, zk_gl, zk_fl, zk_fs, zk_gf, zk_al, zk_aa, zk_ca, zk_ck, zk_rc, zk_ev, zk_seq, zk_skip, zk_if, zk_si, zk_sr, zk_inc, zk_okS, zk_pf, zk_pfo, zk_as, zk_aso, zk_xc, zk_rok, narrow]
    · intro h hh; refine ⟨h, ?_, hh, fun _ _ => rfl⟩
      have hx := qi_nCar hS.w hh.w (x := a) (by first | exact Or.inl ha | exact Or.inr ha)
      simp [f_X12_gain, b_X12_gain, hx, qc_0, qc_1, qc_178, zk_sem, zk_flat, zk_env, Value.category, zk_ret, zk_ret0, zk_it, zk_or, zk_and, zk_not, zk_c1, zk_c2, zk_li, zk_lr, zk_ll, zk_c, zk_u, zk_b, zk_fi, zk_fd, zk_gi, zk_gn, zk_gl, zk_fl, zk_fs, zk_gf, zk_al, zk_aa, zk_ca, zk_ck, zk_rc, zk_ev, zk_seq, zk_skip, zk_if, zk_si, zk_sr, zk_inc, zk_okS, zk_pf, zk_pfo, zk_as, zk_aso, zk_xc, zk_rok, narrow])
  rcases pk_ix b (n := S.w.nP) (by omega) with hb | hb | ⟨p, hp, rfl⟩
  all_goals try (
    refine ⟨-1, S, hS, ?_, ?_⟩
    · intro h hh; refine ⟨h, ?_, hh, fun _ _ => rfl⟩
      have hx := qh_nPlug hh.w (x := b) (by first | exact Or.inl hb | exact Or.inr hb)
      simp [f_X11_gain, b_X11_gain, qo_0_0, qh_Car hS.w hh.w hc, hx, qc_0, qc_1, qc_178, zk_sem, zk_flat, zk_env, Value.category, zk_ret, zk_ret0, zk_it, zk_or, zk_and, zk_not, zk_c1, zk_c2, zk_li, zk_lr, zk_ll, zk_c, zk_u, zk_b, zk_fi, zk_fd, zk_gi, zk_gn, zk_gl, zk_fl, zk_fs, zk_gf, zk_al, zk_aa, zk_ca, zk_ck, zk_rc, zk_ev, zk_seq, zk_skip, zk_if, zk_si, zk_sr, zk_inc, zk_okS, zk_pf, zk_pfo, zk_as, zk_aso, zk_xc, zk_rok, narrow]
    · intro h hh; refine ⟨h, ?_, hh, fun _ _ => rfl⟩
      have hx := qi_nPlug hS.w hh.w (x := b) (by first | exact Or.inl hb | exact Or.inr hb)
      simp [f_X12_gain, b_X12_gain, qi_Car hS.w hh.w hc, hx, qc_0, qc_1, qc_178, zk_sem, zk_flat, zk_env, Value.category, zk_ret, zk_ret0, zk_it, zk_or, zk_and, zk_not, zk_c1, zk_c2, zk_li, zk_lr, zk_ll, zk_c, zk_u, zk_b, zk_fi, zk_fd, zk_gi, zk_gn, zk_gl, zk_fl, zk_fs, zk_gf, zk_al, zk_aa, zk_ca, zk_ck, zk_rc, zk_ev, zk_seq, zk_skip, zk_if, zk_si, zk_sr, zk_inc, zk_okS, zk_pf, zk_pfo, zk_as, zk_aso, zk_xc, zk_rok, narrow])
  have hc12 : c < 12 := by omega
  have hp16 : p < 16 := by omega
  refine ⟨if 0 ≤ x ∧ x ≤ nI (S.w.bat c) then qgm (nI (S.w.bat c)) (nI (S.w.rate c)) (nI S.w.cold) (nI (S.w.pmost p)) x else -1, S, hS, ?_, ?_⟩
  · intro h hh; refine ⟨h, ?_, hh, fun _ _ => rfl⟩
    by_cases h1 : (0 ≤ x ∧ x ≤ nI (S.w.bat c))
    · simp [f_X11_gain, b_X11_gain, qo_0_0, qo_1_2, qo_1_1, qh_Car hS.w hh.w hc, qh_Plug hS.w hh.w hp, q_out2, qr_car c hc12, qr_plug p hp16, qf_car_0 c hc12, qf_plug_1 p hp16, q_gC hc12, hh.w.bat c hc12, hh.w.rate c hc12, hh.w.cold, hh.w.pmost p hp16, h1, qc_0, qc_1, qc_178, zk_sem, zk_flat, zk_env, Value.category, zk_ret, zk_ret0, zk_it, zk_or, zk_and, zk_not, zk_c1, zk_c2, zk_li, zk_lr, zk_ll, zk_c, zk_u, zk_b, zk_fi, zk_fd, zk_gi, zk_gn, zk_gl, zk_fl, zk_fs, zk_gf, zk_al, zk_aa, zk_ca, zk_ck, zk_rc, zk_ev, zk_seq, zk_skip, zk_if, zk_si, zk_sr, zk_inc, zk_okS, zk_pf, zk_pfo, zk_as, zk_aso, zk_xc, zk_rok, narrow]
    · have h5 := (qx_oi x 0 (nI (S.w.bat c))).2 h1
      simp [f_X11_gain, b_X11_gain, qo_0_0, qo_1_2, qo_1_1, qh_Car hS.w hh.w hc, qh_Plug hS.w hh.w hp, q_out2, qr_car c hc12, qr_plug p hp16, qf_car_0 c hc12, qf_plug_1 p hp16, q_gC hc12, hh.w.bat c hc12, hh.w.rate c hc12, hh.w.cold, hh.w.pmost p hp16, h1, h5, qc_0, qc_1, qc_178, zk_sem, zk_flat, zk_env, Value.category, zk_ret, zk_ret0, zk_it, zk_or, zk_and, zk_not, zk_c1, zk_c2, zk_li, zk_lr, zk_ll, zk_c, zk_u, zk_b, zk_fi, zk_fd, zk_gi, zk_gn, zk_gl, zk_fl, zk_fs, zk_gf, zk_al, zk_aa, zk_ca, zk_ck, zk_rc, zk_ev, zk_seq, zk_skip, zk_if, zk_si, zk_sr, zk_inc, zk_okS, zk_pf, zk_pfo, zk_as, zk_aso, zk_xc, zk_rok, narrow]
  · intro h hh; refine ⟨h, ?_, hh, fun _ _ => rfl⟩
    have e1 : h 183 (16 * c) = _ := hh.w.bat c hc
    have e2 : h 183 (16 * c + 2) = _ := hh.w.rate c hc
    have e3 : h 179 7 = _ := hh.w.cold
    have e4 : h 182 (6 * p + 1) = _ := hh.w.pmost p hp
    by_cases h1 : (0 ≤ x ∧ x ≤ nI (S.w.bat c)) <;> simp [f_X12_gain, b_X12_gain, qi_Car hS.w hh.w hc, qi_Plug hS.w hh.w hp, q_in, q_get0 c hc12, q_gR hc12 hp16, e1, e2, e3, e4, h1, qc_0, qc_1, qc_178, zk_sem, zk_flat, zk_env, Value.category, zk_ret, zk_ret0, zk_it, zk_or, zk_and, zk_not, zk_c1, zk_c2, zk_li, zk_lr, zk_ll, zk_c, zk_u, zk_b, zk_fi, zk_fd, zk_gi, zk_gn, zk_gl, zk_fl, zk_fs, zk_gf, zk_al, zk_aa, zk_ca, zk_ck, zk_rc, zk_ev, zk_seq, zk_skip, zk_if, zk_si, zk_sr, zk_inc, zk_okS, zk_pf, zk_pfo, zk_as, zk_aso, zk_xc, zk_rok, narrow]
