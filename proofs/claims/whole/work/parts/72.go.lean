/-! go, the method -/
theorem q_go (a n : Int32) : zl_ok2 qInv (f_X11_go SHP) (f_X12_go SHP) [.int a, .int n] := by
  apply q_ok2; intro S hS
  have hn := hS.w.hC
  rcases pk_ix a (n := S.w.nC) (by omega) with ha | ha | ⟨c, hc, rfl⟩
  all_goals try (
    refine ⟨-1, S, hS, ?_, ?_⟩
    · intro h hh; refine ⟨h, ?_, hh, fun _ _ => rfl⟩
      have hx := qh_nCar hh.w (x := a) (by first | exact Or.inl ha | exact Or.inr ha)
      simp [f_X11_go, b_X11_go, qo_0_0, hx, qc_0, qc_1, qc_178, zk_sem, zk_flat, zk_env, Value.category, zk_ret, zk_ret0, zk_it, zk_or, zk_and, zk_not, zk_c1, zk_c2, zk_li, zk_lr, zk_ll, zk_c, zk_u, zk_b, zk_fi, zk_fd, zk_gi, zk_gn, zk_gl, zk_fl, zk_fs, zk_gf, zk_al, zk_aa, zk_ca, zk_ck, zk_rc, zk_ev, zk_seq, zk_skip, zk_if, zk_si, zk_sr, zk_inc, zk_okS, zk_pf, zk_pfo, zk_as, zk_aso, zk_xc, zk_rok, narrow]
    · intro h hh; refine ⟨h, ?_, hh, fun _ _ => rfl⟩
      have hx := qi_nCar hS.w hh.w (x := a) (by first | exact Or.inl ha | exact Or.inr ha)
      simp [f_X12_go, b_X12_go, hx, qc_0, qc_1, qc_178, zk_sem, zk_flat, zk_env, Value.category, zk_ret, zk_ret0, zk_it, zk_or, zk_and, zk_not, zk_c1, zk_c2, zk_li, zk_lr, zk_ll, zk_c, zk_u, zk_b, zk_fi, zk_fd, zk_gi, zk_gn, zk_gl, zk_fl, zk_fs, zk_gf, zk_al, zk_aa, zk_ca, zk_ck, zk_rc, zk_ev, zk_seq, zk_skip, zk_if, zk_si, zk_sr, zk_inc, zk_okS, zk_pf, zk_pfo, zk_as, zk_aso, zk_xc, zk_rok, narrow])
  have hc12 : c < 12 := by omega
  by_cases h1 : (1 ≤ n ∧ n ≤ 999)
  case neg =>
    have h5 := (qx_oi n 1 999).2 h1
    refine ⟨-1, S, hS, ?_, ?_⟩
    · intro h hh; refine ⟨h, ?_, hh, fun _ _ => rfl⟩
      simp [f_X11_go, b_X11_go, qo_0_0, qh_Car hS.w hh.w hc, q_out2, h1, h5, qc_0, qc_1, qc_178, zk_sem, zk_flat, zk_env, Value.category, zk_ret, zk_ret0, zk_it, zk_or, zk_and, zk_not, zk_c1, zk_c2, zk_li, zk_lr, zk_ll, zk_c, zk_u, zk_b, zk_fi, zk_fd, zk_gi, zk_gn, zk_gl, zk_fl, zk_fs, zk_gf, zk_al, zk_aa, zk_ca, zk_ck, zk_rc, zk_ev, zk_seq, zk_skip, zk_if, zk_si, zk_sr, zk_inc, zk_okS, zk_pf, zk_pfo, zk_as, zk_aso, zk_xc, zk_rok, narrow]
    · intro h hh; refine ⟨h, ?_, hh, fun _ _ => rfl⟩
      simp [f_X12_go, b_X12_go, qi_Car hS.w hh.w hc, q_in, h1, h5, qc_0, qc_1, qc_178, zk_sem, zk_flat, zk_env, Value.category, zk_ret, zk_ret0, zk_it, zk_or, zk_and, zk_not, zk_c1, zk_c2, zk_li, zk_lr, zk_ll, zk_c, zk_u, zk_b, zk_fi, zk_fd, zk_gi, zk_gn, zk_gl, zk_fl, zk_fs, zk_gf, zk_al, zk_aa, zk_ca, zk_ck, zk_rc, zk_ev, zk_seq, zk_skip, zk_if, zk_si, zk_sr, zk_inc, zk_okS, zk_pf, zk_pfo, zk_as, zk_aso, zk_xc, zk_rok, narrow]
  by_cases h0 : nI (S.w.wh c) = 0
  case neg =>
    refine ⟨-4, S, hS, ?_, ?_⟩
    · intro h hh; refine ⟨h, ?_, hh, fun _ _ => rfl⟩
      simp [f_X11_go, b_X11_go, qo_0_0, qo_1_2, qh_Car hS.w hh.w hc, q_out2, h1, qr_car c hc12, qf_car_5 c hc12, hh.w.wh c hc12, h0, qc_0, qc_1, qc_178, zk_sem, zk_flat, zk_env, Value.category, zk_ret, zk_ret0, zk_it, zk_or, zk_and, zk_not, zk_c1, zk_c2, zk_li, zk_lr, zk_ll, zk_c, zk_u, zk_b, zk_fi, zk_fd, zk_gi, zk_gn, zk_gl, zk_fl, zk_fs, zk_gf, zk_al, zk_aa, zk_ca, zk_ck, zk_rc, zk_ev, zk_seq, zk_skip, zk_if, zk_si, zk_sr, zk_inc, zk_okS, zk_pf, zk_pfo, zk_as, zk_aso, zk_xc, zk_rok, narrow]
    · intro h hh; refine ⟨h, ?_, hh, fun _ _ => rfl⟩
      have e1 : h 183 (16 * c + 5) = _ := hh.w.wh c hc
      simp [f_X12_go, b_X12_go, qi_Car hS.w hh.w hc, q_in, h1, q_get5 c hc12, e1, h0, qc_0, qc_1, qc_178, zk_sem, zk_flat, zk_env, Value.category, zk_ret, zk_ret0, zk_it, zk_or, zk_and, zk_not, zk_c1, zk_c2, zk_li, zk_lr, zk_ll, zk_c, zk_u, zk_b, zk_fi, zk_fd, zk_gi, zk_gn, zk_gl, zk_fl, zk_fs, zk_gf, zk_al, zk_aa, zk_ca, zk_ck, zk_rc, zk_ev, zk_seq, zk_skip, zk_if, zk_si, zk_sr, zk_inc, zk_okS, zk_pf, zk_pfo, zk_as, zk_aso, zk_xc, zk_rok, narrow]
  have hw0 : S.w.wh c = 0 := by
    rcases hS.w.whOk c hc with z | ⟨s, hs, z, _⟩ | ⟨p, hp, z, _⟩
    · exact z
    · exact absurd h0 (nI_ne0 (by omega) (by have := hS.w.hS; omega))
    · exact absurd h0 (nI_ne0 (by omega) (by have := hS.w.hP; omega))
  obtain ⟨m, hm, rfl⟩ : ∃ m : Nat, m ≤ 999 ∧ n = nI m := by
    refine nI_of2 (M := 999) (by decide) ?_ h1.2
    intro z
    have z1 := Int32.lt_iff_toInt_lt.1 z
    have z2 := Int32.le_iff_toInt_le.1 h1.1
    have z3 : (0 : Int32).toInt = 0 := by decide
    have z4 : (1 : Int32).toInt = 1 := by decide
    omega
  obtain ⟨d, hd, ed⟩ := qcd_nat hS.w hc hm
  have hb := hS.w.chg c hc
  have hb2 := (hS.w.bat c hc).2
  by_cases h2 : S.w.chg c < d
  · have h3 : nI (S.w.chg c) < nI d := nI_lt h2 (by omega)
    refine ⟨-3, S, hS, ?_, ?_⟩
    · intro h hh; refine ⟨h, ?_, hh, fun _ _ => rfl⟩
      simp [f_X11_go, b_X11_go, qo_0_0, qo_1_2, qh_Car hS.w hh.w hc, q_out2, h1, qr_car c hc12, qf_car_5 c hc12, qf_car_4 c hc12, hh.w.wh c hc12, hh.w.chg c hc12, h0, q_ctd hh.w hc12, ed, h3, qc_0, qc_1, qc_178, zk_sem, zk_flat, zk_env, Value.category, zk_ret, zk_ret0, zk_it, zk_or, zk_and, zk_not, zk_c1, zk_c2, zk_li, zk_lr, zk_ll, zk_c, zk_u, zk_b, zk_fi, zk_fd, zk_gi, zk_gn, zk_gl, zk_fl, zk_fs, zk_gf, zk_al, zk_aa, zk_ca, zk_ck, zk_rc, zk_ev, zk_seq, zk_skip, zk_if, zk_si, zk_sr, zk_inc, zk_okS, zk_pf, zk_pfo, zk_as, zk_aso, zk_xc, zk_rok, narrow]
    · intro h hh; refine ⟨h, ?_, hh, fun _ _ => rfl⟩
      have e1 : h 183 (16 * c + 5) = _ := hh.w.wh c hc
      have e2 : h 183 (16 * c + 4) = _ := hh.w.chg c hc
      simp [f_X12_go, b_X12_go, qi_Car hS.w hh.w hc, q_in, h1, q_get5 c hc12, q_get4 c hc12, e1, e2, h0, q_cfor hS.w hh.w hc, ed, h3, qc_0, qc_1, qc_178, zk_sem, zk_flat, zk_env, Value.category, zk_ret, zk_ret0, zk_it, zk_or, zk_and, zk_not, zk_c1, zk_c2, zk_li, zk_lr, zk_ll, zk_c, zk_u, zk_b, zk_fi, zk_fd, zk_gi, zk_gn, zk_gl, zk_fl, zk_fs, zk_gf, zk_al, zk_aa, zk_ca, zk_ck, zk_rc, zk_ev, zk_seq, zk_skip, zk_if, zk_si, zk_sr, zk_inc, zk_okS, zk_pf, zk_pfo, zk_as, zk_aso, zk_xc, zk_rok, narrow]
  · have h3 : ¬ nI (S.w.chg c) < nI d := nI_nlt (by omega) (by omega)
    have h4 : nI (S.w.chg c) - nI d = nI (S.w.chg c - d) := pk_sub (by omega)
    have h6 : nI (S.w.chg c) + - nI d = nI (S.w.chg c - d) := by rw [← Int32.sub_eq_add_neg]; exact h4
    refine ⟨nI (S.w.chg c - d), qS.mk (S.w.up 28 c (S.w.chg c - d)) S.t S.k, qSf_w hS (qWf_go hS.w hc (by omega) hw0), ?_, ?_⟩
    · intro h hh
      refine ⟨zk_up h (53 + c) 4 (nI (S.w.chg c - d)), ?_, qCI_w hh (qCu_chg hh.w c hc12 _) (fun c' hc' _ => qup_c (by omega)), fun c' hc' => qup_c (by omega)⟩
      simp [f_X11_go, b_X11_go, qo_0_0, qo_1_2, qh_Car hS.w hh.w hc, q_out2, h1, qr_car c hc12, qf_car_5 c hc12, qf_car_4 c hc12, qf_carw_4 c hc12, hh.w.wh c hc12, hh.w.chg c hc12, h0, q_ctd hh.w hc12, ed, h3, h4, qup_s, qc_0, qc_1, qc_178, zk_sem, zk_flat, zk_env, Value.category, zk_ret, zk_ret0, zk_it, zk_or, zk_and, zk_not, zk_c1, zk_c2, zk_li, zk_lr, zk_ll, zk_c, zk_u, zk_b, zk_fi, zk_fd, zk_gi, zk_gn, zk_gl, zk_fl, zk_fs, zk_gf, zk_al, zk_aa, zk_ca, zk_ck, zk_rc, zk_ev, zk_seq, zk_skip, zk_if, zk_si, zk_sr, zk_inc, zk_okS, zk_pf, zk_pfo, zk_as, zk_aso, zk_xc, zk_rok, narrow]
    · intro h hh
      refine ⟨zk_up h 183 (16 * c + 4) (nI (S.w.chg c - d)), ?_, qRI_w hh (qRu_chg hh.w c _) rfl rfl (qup_c (by omega)) (qup_c (by omega)), fun c' hc' => qup_c (by omega)⟩
      have e1 : h 183 (16 * c + 5) = _ := hh.w.wh c hc
      have e2 : h 183 (16 * c + 4) = _ := hh.w.chg c hc
      simp [f_X12_go, b_X12_go, qi_Car hS.w hh.w hc, q_in, h1, q_get5 c hc12, q_get4 c hc12, q_more4 c hc12, e1, e2, h0, q_cfor hS.w hh.w hc, ed, h3, h6, qup_s, qc_0, qc_1, qc_178, zk_sem, zk_flat, zk_env, Value.category, zk_ret, zk_ret0, zk_it, zk_or, zk_and, zk_not, zk_c1, zk_c2, zk_li, zk_lr, zk_ll, zk_c, zk_u, zk_b, zk_fi, zk_fd, zk_gi, zk_gn, zk_gl, zk_fl, zk_fs, zk_gf, zk_al, zk_aa, zk_ca, zk_ck, zk_rc, zk_ev, zk_seq, zk_skip, zk_if, zk_si, zk_sr, zk_inc, zk_okS, zk_pf, zk_pfo, zk_as, zk_aso, zk_xc, zk_rok, narrow]
