/-! set, the method -/
theorem q_set (w v : Int32) : zl_ok2 qInv (f_X11_set SHP) (f_X12_set SHP) [.int w, .int v] := by
  apply q_ok2; intro S hS
  have hn := hS.w.hS
  by_cases w0 : w = 0
  · subst w0
    by_cases hv : (0 ≤ v ∧ v ≤ 50)
    · obtain ⟨n, rfl, _, hn⟩ := qx_rng (a := 0) (b := 50) (by omega) (by omega) hv
      refine ⟨nI S.w.cold, qS.mk (S.w.up 0 3 n) S.t S.k, qSf_w hS (qWf_cold hS.w n hn), ?_, ?_⟩
      · intro h hh
        refine ⟨zk_up h 1 10 (nI n), ?_, qCI_w hh (qCu_cold hh.w n) (fun c hc _ => qup_c (by omega)), fun c hc => qup_c (by omega)⟩
        simp [f_X11_set, b_X11_set, qo_0_0, qo_1_10, qp_1_10, q_out2, hv, hh.w.cold, qc_0, qc_1, qc_178, zk_sem, zk_flat, zk_env, Value.category, zk_ret, zk_ret0, zk_it, zk_or, zk_and, zk_not, zk_c1, zk_c2, zk_li, zk_lr, zk_ll, zk_c, zk_u, zk_b, zk_fi, zk_fd, zk_gi, zk_gn, zk_gl, zk_fl, zk_fs, zk_gf, zk_al, zk_aa, zk_ca, zk_ck, zk_rc, zk_ev, zk_seq, zk_skip, zk_if, zk_si, zk_sr, zk_inc, zk_okS, zk_pf, zk_pfo, zk_as, zk_aso, zk_xc, zk_rok, narrow]
      · intro h hh
        refine ⟨zk_up h 179 7 (nI n), ?_, qRI_w hh (qRu_cold hh.w n) rfl rfl (qup_c (by omega)) (qup_c (by omega)), fun c hc => qup_c (by omega)⟩
        have a7 : zk_rdA SHP (.ref 179) (.int 7) h = some (.int (h 179 7)) := qa_179 7 (by decide) h
        have w7 : ∀ x : Int32, zk_wrA SHP (.ref 179) (.int 7) (.int x) h = some (zk_up h 179 7 x) := fun x => qw_179 7 (by decide) x h
        have e7 : h 179 7 = _ := hh.w.cold
        simp [f_X12_set, b_X12_set, qo_178_0, q_in, hv, a7, w7, e7, qc_0, qc_1, qc_178, zk_sem, zk_flat, zk_env, Value.category, zk_ret, zk_ret0, zk_it, zk_or, zk_and, zk_not, zk_c1, zk_c2, zk_li, zk_lr, zk_ll, zk_c, zk_u, zk_b, zk_fi, zk_fd, zk_gi, zk_gn, zk_gl, zk_fl, zk_fs, zk_gf, zk_al, zk_aa, zk_ca, zk_ck, zk_rc, zk_ev, zk_seq, zk_skip, zk_if, zk_si, zk_sr, zk_inc, zk_okS, zk_pf, zk_pfo, zk_as, zk_aso, zk_xc, zk_rok, narrow]
    · have h5 := (qx_oi v 0 50).2 hv
      refine ⟨-1, S, hS, ?_, ?_⟩
      · intro h hh; refine ⟨h, ?_, hh, fun _ _ => rfl⟩
        simp [f_X11_set, b_X11_set, qo_0_0, q_out2, hv, h5, qc_0, qc_1, qc_178, zk_sem, zk_flat, zk_env, Value.category, zk_ret, zk_ret0, zk_it, zk_or, zk_and, zk_not, zk_c1, zk_c2, zk_li, zk_lr, zk_ll, zk_c, zk_u, zk_b, zk_fi, zk_fd, zk_gi, zk_gn, zk_gl, zk_fl, zk_fs, zk_gf, zk_al, zk_aa, zk_ca, zk_ck, zk_rc, zk_ev, zk_seq, zk_skip, zk_if, zk_si, zk_sr, zk_inc, zk_okS, zk_pf, zk_pfo, zk_as, zk_aso, zk_xc, zk_rok, narrow]
      · intro h hh; refine ⟨h, ?_, hh, fun _ _ => rfl⟩
        simp [f_X12_set, b_X12_set, qo_178_0, q_in, hv, h5, qc_0, qc_1, qc_178, zk_sem, zk_flat, zk_env, Value.category, zk_ret, zk_ret0, zk_it, zk_or, zk_and, zk_not, zk_c1, zk_c2, zk_li, zk_lr, zk_ll, zk_c, zk_u, zk_b, zk_fi, zk_fd, zk_gi, zk_gn, zk_gl, zk_fl, zk_fs, zk_gf, zk_al, zk_aa, zk_ca, zk_ck, zk_rc, zk_ev, zk_seq, zk_skip, zk_if, zk_si, zk_sr, zk_inc, zk_okS, zk_pf, zk_pfo, zk_as, zk_aso, zk_xc, zk_rok, narrow]
  by_cases w1 : w = 1
  · subst w1
    by_cases hv : (0 ≤ v ∧ v ≤ 20)
    · obtain ⟨n, rfl, _, hn⟩ := qx_rng (a := 0) (b := 20) (by omega) (by omega) hv
      refine ⟨nI S.w.drift, qS.mk (S.w.up 0 4 n) S.t S.k, qSf_w hS (qWf_drift hS.w n hn), ?_, ?_⟩
      · intro h hh
        refine ⟨zk_up h 1 11 (nI n), ?_, qCI_w hh (qCu_drift hh.w n) (fun c hc _ => qup_c (by omega)), fun c hc => qup_c (by omega)⟩
        simp [f_X11_set, b_X11_set, qo_0_0, qo_1_11, qp_1_11, q_out2, hv, hh.w.drift, qc_0, qc_1, qc_178, zk_sem, zk_flat, zk_env, Value.category, zk_ret, zk_ret0, zk_it, zk_or, zk_and, zk_not, zk_c1, zk_c2, zk_li, zk_lr, zk_ll, zk_c, zk_u, zk_b, zk_fi, zk_fd, zk_gi, zk_gn, zk_gl, zk_fl, zk_fs, zk_gf, zk_al, zk_aa, zk_ca, zk_ck, zk_rc, zk_ev, zk_seq, zk_skip, zk_if, zk_si, zk_sr, zk_inc, zk_okS, zk_pf, zk_pfo, zk_as, zk_aso, zk_xc, zk_rok, narrow]
      · intro h hh
        refine ⟨zk_up h 179 8 (nI n), ?_, qRI_w hh (qRu_drift hh.w n) rfl rfl (qup_c (by omega)) (qup_c (by omega)), fun c hc => qup_c (by omega)⟩
        have a7 : zk_rdA SHP (.ref 179) (.int 8) h = some (.int (h 179 8)) := qa_179 8 (by decide) h
        have w7 : ∀ x : Int32, zk_wrA SHP (.ref 179) (.int 8) (.int x) h = some (zk_up h 179 8 x) := fun x => qw_179 8 (by decide) x h
        have e7 : h 179 8 = _ := hh.w.drift
        simp [f_X12_set, b_X12_set, qo_178_0, q_in, hv, a7, w7, e7, qc_0, qc_1, qc_178, zk_sem, zk_flat, zk_env, Value.category, zk_ret, zk_ret0, zk_it, zk_or, zk_and, zk_not, zk_c1, zk_c2, zk_li, zk_lr, zk_ll, zk_c, zk_u, zk_b, zk_fi, zk_fd, zk_gi, zk_gn, zk_gl, zk_fl, zk_fs, zk_gf, zk_al, zk_aa, zk_ca, zk_ck, zk_rc, zk_ev, zk_seq, zk_skip, zk_if, zk_si, zk_sr, zk_inc, zk_okS, zk_pf, zk_pfo, zk_as, zk_aso, zk_xc, zk_rok, narrow]
    · have h5 := (qx_oi v 0 20).2 hv
      refine ⟨-1, S, hS, ?_, ?_⟩
      · intro h hh; refine ⟨h, ?_, hh, fun _ _ => rfl⟩
        simp [f_X11_set, b_X11_set, qo_0_0, q_out2, hv, h5, qc_0, qc_1, qc_178, zk_sem, zk_flat, zk_env, Value.category, zk_ret, zk_ret0, zk_it, zk_or, zk_and, zk_not, zk_c1, zk_c2, zk_li, zk_lr, zk_ll, zk_c, zk_u, zk_b, zk_fi, zk_fd, zk_gi, zk_gn, zk_gl, zk_fl, zk_fs, zk_gf, zk_al, zk_aa, zk_ca, zk_ck, zk_rc, zk_ev, zk_seq, zk_skip, zk_if, zk_si, zk_sr, zk_inc, zk_okS, zk_pf, zk_pfo, zk_as, zk_aso, zk_xc, zk_rok, narrow]
      · intro h hh; refine ⟨h, ?_, hh, fun _ _ => rfl⟩
        simp [f_X12_set, b_X12_set, qo_178_0, q_in, hv, h5, qc_0, qc_1, qc_178, zk_sem, zk_flat, zk_env, Value.category, zk_ret, zk_ret0, zk_it, zk_or, zk_and, zk_not, zk_c1, zk_c2, zk_li, zk_lr, zk_ll, zk_c, zk_u, zk_b, zk_fi, zk_fd, zk_gi, zk_gn, zk_gl, zk_fl, zk_fs, zk_gf, zk_al, zk_aa, zk_ca, zk_ck, zk_rc, zk_ev, zk_seq, zk_skip, zk_if, zk_si, zk_sr, zk_inc, zk_okS, zk_pf, zk_pfo, zk_as, zk_aso, zk_xc, zk_rok, narrow]
  sorry
