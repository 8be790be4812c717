/-! siteOf -/
def qa_siteOf (W : qW) (s w : Nat) : Int32 := match w with
  | 0 => nI (W.km s) | 1 => nI (W.pow s) | 2 => nI (W.first s) | 3 => nI (W.cap s) | 4 => nI (W.idle s) | 5 => nI (W.after s) | 6 => nI (W.q s).length | 7 => nI (W.wait s) | _ => nI (W.sgiv s)
theorem q_siteOf (a b : Int32) : zl_ok2 qInv (f_X11_siteOf SHP) (f_X12_siteOf SHP) [.int a, .int b] := by
  apply q_ok2; intro S hS
  have hn := hS.w.hS
  rcases pk_ix a (n := S.w.nS) (by omega) with ha | ha | ⟨s, hs, rfl⟩
  · refine ⟨-1, S, hS, ?_, ?_⟩
    · intro h hh; refine ⟨h, ?_, hh, fun _ _ => rfl⟩
      simp [f_X11_siteOf, b_X11_siteOf, qo_0_0, qh_nSite hh.w (Or.inl ha), qc_0, qc_1, qc_178, zk_sem, zk_flat, zk_env, Value.category, zk_ret, zk_ret0, zk_it, zk_or, zk_and, zk_not, zk_c1, zk_c2, zk_li, zk_lr, zk_ll, zk_c, zk_u, zk_b, zk_fi, zk_fd, zk_gi, zk_gn, zk_gl, zk_fl, zk_fs, zk_gf, zk_al, zk_aa, zk_ca, zk_ck, zk_rc, zk_ev, zk_seq, zk_skip, zk_if, zk_si, zk_sr, zk_inc, zk_okS, zk_pf, zk_pfo, zk_as, zk_aso, zk_xc, zk_rok, narrow]
    · intro h hh; refine ⟨h, ?_, hh, fun _ _ => rfl⟩
      simp [f_X12_siteOf, b_X12_siteOf, qi_nSite hS.w hh.w (Or.inl ha), qc_0, qc_1, qc_178, zk_sem, zk_flat, zk_env, Value.category, zk_ret, zk_ret0, zk_it, zk_or, zk_and, zk_not, zk_c1, zk_c2, zk_li, zk_lr, zk_ll, zk_c, zk_u, zk_b, zk_fi, zk_fd, zk_gi, zk_gn, zk_gl, zk_fl, zk_fs, zk_gf, zk_al, zk_aa, zk_ca, zk_ck, zk_rc, zk_ev, zk_seq, zk_skip, zk_if, zk_si, zk_sr, zk_inc, zk_okS, zk_pf, zk_pfo, zk_as, zk_aso, zk_xc, zk_rok, narrow]
  · refine ⟨-1, S, hS, ?_, ?_⟩
    · intro h hh; refine ⟨h, ?_, hh, fun _ _ => rfl⟩
      simp [f_X11_siteOf, b_X11_siteOf, qo_0_0, qh_nSite hh.w (Or.inr ha), qc_0, qc_1, qc_178, zk_sem, zk_flat, zk_env, Value.category, zk_ret, zk_ret0, zk_it, zk_or, zk_and, zk_not, zk_c1, zk_c2, zk_li, zk_lr, zk_ll, zk_c, zk_u, zk_b, zk_fi, zk_fd, zk_gi, zk_gn, zk_gl, zk_fl, zk_fs, zk_gf, zk_al, zk_aa, zk_ca, zk_ck, zk_rc, zk_ev, zk_seq, zk_skip, zk_if, zk_si, zk_sr, zk_inc, zk_okS, zk_pf, zk_pfo, zk_as, zk_aso, zk_xc, zk_rok, narrow]
    · intro h hh; refine ⟨h, ?_, hh, fun _ _ => rfl⟩
      simp [f_X12_siteOf, b_X12_siteOf, qi_nSite hS.w hh.w (Or.inr ha), qc_0, qc_1, qc_178, zk_sem, zk_flat, zk_env, Value.category, zk_ret, zk_ret0, zk_it, zk_or, zk_and, zk_not, zk_c1, zk_c2, zk_li, zk_lr, zk_ll, zk_c, zk_u, zk_b, zk_fi, zk_fd, zk_gi, zk_gn, zk_gl, zk_fl, zk_fs, zk_gf, zk_al, zk_aa, zk_ca, zk_ck, zk_rc, zk_ev, zk_seq, zk_skip, zk_if, zk_si, zk_sr, zk_inc, zk_okS, zk_pf, zk_pfo, zk_as, zk_aso, zk_xc, zk_rok, narrow]
  · rcases pk_ix b (n := 9) (by omega) with hb | hb | ⟨w, hw, rfl⟩
    all_goals try (
      have hb' : b < 0 ∨ nI 9 ≤ b := by first | exact Or.inl hb | exact Or.inr hb
      have n0 := qx_ne (by omega) hb'
      have k0 : ¬ b = 0 := n0 0 (by omega)
      have k1 : ¬ b = 1 := n0 1 (by omega)
      have k2 : ¬ b = 2 := n0 2 (by omega)
      have k3 : ¬ b = 3 := n0 3 (by omega)
      have k4 : ¬ b = 4 := n0 4 (by omega)
      have k5 : ¬ b = 5 := n0 5 (by omega)
      have k6 : ¬ b = 6 := n0 6 (by omega)
      have k7 : ¬ b = 7 := n0 7 (by omega)
      have k8 : ¬ b = 8 := n0 8 (by omega)
      have kb : ¬ ((0 : Int32) ≤ b ∧ b ≤ 8) := qx_bad2 (n := 8) (by omega) hb'
      refine ⟨-1, S, hS, ?_, ?_⟩
      · intro h hh; refine ⟨h, ?_, hh, fun _ _ => rfl⟩
        simp [f_X11_siteOf, b_X11_siteOf, qo_0_0, qh_Site hS.w hh.w hs, qo_1_0, qr_site s (by omega), zk_sw, zk_pick, k0, k1, k2, k3, k4, k5, k6, k7, k8, qc_0, qc_1, qc_178, zk_sem, zk_flat, zk_env, Value.category, zk_ret, zk_ret0, zk_it, zk_or, zk_and, zk_not, zk_c1, zk_c2, zk_li, zk_lr, zk_ll, zk_c, zk_u, zk_b, zk_fi, zk_fd, zk_gi, zk_gn, zk_gl, zk_fl, zk_fs, zk_gf, zk_al, zk_aa, zk_ca, zk_ck, zk_rc, zk_ev, zk_seq, zk_skip, zk_if, zk_si, zk_sr, zk_inc, zk_okS, zk_pf, zk_pfo, zk_as, zk_aso, zk_xc, zk_rok, narrow]
      · intro h hh; refine ⟨h, ?_, hh, fun _ _ => rfl⟩
        simp [f_X12_siteOf, b_X12_siteOf, qi_Site hS.w hh.w hs, q_in, kb, qc_0, qc_1, qc_178, zk_sem, zk_flat, zk_env, Value.category, zk_ret, zk_ret0, zk_it, zk_or, zk_and, zk_not, zk_c1, zk_c2, zk_li, zk_lr, zk_ll, zk_c, zk_u, zk_b, zk_fi, zk_fd, zk_gi, zk_gn, zk_gl, zk_fl, zk_fs, zk_gf, zk_al, zk_aa, zk_ca, zk_ck, zk_rc, zk_ev, zk_seq, zk_skip, zk_if, zk_si, zk_sr, zk_inc, zk_okS, zk_pf, zk_pfo, zk_as, zk_aso, zk_xc, zk_rok, narrow])
    · refine ⟨qa_siteOf S.w s w, S, hS, ?_, ?_⟩
      · intro h hh; refine ⟨h, ?_, hh, fun _ _ => rfl⟩
        have hs6 : s < 6 := by omega
        have f1 := hS.w.first s
        have e2 := hh.w.first s hs6
        have e0 := hh.w.km s hs6
        have e1 := hh.w.pow s hs6
        have e3 := hh.w.cap s hs6
        have e4 := hh.w.idle s hs6
        have e5 := hh.w.after s hs6
        have e6 := hh.w.qn s hs6
        have e7 := hh.w.wait s hs6
        have e8 := hh.w.sgiv s hs6
        have f2 : S.w.first s = 0 ∨ S.w.first s = 1 := by omega
        have hk : w = 0 ∨ w = 1 ∨ w = 2 ∨ w = 3 ∨ w = 4 ∨ w = 5 ∨ w = 6 ∨ w = 7 ∨ w = 8 := by omega
        have n0 : nI 0 = 0 := rfl
        have n1 : nI 1 = 1 := rfl
        have n2 : nI 2 = 2 := rfl
        have n3 : nI 3 = 3 := rfl
        have n4 : nI 4 = 4 := rfl
        have n5 : nI 5 = 5 := rfl
        have n6 : nI 6 = 6 := rfl
        have n7 : nI 7 = 7 := rfl
        have n8 : nI 8 = 8 := rfl
        rcases f2 with f2 | f2 <;> rw [f2] at e2 <;> rcases hk with rfl | rfl | rfl | rfl | rfl | rfl | rfl | rfl | rfl <;> simp [f_X11_siteOf, b_X11_siteOf, qo_0_0, qh_Site hS.w hh.w hs, qo_1_0, qr_site s (by omega), zk_sw, zk_pick, qf_site_0 s hs6, qf_site_1 s hs6, qf_site_2 s hs6, qf_site_3 s hs6, qf_site_4 s hs6, qf_site_5 s hs6, qf_site_6 s hs6, qf_site_7 s hs6, qf_site_8 s hs6, qa_siteOf, e0, e1, e2, e3, e4, e5, e6, e7, e8, f2, n0, n1, n2, n3, n4, n5, n6, n7, n8, qc_0, qc_1, qc_178, zk_sem, zk_flat, zk_env, Value.category, zk_ret, zk_ret0, zk_it, zk_or, zk_and, zk_not, zk_c1, zk_c2, zk_li, zk_lr, zk_ll, zk_c, zk_u, zk_b, zk_fi, zk_fd, zk_gi, zk_gn, zk_gl, zk_fl, zk_fs, zk_gf, zk_al, zk_aa, zk_ca, zk_ck, zk_rc, zk_ev, zk_seq, zk_skip, zk_if, zk_si, zk_sr, zk_inc, zk_okS, zk_pf, zk_pfo, zk_as, zk_aso, zk_xc, zk_rok, narrow]
      · intro h hh; refine ⟨h, ?_, hh, fun _ _ => rfl⟩
        have e0 : (9 : Int32) * nI s + nI w = nI (9 * s + w) := by
          rw [show (9 : Int32) = nI 9 from rfl, pk_mul, nI_add]
        have e : zk_rdA SHP (.ref 180) (.int (nI (9 * s + w))) h = some (.int (h 180 (9 * s + w))) := qa_180 _ (by omega) h
        have ei : (0 : Int32) ≤ nI w ∧ nI w ≤ 8 := ⟨nI_pos' (by omega), nI_le (b := 8) (by omega) (by omega)⟩
        simp [f_X12_siteOf, b_X12_siteOf, qi_Site hS.w hh.w hs, q_in, ei, qo_178_1, e0, e, qc_0, qc_1, qc_178, zk_sem, zk_flat, zk_env, Value.category, zk_ret, zk_ret0, zk_it, zk_or, zk_and, zk_not, zk_c1, zk_c2, zk_li, zk_lr, zk_ll, zk_c, zk_u, zk_b, zk_fi, zk_fd, zk_gi, zk_gn, zk_gl, zk_fl, zk_fs, zk_gf, zk_al, zk_aa, zk_ca, zk_ck, zk_rc, zk_ev, zk_seq, zk_skip, zk_if, zk_si, zk_sr, zk_inc, zk_okS, zk_pf, zk_pfo, zk_as, zk_aso, zk_xc, zk_rok, narrow]
        have hk : w = 0 ∨ w = 1 ∨ w = 2 ∨ w = 3 ∨ w = 4 ∨ w = 5 ∨ w = 6 ∨ w = 7 ∨ w = 8 := by omega
        rcases hk with rfl | rfl | rfl | rfl | rfl | rfl | rfl | rfl | rfl
        · exact hh.w.km s hs
        · exact hh.w.pow s hs
        · exact hh.w.first s hs
        · exact hh.w.cap s hs
        · exact hh.w.idle s hs
        · exact hh.w.after s hs
        · exact hh.w.qn s hs
        · exact hh.w.wait s hs
        · exact hh.w.sgiv s hs
