/-! drive -/
theorem qx_oi (v a b : Int32) : (v < a ∨ b < v) ↔ ¬ (a ≤ v ∧ v ≤ b) := by
  simp only [Int32.lt_iff_toInt_lt, Int32.le_iff_toInt_le]
  omega
theorem q_out2 (v a b : Int32) (h : zk_H) : f_X11_isOutside SHP [.int v, .int a, .int b] h = some (.int (if a ≤ v ∧ v ≤ b then 0 else 1), h) := by
  rw [q_out]
  by_cases e : a ≤ v ∧ v ≤ b
  · rw [if_pos e, if_neg (fun z => (qx_oi v a b).1 z e)]
  · rw [if_neg e, if_pos ((qx_oi v a b).2 e)]
theorem qx_a7 (n : Int32) : n + 8 - 1 = n + 7 := by
  rw [Int32.sub_eq_add_neg, Int32.add_assoc]; rfl
theorem qx_a9 (n : Int32) : n + 10000 - 1 = n + 9999 := by
  rw [Int32.sub_eq_add_neg, Int32.add_assoc]; rfl
theorem q_cut8 (n : Int32) (h : zk_H) : f_X11_cutUp SHP [.int n, .int 8] h = some (.int ((n + 7) / 8), h) := by
  simp [f_X11_cutUp, b_X11_cutUp, qx_a7, qc_0, qc_1, qc_178, zk_sem, zk_flat, zk_env, Value.category, zk_ret, zk_ret0, zk_it, zk_or, zk_and, zk_not, zk_c1, zk_c2, zk_li, zk_lr, zk_ll, zk_c, zk_u, zk_b, zk_fi, zk_fd, zk_gi, zk_gn, zk_gl, zk_fl, zk_fs, zk_gf, zk_al, zk_aa, zk_ca, zk_ck, zk_rc, zk_ev, zk_seq, zk_skip, zk_if, zk_si, zk_sr, zk_inc, zk_okS, zk_pf, zk_pfo, zk_as, zk_aso, zk_xc, zk_rok, narrow]
theorem q_cutK (n : Int32) (h : zk_H) : f_X11_cutUp SHP [.int n, .int 10000] h = some (.int ((n + 9999) / 10000), h) := by
  simp [f_X11_cutUp, b_X11_cutUp, qx_a9, qc_0, qc_1, qc_178, zk_sem, zk_flat, zk_env, Value.category, zk_ret, zk_ret0, zk_it, zk_or, zk_and, zk_not, zk_c1, zk_c2, zk_li, zk_lr, zk_ll, zk_c, zk_u, zk_b, zk_fi, zk_fd, zk_gi, zk_gn, zk_gl, zk_fl, zk_fs, zk_gf, zk_al, zk_aa, zk_ca, zk_ck, zk_rc, zk_ev, zk_seq, zk_skip, zk_if, zk_si, zk_sr, zk_inc, zk_okS, zk_pf, zk_pfo, zk_as, zk_aso, zk_xc, zk_rok, narrow]
theorem q_ttd (n : Int32) (h : zk_H) : f_X10_ticksToDrive SHP [.int n] h = some (.int ((n + 7) / 8), h) := by
  simp [f_X10_ticksToDrive, b_X10_ticksToDrive, q_cut8, qc_0, qc_1, qc_178, zk_sem, zk_flat, zk_env, Value.category, zk_ret, zk_ret0, zk_it, zk_or, zk_and, zk_not, zk_c1, zk_c2, zk_li, zk_lr, zk_ll, zk_c, zk_u, zk_b, zk_fi, zk_fd, zk_gi, zk_gn, zk_gl, zk_fl, zk_fs, zk_gf, zk_al, zk_aa, zk_ca, zk_ck, zk_rc, zk_ev, zk_seq, zk_skip, zk_if, zk_si, zk_sr, zk_inc, zk_okS, zk_pf, zk_pfo, zk_as, zk_aso, zk_xc, zk_rok, narrow]
theorem q_tfor (n : Int32) (h : zk_H) : f_X12_ticksFor SHP [.int n] h = some (.int ((n + 7) / 8), h) := by
  simp [f_X12_ticksFor, b_X12_ticksFor, qc_0, qc_1, qc_178, zk_sem, zk_flat, zk_env, Value.category, zk_ret, zk_ret0, zk_it, zk_or, zk_and, zk_not, zk_c1, zk_c2, zk_li, zk_lr, zk_ll, zk_c, zk_u, zk_b, zk_fi, zk_fd, zk_gi, zk_gn, zk_gl, zk_fl, zk_fs, zk_gf, zk_al, zk_aa, zk_ca, zk_ck, zk_rc, zk_ev, zk_seq, zk_skip, zk_if, zk_si, zk_sr, zk_inc, zk_okS, zk_pf, zk_pfo, zk_as, zk_aso, zk_xc, zk_rok, narrow]
def qcd (W : qW) (c : Nat) (n : Int32) : Int32 := (n * nI (W.use c) * (100 + nI W.cold) + 9999) / 10000
theorem q_ctd {h : zk_H} {W : qW} {c : Nat} (hh : qC h W) (hc : c < 12) (n : Int32) : f_X10_chargeToDrive SHP [.ref 1, .ref (53 + c), .int n] h = some (.int (qcd W c n), h) := by
  simp [f_X10_chargeToDrive, b_X10_chargeToDrive, q_cutK, qf_car_1 c hc, qo_1_10, hh.use c hc, hh.cold, qcd, qc_0, qc_1, qc_178, zk_sem, zk_flat, zk_env, Value.category, zk_ret, zk_ret0, zk_it, zk_or, zk_and, zk_not, zk_c1, zk_c2, zk_li, zk_lr, zk_ll, zk_c, zk_u, zk_b, zk_fi, zk_fd, zk_gi, zk_gn, zk_gl, zk_fl, zk_fs, zk_gf, zk_al, zk_aa, zk_ca, zk_ck, zk_rc, zk_ev, zk_seq, zk_skip, zk_if, zk_si, zk_sr, zk_inc, zk_okS, zk_pf, zk_pfo, zk_as, zk_aso, zk_xc, zk_rok, narrow]
theorem q_cfor {h : zk_H} {W : qW} {c : Nat} (hf : qWf W) (hh : qR (fun r => h (179 + r)) W) (hc : c < W.nC) (n : Int32) : f_X12_chargeFor SHP [.ref 178, .int (nI c), .int n] h = some (.int (qcd W c n), h) := by
  have hn := hf.hC
  have a7 : zk_rdA SHP (.ref 179) (.int 7) h = some (.int (h 179 7)) := qa_179 7 (by decide) h
  have e7 : h 179 7 = _ := hh.cold
  have e1 : h 183 (16 * c + 1) = _ := hh.use c hc
  simp [f_X12_chargeFor, b_X12_chargeFor, q_get1 c (by omega), qo_178_0, a7, e7, e1, qcd, qc_0, qc_1, qc_178, zk_sem, zk_flat, zk_env, Value.category, zk_ret, zk_ret0, zk_it, zk_or, zk_and, zk_not, zk_c1, zk_c2, zk_li, zk_lr, zk_ll, zk_c, zk_u, zk_b, zk_fi, zk_fd, zk_gi, zk_gn, zk_gl, zk_fl, zk_fs, zk_gf, zk_al, zk_aa, zk_ca, zk_ck, zk_rc, zk_ev, zk_seq, zk_skip, zk_if, zk_si, zk_sr, zk_inc, zk_okS, zk_pf, zk_pfo, zk_as, zk_aso, zk_xc, zk_rok, narrow]
theorem q_drive (a n w : Int32) : zl_ok2 qInv (f_X11_drive SHP) (f_X12_drive SHP) [.int a, .int n, .int w] := by
  apply q_ok2; intro S hS
  have hn := hS.w.hC
  rcases pk_ix a (n := S.w.nC) (by omega) with ha | ha | ⟨c, hc, rfl⟩
  all_goals try (
    refine ⟨-1, S, hS, ?_, ?_⟩
    · intro h hh; refine ⟨h, ?_, hh, fun _ _ => rfl⟩
      have hx := qh_nCar hh.w (x := a) (by first | exact Or.inl ha | exact Or.inr ha)
      simp [f_X11_drive, b_X11_drive, qo_0_0, hx, qc_0, qc_1, qc_178, zk_sem, zk_flat, zk_env, Value.category, zk_ret, zk_ret0, zk_it, zk_or, zk_and, zk_not, zk_c1, zk_c2, zk_li, zk_lr, zk_ll, zk_c, zk_u, zk_b, zk_fi, zk_fd, zk_gi, zk_gn, zk_gl, zk_fl, zk_fs, zk_gf, zk_al, zk_aa, zk_ca, zk_ck, zk_rc, zk_ev, zk_seq, zk_skip, zk_if, zk_si, zk_sr, zk_inc, zk_okS, zk_pf, zk_pfo, zk_as, zk_aso, zk_xc, zk_rok, narrow]
    · intro h hh; refine ⟨h, ?_, hh, fun _ _ => rfl⟩
      have hx := qi_nCar hS.w hh.w (x := a) (by first | exact Or.inl ha | exact Or.inr ha)
      simp [f_X12_drive, b_X12_drive, hx, qc_0, qc_1, qc_178, zk_sem, zk_flat, zk_env, Value.category, zk_ret, zk_ret0, zk_it, zk_or, zk_and, zk_not, zk_c1, zk_c2, zk_li, zk_lr, zk_ll, zk_c, zk_u, zk_b, zk_fi, zk_fd, zk_gi, zk_gn, zk_gl, zk_fl, zk_fs, zk_gf, zk_al, zk_aa, zk_ca, zk_ck, zk_rc, zk_ev, zk_seq, zk_skip, zk_if, zk_si, zk_sr, zk_inc, zk_okS, zk_pf, zk_pfo, zk_as, zk_aso, zk_xc, zk_rok, narrow])
  refine ⟨if (0 ≤ n ∧ n ≤ 999) ∧ (0 ≤ w ∧ w ≤ 1) then (if w = 0 then (n + 7) / 8 else qcd S.w c n) else -1, S, hS, ?_, ?_⟩
  · intro h hh; refine ⟨h, ?_, hh, fun _ _ => rfl⟩
    by_cases h1 : (0 ≤ n ∧ n ≤ 999) <;> by_cases h2 : (0 ≤ w ∧ w ≤ 1) <;> by_cases h3 : w = 0 <;> simp [f_X11_drive, b_X11_drive, qo_0_0, qo_1_2, qh_Car hS.w hh.w hc, q_out2, qr_car c (by omega), q_ttd, q_ctd hh.w (show c < 12 by omega), h1, h2, h3, qc_0, qc_1, qc_178, zk_sem, zk_flat, zk_env, Value.category, zk_ret, zk_ret0, zk_it, zk_or, zk_and, zk_not, zk_c1, zk_c2, zk_li, zk_lr, zk_ll, zk_c, zk_u, zk_b, zk_fi, zk_fd, zk_gi, zk_gn, zk_gl, zk_fl, zk_fs, zk_gf, zk_al, zk_aa, zk_ca, zk_ck, zk_rc, zk_ev, zk_seq, zk_skip, zk_if, zk_si, zk_sr, zk_inc, zk_okS, zk_pf, zk_pfo, zk_as, zk_aso, zk_xc, zk_rok, narrow]
  · intro h hh; refine ⟨h, ?_, hh, fun _ _ => rfl⟩
    by_cases h1 : (0 ≤ n ∧ n ≤ 999) <;> by_cases h2 : (0 ≤ w ∧ w ≤ 1) <;> by_cases h3 : w = 0 <;> simp [f_X12_drive, b_X12_drive, qi_Car hS.w hh.w hc, q_in, q_tfor, q_cfor hS.w hh.w hc, h1, h2, h3, qc_0, qc_1, qc_178, zk_sem, zk_flat, zk_env, Value.category, zk_ret, zk_ret0, zk_it, zk_or, zk_and, zk_not, zk_c1, zk_c2, zk_li, zk_lr, zk_ll, zk_c, zk_u, zk_b, zk_fi, zk_fd, zk_gi, zk_gn, zk_gl, zk_fl, zk_fs, zk_gf, zk_al, zk_aa, zk_ca, zk_ck, zk_rc, zk_ev, zk_seq, zk_skip, zk_if, zk_si, zk_sr, zk_inc, zk_okS, zk_pf, zk_pfo, zk_as, zk_aso, zk_xc, zk_rok, narrow]
