/-! fail, says -/
theorem qCI_w {h g : zk_H} {S : qS} {W : qW} (hh : qCI h S) (hw : qC g W) (e : ∀ c, c = 0 ∨ 64 < c → c < 131 → g c = h c) : qCI g (qS.mk W S.t S.k) := by
  apply qCI.mk
  · exact hw
  · rw [e 129 (by omega) (by omega)]; exact hh.tn
  · intro i x hx; rw [e 130 (by omega) (by omega)]; exact hh.t i x hx
  · rw [e 0 (by omega) (by omega)]; exact hh.kb
  · intro K hK; exact qC_of (hh.k K hK) (fun c _ h2 => e (c + 64) (by omega) (by omega))
theorem qRI_w {h g : zk_H} {S : qS} {W : qW} (hh : qRI h S) (hw : qR (fun r => g (179 + r)) W) (e1 : g 178 18 = h 178 18) (e2 : g 178 30 = h 178 30) (e3 : g 193 = h 193) (e4 : g 200 = h 200) : qRI g (qS.mk W S.t S.k) := by
  apply qRI.mk
  · exact hw
  · rw [e1]; exact hh.tn
  · intro i x hx; rw [e3]; exact hh.t i x hx
  · rw [e2]; exact hh.kb
  · intro K hK; rw [e4]; exact hh.k K hK
theorem qSf_w {S : qS} {W : qW} (hh : qSf S) (hw : qWf W) : qSf (qS.mk W S.t S.k) := qSf.mk hw hh.tn hh.t hh.k
theorem qWf_pfail {W : qW} (hf : qWf W) (p v : Nat) (hp : p < W.nP) (hv : v ≤ 1) : qWf (W.up 22 p v) := by
  apply qWf.mk
  all_goals first
    | exact hf.hS | exact hf.hP | exact hf.hC | exact hf.cold | exact hf.drift | exact hf.now | exact hf.price | exact hf.km | exact hf.inc | exact hf.pow | exact hf.wait | exact hf.first | exact hf.cap | exact hf.idle | exact hf.after | exact hf.freshS | exact hf.psite | exact hf.pmost | exact hf.pcab | exact hf.psays | exact hf.bat | exact hf.use | exact hf.rate | exact hf.cab | exact hf.chg | exact hf.stay | exact hf.tried | exact hf.plugAt | exact hf.freshC | exact hf.whOk | exact hf.wantOk | exact hf.qOk | exact hf.qNo | exact hf.carOk | exact hf.trN | exact hf.trOk | exact hf.bAN | exact hf.bBN | exact hf.bAOk | exact hf.bBOk
    | (intro j; rw [qu_pfail]; split; exact hv; exact hf.pfail j)
    | (intro j hj; have hj' : W.nP ≤ j := hj; have z := hf.freshP j hj'; rw [qu_pfail, if_neg (by omega)]; exact z)
theorem q_fail (a b : Int32) : zl_ok2 qInv (f_X11_fail SHP) (f_X12_fail SHP) [.int a, .int (zl_b b)] := by
  apply q_ok2; intro S hS
  have hn := hS.w.hP
  rcases pk_ix a (n := S.w.nP) (by omega) with ha | ha | ⟨p, hp, rfl⟩
  all_goals try (
    refine ⟨-1, S, hS, ?_, ?_⟩
    · intro h hh; refine ⟨h, ?_, hh, fun _ _ => rfl⟩
      have hx := qh_nPlug hh.w (x := a) (by first | exact Or.inl ha | exact Or.inr ha)
      simp [f_X11_fail, b_X11_fail, qo_0_0, hx, qc_0, qc_1, qc_178, zk_sem, zk_flat, zk_env, Value.category, zk_ret, zk_ret0, zk_it, zk_or, zk_and, zk_not, zk_c1, zk_c2, zk_li, zk_lr, zk_ll, zk_c, zk_u, zk_b, zk_fi, zk_fd, zk_gi, zk_gn, zk_gl, zk_fl, zk_fs, zk_gf, zk_al, zk_aa, zk_ca, zk_ck, zk_rc, zk_ev, zk_seq, zk_skip, zk_if, zk_si, zk_sr, zk_inc, zk_okS, zk_pf, zk_pfo, zk_as, zk_aso, zk_xc, zk_rok, narrow]
    · intro h hh; refine ⟨h, ?_, hh, fun _ _ => rfl⟩
      have hx := qi_nPlug hS.w hh.w (x := a) (by first | exact Or.inl ha | exact Or.inr ha)
      simp [f_X12_fail, b_X12_fail, hx, qc_0, qc_1, qc_178, zk_sem, zk_flat, zk_env, Value.category, zk_ret, zk_ret0, zk_it, zk_or, zk_and, zk_not, zk_c1, zk_c2, zk_li, zk_lr, zk_ll, zk_c, zk_u, zk_b, zk_fi, zk_fd, zk_gi, zk_gn, zk_gl, zk_fl, zk_fs, zk_gf, zk_al, zk_aa, zk_ca, zk_ck, zk_rc, zk_ev, zk_seq, zk_skip, zk_if, zk_si, zk_sr, zk_inc, zk_okS, zk_pf, zk_pfo, zk_as, zk_aso, zk_xc, zk_rok, narrow])
  have hp16 : p < 16 := by omega
  have f2 : S.w.pfail p = 0 ∨ S.w.pfail p = 1 := by have := hS.w.pfail p; omega
  refine ⟨if nI (S.w.pfail p) = zl_b b then 0 else 1, qS.mk (S.w.up 22 p (if b = 0 then 0 else 1)) S.t S.k, qSf_w hS (qWf_pfail hS.w p _ hp (by split <;> omega)), ?_, ?_⟩
  · intro h hh
    refine ⟨zk_up h (37 + p) 4 (nI (if b = 0 then 0 else 1)), ?_, qCI_w hh (qCu_pfail hh.w p hp16 _) (fun c hc _ => qup_c (by omega)), fun c hc => qup_c (by omega)⟩
    have e1 := hh.w.pfail p hp16
    have e2 := qz_plug4 p hp16 0 (Or.inl rfl) h
    have e3 := qz_plug4 p hp16 1 (Or.inr rfl) h
    have n0 : nI 0 = 0 := rfl
    have n1 : nI 1 = 1 := rfl
    rcases f2 with f2 | f2 <;> rw [f2] at e1 <;> by_cases hb : b = 0 <;> simp [f_X11_fail, b_X11_fail, qo_0_0, qh_Plug hS.w hh.w hp, qo_1_1, qr_plug p hp16, qf_plug_4 p hp16, e1, e2, e3, f2, n0, n1, zl_b, hb, qc_0, qc_1, qc_178, zk_sem, zk_flat, zk_env, Value.category, zk_ret, zk_ret0, zk_it, zk_or, zk_and, zk_not, zk_c1, zk_c2, zk_li, zk_lr, zk_ll, zk_c, zk_u, zk_b, zk_fi, zk_fd, zk_gi, zk_gn, zk_gl, zk_fl, zk_fs, zk_gf, zk_al, zk_aa, zk_ca, zk_ck, zk_rc, zk_ev, zk_seq, zk_skip, zk_if, zk_si, zk_sr, zk_inc, zk_okS, zk_pf, zk_pfo, zk_as, zk_aso, zk_xc, zk_rok, narrow]
  · intro h hh
    refine ⟨zk_up h 182 (6 * p + 4) (nI (if b = 0 then 0 else 1)), ?_, qRI_w hh (qRu_pfail hh.w p _) rfl rfl (qup_c (by omega)) (qup_c (by omega)), fun c hc => qup_c (by omega)⟩
    have e1 : h 182 (6 * p + 4) = _ := hh.w.pfail p hp
    have e0 : (6 : Int32) * nI p + 4 = nI (6 * p + 4) := by
      rw [show (6 : Int32) = nI 6 from rfl, show (4 : Int32) = nI 4 from rfl, pk_mul, nI_add]
    have e : zk_rdA SHP (.ref 182) (.int (nI (6 * p + 4))) h = some (.int (h 182 (6 * p + 4))) := qa_182 _ (by omega) h
    have e2 : ∀ y, zk_wrA SHP (.ref 182) (.int (nI (6 * p + 4))) (.int y) h = some (zk_up h 182 (6 * p + 4) y) := fun y => qw_182 _ (by omega) y h
    have n0 : nI 0 = 0 := rfl
    have n1 : nI 1 = 1 := rfl
    rcases f2 with f2 | f2 <;> rw [f2] at e1 <;> by_cases hb : b = 0 <;> simp [f_X12_fail, b_X12_fail, qi_Plug hS.w hh.w hp, qo_178_3, e0, e, e1, e2, f2, n0, n1, zl_b, hb, qc_0, qc_1, qc_178, zk_sem, zk_flat, zk_env, Value.category, zk_ret, zk_ret0, zk_it, zk_or, zk_and, zk_not, zk_c1, zk_c2, zk_li, zk_lr, zk_ll, zk_c, zk_u, zk_b, zk_fi, zk_fd, zk_gi, zk_gn, zk_gl, zk_fl, zk_fs, zk_gf, zk_al, zk_aa, zk_ca, zk_ck, zk_rc, zk_ev, zk_seq, zk_skip, zk_if, zk_si, zk_sr, zk_inc, zk_okS, zk_pf, zk_pfo, zk_as, zk_aso, zk_xc, zk_rok, narrow]
theorem qWf_psays {W : qW} (hf : qWf W) (p v : Nat) (hp : p < W.nP) (hv : v ≤ 1) : qWf (W.up 23 p v) := by
  apply qWf.mk
  all_goals first
    | exact hf.hS | exact hf.hP | exact hf.hC | exact hf.cold | exact hf.drift | exact hf.now | exact hf.price | exact hf.km | exact hf.inc | exact hf.pow | exact hf.wait | exact hf.first | exact hf.cap | exact hf.idle | exact hf.after | exact hf.freshS | exact hf.psite | exact hf.pmost | exact hf.pcab | exact hf.pfail | exact hf.bat | exact hf.use | exact hf.rate | exact hf.cab | exact hf.chg | exact hf.stay | exact hf.tried | exact hf.plugAt | exact hf.freshC | exact hf.whOk | exact hf.wantOk | exact hf.qOk | exact hf.qNo | exact hf.carOk | exact hf.trN | exact hf.trOk | exact hf.bAN | exact hf.bBN | exact hf.bAOk | exact hf.bBOk
    | (intro j; rw [qu_psays]; split; exact hv; exact hf.psays j)
    | (intro j hj; have hj' : W.nP ≤ j := hj; have z := hf.freshP j hj'; rw [qu_psays, if_neg (by omega)]; exact z)
theorem q_says (a b : Int32) : zl_ok2 qInv (f_X11_says SHP) (f_X12_says SHP) [.int a, .int (zl_b b)] := by
  apply q_ok2; intro S hS
  have hn := hS.w.hP
  rcases pk_ix a (n := S.w.nP) (by omega) with ha | ha | ⟨p, hp, rfl⟩
  all_goals try (
    refine ⟨-1, S, hS, ?_, ?_⟩
    · intro h hh; refine ⟨h, ?_, hh, fun _ _ => rfl⟩
      have hx := qh_nPlug hh.w (x := a) (by first | exact Or.inl ha | exact Or.inr ha)
      simp [f_X11_says, b_X11_says, qo_0_0, hx, qc_0, qc_1, qc_178, zk_sem, zk_flat, zk_env, Value.category, zk_ret, zk_ret0, zk_it, zk_or, zk_and, zk_not, zk_c1, zk_c2, zk_li, zk_lr, zk_ll, zk_c, zk_u, zk_b, zk_fi, zk_fd, zk_gi, zk_gn, zk_gl, zk_fl, zk_fs, zk_gf, zk_al, zk_aa, zk_ca, zk_ck, zk_rc, zk_ev, zk_seq, zk_skip, zk_if, zk_si, zk_sr, zk_inc, zk_okS, zk_pf, zk_pfo, zk_as, zk_aso, zk_xc, zk_rok, narrow]
    · intro h hh; refine ⟨h, ?_, hh, fun _ _ => rfl⟩
      have hx := qi_nPlug hS.w hh.w (x := a) (by first | exact Or.inl ha | exact Or.inr ha)
      simp [f_X12_says, b_X12_says, hx, qc_0, qc_1, qc_178, zk_sem, zk_flat, zk_env, Value.category, zk_ret, zk_ret0, zk_it, zk_or, zk_and, zk_not, zk_c1, zk_c2, zk_li, zk_lr, zk_ll, zk_c, zk_u, zk_b, zk_fi, zk_fd, zk_gi, zk_gn, zk_gl, zk_fl, zk_fs, zk_gf, zk_al, zk_aa, zk_ca, zk_ck, zk_rc, zk_ev, zk_seq, zk_skip, zk_if, zk_si, zk_sr, zk_inc, zk_okS, zk_pf, zk_pfo, zk_as, zk_aso, zk_xc, zk_rok, narrow])
  have hp16 : p < 16 := by omega
  have f2 : S.w.psays p = 0 ∨ S.w.psays p = 1 := by have := hS.w.psays p; omega
  refine ⟨if nI (S.w.psays p) = zl_b b then 0 else 1, qS.mk (S.w.up 23 p (if b = 0 then 0 else 1)) S.t S.k, qSf_w hS (qWf_psays hS.w p _ hp (by split <;> omega)), ?_, ?_⟩
  · intro h hh
    refine ⟨zk_up h (37 + p) 5 (nI (if b = 0 then 0 else 1)), ?_, qCI_w hh (qCu_psays hh.w p hp16 _) (fun c hc _ => qup_c (by omega)), fun c hc => qup_c (by omega)⟩
    have e1 := hh.w.psays p hp16
    have e2 := qz_plug5 p hp16 0 (Or.inl rfl) h
    have e3 := qz_plug5 p hp16 1 (Or.inr rfl) h
    have n0 : nI 0 = 0 := rfl
    have n1 : nI 1 = 1 := rfl
    rcases f2 with f2 | f2 <;> rw [f2] at e1 <;> by_cases hb : b = 0 <;> simp [f_X11_says, b_X11_says, qo_0_0, qh_Plug hS.w hh.w hp, qo_1_1, qr_plug p hp16, qf_plug_5 p hp16, e1, e2, e3, f2, n0, n1, zl_b, hb, qc_0, qc_1, qc_178, zk_sem, zk_flat, zk_env, Value.category, zk_ret, zk_ret0, zk_it, zk_or, zk_and, zk_not, zk_c1, zk_c2, zk_li, zk_lr, zk_ll, zk_c, zk_u, zk_b, zk_fi, zk_fd, zk_gi, zk_gn, zk_gl, zk_fl, zk_fs, zk_gf, zk_al, zk_aa, zk_ca, zk_ck, zk_rc, zk_ev, zk_seq, zk_skip, zk_if, zk_si, zk_sr, zk_inc, zk_okS, zk_pf, zk_pfo, zk_as, zk_aso, zk_xc, zk_rok, narrow]
  · intro h hh
    refine ⟨zk_up h 182 (6 * p + 5) (nI (if b = 0 then 0 else 1)), ?_, qRI_w hh (qRu_psays hh.w p _) rfl rfl (qup_c (by omega)) (qup_c (by omega)), fun c hc => qup_c (by omega)⟩
    have e1 : h 182 (6 * p + 5) = _ := hh.w.psays p hp
    have e0 : (6 : Int32) * nI p + 5 = nI (6 * p + 5) := by
      rw [show (6 : Int32) = nI 6 from rfl, show (5 : Int32) = nI 5 from rfl, pk_mul, nI_add]
    have e : zk_rdA SHP (.ref 182) (.int (nI (6 * p + 5))) h = some (.int (h 182 (6 * p + 5))) := qa_182 _ (by omega) h
    have e2 : ∀ y, zk_wrA SHP (.ref 182) (.int (nI (6 * p + 5))) (.int y) h = some (zk_up h 182 (6 * p + 5) y) := fun y => qw_182 _ (by omega) y h
    have n0 : nI 0 = 0 := rfl
    have n1 : nI 1 = 1 := rfl
    rcases f2 with f2 | f2 <;> rw [f2] at e1 <;> by_cases hb : b = 0 <;> simp [f_X12_says, b_X12_says, qi_Plug hS.w hh.w hp, qo_178_3, e0, e, e1, e2, f2, n0, n1, zl_b, hb, qc_0, qc_1, qc_178, zk_sem, zk_flat, zk_env, Value.category, zk_ret, zk_ret0, zk_it, zk_or, zk_and, zk_not, zk_c1, zk_c2, zk_li, zk_lr, zk_ll, zk_c, zk_u, zk_b, zk_fi, zk_fd, zk_gi, zk_gn, zk_gl, zk_fl, zk_fs, zk_gf, zk_al, zk_aa, zk_ca, zk_ck, zk_rc, zk_ev, zk_seq, zk_skip, zk_if, zk_si, zk_sr, zk_inc, zk_okS, zk_pf, zk_pfo, zk_as, zk_aso, zk_xc, zk_rok, narrow]
