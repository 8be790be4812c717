/-! clear -/
theorem qCu_clrA {h : zk_H} {W : qW} (hh : qC h W) : qC (zk_up h 11 3 0) (W.upA []) := by
  apply qC.mk
  · exact (qup_n (by omega)).trans (hh.nS )
  · exact (qup_n (by omega)).trans (hh.nP )
  · exact (qup_n (by omega)).trans (hh.nC )
  · exact (qup_n (by omega)).trans (hh.cold )
  · exact (qup_n (by omega)).trans (hh.drift )
  · exact (qup_n (by omega)).trans (hh.now )
  · exact (qup_n (by omega)).trans (hh.given )
  · intro i y1; exact (qup_n (by omega)).trans (hh.price i y1)
  · intro s y1; exact (qup_n (by omega)).trans (hh.km s y1)
  · intro s y1; exact (qup_n (by omega)).trans (hh.pow s y1)
  · intro s y1; exact (qup_n (by omega)).trans (hh.wait s y1)
  · intro s y1; exact (qup_n (by omega)).trans (hh.sgiv s y1)
  · intro s y1; exact (qup_n (by omega)).trans (hh.first s y1)
  · intro s y1; exact (qup_n (by omega)).trans (hh.cap s y1)
  · intro s y1; exact (qup_n (by omega)).trans (hh.idle s y1)
  · intro s y1; exact (qup_n (by omega)).trans (hh.after s y1)
  · intro s y1; exact (qup_n (by omega)).trans (hh.qn s y1)
  · intro s y1; exact (qup_n (by omega)).trans (hh.pn s y1)
  · intro s y1 k c y4; exact (qup_n (by omega)).trans (hh.q s y1 k c y4)
  · intro s y1 k c y4; exact (qup_n (by omega)).trans (hh.p s y1 k c y4)
  · intro p y1; exact (qup_n (by omega)).trans (hh.psite p y1)
  · intro p y1; exact (qup_n (by omega)).trans (hh.pmost p y1)
  · intro p y1; exact (qup_n (by omega)).trans (hh.pcab p y1)
  · intro p y1; exact (qup_n (by omega)).trans (hh.pcar p y1)
  · intro p y1; exact (qup_n (by omega)).trans (hh.pfail p y1)
  · intro p y1; exact (qup_n (by omega)).trans (hh.psays p y1)
  · intro c y1; exact (qup_n (by omega)).trans (hh.bat c y1)
  · intro c y1; exact (qup_n (by omega)).trans (hh.use c y1)
  · intro c y1; exact (qup_n (by omega)).trans (hh.rate c y1)
  · intro c y1; exact (qup_n (by omega)).trans (hh.cab c y1)
  · intro c y1; exact (qup_n (by omega)).trans (hh.chg c y1)
  · intro c y1; exact (qup_n (by omega)).trans (hh.wh c y1)
  · intro c y1; exact (qup_n (by omega)).trans (hh.want c y1)
  · intro c y1; exact (qup_n (by omega)).trans (hh.stay c y1)
  · intro c y1; exact (qup_n (by omega)).trans (hh.idl c y1)
  · intro c y1; exact (qup_n (by omega)).trans (hh.idlAll c y1)
  · intro c y1; exact (qup_n (by omega)).trans (hh.got c y1)
  · intro c y1; exact (qup_n (by omega)).trans (hh.waited c y1)
  · intro c y1; exact (qup_n (by omega)).trans (hh.pays c y1)
  · intro c y1; exact (qup_n (by omega)).trans (hh.tried c y1)
  · intro c y1; exact (qup_n (by omega)).trans (hh.plugAt c y1)
  · exact (qup_n (by omega)).trans (hh.trn )
  · obtain ⟨o, ho, h1, h2⟩ := hh.tr
    exact ⟨o, ho, (qup_n (by omega)).trans h1, fun i x hx => ⟨(qup_n (by omega)).trans (h2 i x hx).1, (qup_n (by omega)).trans (h2 i x hx).2.1, (qup_n (by omega)).trans (h2 i x hx).2.2.1, (qup_n (by omega)).trans (h2 i x hx).2.2.2⟩⟩
  · exact qup_s _ _ _ _
  · intro i x hx; rw [quA_bA] at hx; simp at hx
  · exact (qup_n (by omega)).trans (hh.bBn )
  · intro i x y2; exact ⟨(qup_n (by omega)).trans (hh.bB i x y2).1, (qup_n (by omega)).trans (hh.bB i x y2).2.1, (qup_n (by omega)).trans (hh.bB i x y2).2.2⟩
theorem qRu_clrA {h : zk_H} {W : qW} (hh : qR (fun r => h (179 + r)) W) : qR (fun r => zk_up h 179 5 0 (179 + r)) (W.upA []) := by
  apply qR.mk
  · exact (qup_n (by omega)).trans (hh.now )
  · exact (qup_n (by omega)).trans (hh.nS )
  · exact (qup_n (by omega)).trans (hh.nP )
  · exact (qup_n (by omega)).trans (hh.nC )
  · exact (qup_n (by omega)).trans (hh.trn )
  · exact qup_s _ _ _ _
  · exact (qup_n (by omega)).trans (hh.bBn )
  · exact (qup_n (by omega)).trans (hh.cold )
  · exact (qup_n (by omega)).trans (hh.drift )
  · exact (qup_n (by omega)).trans (hh.given )
  · intro i y1; exact (qup_n (by omega)).trans (hh.price i y1)
  · intro s y1; exact (qup_n (by omega)).trans (hh.km s y1)
  · intro s y1; exact (qup_n (by omega)).trans (hh.pow s y1)
  · intro s y1; exact (qup_n (by omega)).trans (hh.first s y1)
  · intro s y1; exact (qup_n (by omega)).trans (hh.cap s y1)
  · intro s y1; exact (qup_n (by omega)).trans (hh.idle s y1)
  · intro s y1; exact (qup_n (by omega)).trans (hh.after s y1)
  · intro s y1; exact (qup_n (by omega)).trans (hh.qn s y1)
  · intro s y1; exact (qup_n (by omega)).trans (hh.wait s y1)
  · intro s y1; exact (qup_n (by omega)).trans (hh.sgiv s y1)
  · intro s y1 k c y4; exact (qup_n (by omega)).trans (hh.q s y1 k c y4)
  · intro p y1; exact (qup_n (by omega)).trans (hh.psite p y1)
  · intro p y1; exact (qup_n (by omega)).trans (hh.pmost p y1)
  · intro p y1; exact (qup_n (by omega)).trans (hh.pcab p y1)
  · intro p y1; exact (qup_n (by omega)).trans (hh.pcar p y1)
  · intro p y1; exact (qup_n (by omega)).trans (hh.pfail p y1)
  · intro p y1; exact (qup_n (by omega)).trans (hh.psays p y1)
  · intro c y1; exact (qup_n (by omega)).trans (hh.bat c y1)
  · intro c y1; exact (qup_n (by omega)).trans (hh.use c y1)
  · intro c y1; exact (qup_n (by omega)).trans (hh.rate c y1)
  · intro c y1; exact (qup_n (by omega)).trans (hh.cab c y1)
  · intro c y1; exact (qup_n (by omega)).trans (hh.chg c y1)
  · intro c y1; exact (qup_n (by omega)).trans (hh.wh c y1)
  · intro c y1; exact (qup_n (by omega)).trans (hh.want c y1)
  · intro c y1; exact (qup_n (by omega)).trans (hh.stay c y1)
  · intro c y1; exact (qup_n (by omega)).trans (hh.got c y1)
  · intro c y1; exact (qup_n (by omega)).trans (hh.waited c y1)
  · intro c y1; exact (qup_n (by omega)).trans (hh.idlAll c y1)
  · intro c y1; exact (qup_n (by omega)).trans (hh.pays c y1)
  · intro c y1; exact (qup_n (by omega)).trans (hh.tried c y1)
  · intro c y1; exact (qup_n (by omega)).trans (hh.idl c y1)
  · intro c y1; exact (qup_n (by omega)).trans (hh.plugAt c y1)
  · intro i x y2; exact ⟨(qup_n (by omega)).trans (hh.tr i x y2).1, (qup_n (by omega)).trans (hh.tr i x y2).2.1, (qup_n (by omega)).trans (hh.tr i x y2).2.2.1, (qup_n (by omega)).trans (hh.tr i x y2).2.2.2⟩
  · intro i x hx; rw [quA_bA] at hx; simp at hx
  · intro i x y2; exact ⟨(qup_n (by omega)).trans (hh.bB i x y2).1, (qup_n (by omega)).trans (hh.bB i x y2).2.1, (qup_n (by omega)).trans (hh.bB i x y2).2.2⟩
theorem qWf_clrA {W : qW} (hf : qWf W) : qWf (W.upA []) := by
  apply qWf.mk
  · exact hf.hS
  · exact hf.hP
  · exact hf.hC
  · exact hf.cold
  · exact hf.drift
  · exact hf.now
  · exact hf.price
  · exact hf.km
  · exact hf.inc
  · exact hf.pow
  · exact hf.wait
  · exact hf.first
  · exact hf.cap
  · exact hf.idle
  · exact hf.after
  · exact hf.freshS
  · exact hf.psite
  · exact hf.pmost
  · exact hf.pcab
  · exact hf.pfail
  · exact hf.psays
  · exact hf.freshP
  · exact hf.bat
  · exact hf.use
  · exact hf.rate
  · exact hf.cab
  · exact hf.chg
  · exact hf.stay
  · exact hf.tried
  · exact hf.plugAt
  · exact hf.freshC
  · exact hf.whOk
  · exact hf.wantOk
  · exact hf.qOk
  · exact hf.qNo
  · exact hf.carOk
  · exact hf.trN
  · exact hf.trOk
  · exact Nat.zero_le _
  · exact hf.bBN
  · intro x hx; rw [quA_bA] at hx; simp at hx
  · exact hf.bBOk
theorem qCu_clrB {h : zk_H} {W : qW} (hh : qC h W) : qC (zk_up h 15 3 0) (W.upB []) := by
  apply qC.mk
  · exact (qup_n (by omega)).trans (hh.nS )
  · exact (qup_n (by omega)).trans (hh.nP )
  · exact (qup_n (by omega)).trans (hh.nC )
  · exact (qup_n (by omega)).trans (hh.cold )
  · exact (qup_n (by omega)).trans (hh.drift )
  · exact (qup_n (by omega)).trans (hh.now )
  · exact (qup_n (by omega)).trans (hh.given )
  · intro i y1; exact (qup_n (by omega)).trans (hh.price i y1)
  · intro s y1; exact (qup_n (by omega)).trans (hh.km s y1)
  · intro s y1; exact (qup_n (by omega)).trans (hh.pow s y1)
  · intro s y1; exact (qup_n (by omega)).trans (hh.wait s y1)
  · intro s y1; exact (qup_n (by omega)).trans (hh.sgiv s y1)
  · intro s y1; exact (qup_n (by omega)).trans (hh.first s y1)
  · intro s y1; exact (qup_n (by omega)).trans (hh.cap s y1)
  · intro s y1; exact (qup_n (by omega)).trans (hh.idle s y1)
  · intro s y1; exact (qup_n (by omega)).trans (hh.after s y1)
  · intro s y1; exact (qup_n (by omega)).trans (hh.qn s y1)
  · intro s y1; exact (qup_n (by omega)).trans (hh.pn s y1)
  · intro s y1 k c y4; exact (qup_n (by omega)).trans (hh.q s y1 k c y4)
  · intro s y1 k c y4; exact (qup_n (by omega)).trans (hh.p s y1 k c y4)
  · intro p y1; exact (qup_n (by omega)).trans (hh.psite p y1)
  · intro p y1; exact (qup_n (by omega)).trans (hh.pmost p y1)
  · intro p y1; exact (qup_n (by omega)).trans (hh.pcab p y1)
  · intro p y1; exact (qup_n (by omega)).trans (hh.pcar p y1)
  · intro p y1; exact (qup_n (by omega)).trans (hh.pfail p y1)
  · intro p y1; exact (qup_n (by omega)).trans (hh.psays p y1)
  · intro c y1; exact (qup_n (by omega)).trans (hh.bat c y1)
  · intro c y1; exact (qup_n (by omega)).trans (hh.use c y1)
  · intro c y1; exact (qup_n (by omega)).trans (hh.rate c y1)
  · intro c y1; exact (qup_n (by omega)).trans (hh.cab c y1)
  · intro c y1; exact (qup_n (by omega)).trans (hh.chg c y1)
  · intro c y1; exact (qup_n (by omega)).trans (hh.wh c y1)
  · intro c y1; exact (qup_n (by omega)).trans (hh.want c y1)
  · intro c y1; exact (qup_n (by omega)).trans (hh.stay c y1)
  · intro c y1; exact (qup_n (by omega)).trans (hh.idl c y1)
  · intro c y1; exact (qup_n (by omega)).trans (hh.idlAll c y1)
  · intro c y1; exact (qup_n (by omega)).trans (hh.got c y1)
  · intro c y1; exact (qup_n (by omega)).trans (hh.waited c y1)
  · intro c y1; exact (qup_n (by omega)).trans (hh.pays c y1)
  · intro c y1; exact (qup_n (by omega)).trans (hh.tried c y1)
  · intro c y1; exact (qup_n (by omega)).trans (hh.plugAt c y1)
  · exact (qup_n (by omega)).trans (hh.trn )
  · obtain ⟨o, ho, h1, h2⟩ := hh.tr
    exact ⟨o, ho, (qup_n (by omega)).trans h1, fun i x hx => ⟨(qup_n (by omega)).trans (h2 i x hx).1, (qup_n (by omega)).trans (h2 i x hx).2.1, (qup_n (by omega)).trans (h2 i x hx).2.2.1, (qup_n (by omega)).trans (h2 i x hx).2.2.2⟩⟩
  · exact (qup_n (by omega)).trans (hh.bAn )
  · intro i x y2; exact ⟨(qup_n (by omega)).trans (hh.bA i x y2).1, (qup_n (by omega)).trans (hh.bA i x y2).2.1, (qup_n (by omega)).trans (hh.bA i x y2).2.2⟩
  · exact qup_s _ _ _ _
  · intro i x hx; rw [quB_bB] at hx; simp at hx
theorem qRu_clrB {h : zk_H} {W : qW} (hh : qR (fun r => h (179 + r)) W) : qR (fun r => zk_up h 179 6 0 (179 + r)) (W.upB []) := by
  apply qR.mk
  · exact (qup_n (by omega)).trans (hh.now )
  · exact (qup_n (by omega)).trans (hh.nS )
  · exact (qup_n (by omega)).trans (hh.nP )
  · exact (qup_n (by omega)).trans (hh.nC )
  · exact (qup_n (by omega)).trans (hh.trn )
  · exact (qup_n (by omega)).trans (hh.bAn )
  · exact qup_s _ _ _ _
  · exact (qup_n (by omega)).trans (hh.cold )
  · exact (qup_n (by omega)).trans (hh.drift )
  · exact (qup_n (by omega)).trans (hh.given )
  · intro i y1; exact (qup_n (by omega)).trans (hh.price i y1)
  · intro s y1; exact (qup_n (by omega)).trans (hh.km s y1)
  · intro s y1; exact (qup_n (by omega)).trans (hh.pow s y1)
  · intro s y1; exact (qup_n (by omega)).trans (hh.first s y1)
  · intro s y1; exact (qup_n (by omega)).trans (hh.cap s y1)
  · intro s y1; exact (qup_n (by omega)).trans (hh.idle s y1)
  · intro s y1; exact (qup_n (by omega)).trans (hh.after s y1)
  · intro s y1; exact (qup_n (by omega)).trans (hh.qn s y1)
  · intro s y1; exact (qup_n (by omega)).trans (hh.wait s y1)
  · intro s y1; exact (qup_n (by omega)).trans (hh.sgiv s y1)
  · intro s y1 k c y4; exact (qup_n (by omega)).trans (hh.q s y1 k c y4)
  · intro p y1; exact (qup_n (by omega)).trans (hh.psite p y1)
  · intro p y1; exact (qup_n (by omega)).trans (hh.pmost p y1)
  · intro p y1; exact (qup_n (by omega)).trans (hh.pcab p y1)
  · intro p y1; exact (qup_n (by omega)).trans (hh.pcar p y1)
  · intro p y1; exact (qup_n (by omega)).trans (hh.pfail p y1)
  · intro p y1; exact (qup_n (by omega)).trans (hh.psays p y1)
  · intro c y1; exact (qup_n (by omega)).trans (hh.bat c y1)
  · intro c y1; exact (qup_n (by omega)).trans (hh.use c y1)
  · intro c y1; exact (qup_n (by omega)).trans (hh.rate c y1)
  · intro c y1; exact (qup_n (by omega)).trans (hh.cab c y1)
  · intro c y1; exact (qup_n (by omega)).trans (hh.chg c y1)
  · intro c y1; exact (qup_n (by omega)).trans (hh.wh c y1)
  · intro c y1; exact (qup_n (by omega)).trans (hh.want c y1)
  · intro c y1; exact (qup_n (by omega)).trans (hh.stay c y1)
  · intro c y1; exact (qup_n (by omega)).trans (hh.got c y1)
  · intro c y1; exact (qup_n (by omega)).trans (hh.waited c y1)
  · intro c y1; exact (qup_n (by omega)).trans (hh.idlAll c y1)
  · intro c y1; exact (qup_n (by omega)).trans (hh.pays c y1)
  · intro c y1; exact (qup_n (by omega)).trans (hh.tried c y1)
  · intro c y1; exact (qup_n (by omega)).trans (hh.idl c y1)
  · intro c y1; exact (qup_n (by omega)).trans (hh.plugAt c y1)
  · intro i x y2; exact ⟨(qup_n (by omega)).trans (hh.tr i x y2).1, (qup_n (by omega)).trans (hh.tr i x y2).2.1, (qup_n (by omega)).trans (hh.tr i x y2).2.2.1, (qup_n (by omega)).trans (hh.tr i x y2).2.2.2⟩
  · intro i x y2; exact ⟨(qup_n (by omega)).trans (hh.bA i x y2).1, (qup_n (by omega)).trans (hh.bA i x y2).2.1, (qup_n (by omega)).trans (hh.bA i x y2).2.2⟩
  · intro i x hx; rw [quB_bB] at hx; simp at hx
theorem qWf_clrB {W : qW} (hf : qWf W) : qWf (W.upB []) := by
  apply qWf.mk
  · exact hf.hS
  · exact hf.hP
  · exact hf.hC
  · exact hf.cold
  · exact hf.drift
  · exact hf.now
  · exact hf.price
  · exact hf.km
  · exact hf.inc
  · exact hf.pow
  · exact hf.wait
  · exact hf.first
  · exact hf.cap
  · exact hf.idle
  · exact hf.after
  · exact hf.freshS
  · exact hf.psite
  · exact hf.pmost
  · exact hf.pcab
  · exact hf.pfail
  · exact hf.psays
  · exact hf.freshP
  · exact hf.bat
  · exact hf.use
  · exact hf.rate
  · exact hf.cab
  · exact hf.chg
  · exact hf.stay
  · exact hf.tried
  · exact hf.plugAt
  · exact hf.freshC
  · exact hf.whOk
  · exact hf.wantOk
  · exact hf.qOk
  · exact hf.qNo
  · exact hf.carOk
  · exact hf.trN
  · exact hf.trOk
  · exact hf.bAN
  · exact Nat.zero_le _
  · exact hf.bAOk
  · intro x hx; rw [quB_bB] at hx; simp at hx
theorem q_clear : zl_ok2 qInv (f_X11_clear SHP) (f_X12_clear SHP) [] := by
  apply q_ok2; intro S hS
  refine ⟨nI S.w.bA.length + nI S.w.bB.length, qS.mk ((S.w.upA []).upB []) S.t S.k, qSf_w hS (qWf_clrB (qWf_clrA hS.w)), ?_, ?_⟩
  · intro h hh
    refine ⟨zk_up (zk_up h 11 3 0) 15 3 0, ?_, qCI_w hh (qCu_clrB (qCu_clrA hh.w)) (fun c hc _ => (qup_c (by omega)).trans (qup_c (by omega))), fun c hc => (qup_c (by omega)).trans (qup_c (by omega))⟩
    simp [f_X11_clear, b_X11_clear, qo_0_0, qo_1_5, qo_1_6, qo_11_3, qo_15_3, qp_11_3, qp_15_3, hh.w.bAn, hh.w.bBn, qc_0, qc_1, qc_178, zk_sem, zk_flat, zk_env, Value.category, zk_ret, zk_ret0, zk_it, zk_or, zk_and, zk_not, zk_c1, zk_c2, zk_li, zk_lr, zk_ll, zk_c, zk_u, zk_b, zk_fi, zk_fd, zk_gi, zk_gn, zk_gl, zk_fl, zk_fs, zk_gf, zk_al, zk_aa, zk_ca, zk_ck, zk_rc, zk_ev, zk_seq, zk_skip, zk_if, zk_si, zk_sr, zk_inc, zk_okS, zk_pf, zk_pfo, zk_as, zk_aso, zk_xc, zk_rok, narrow]
  · intro h hh
    refine ⟨zk_up (zk_up h 179 5 0) 179 6 0, ?_, qRI_w hh (qRu_clrB (qRu_clrA hh.w)) rfl rfl ((qup_c (by omega)).trans (qup_c (by omega))) ((qup_c (by omega)).trans (qup_c (by omega))), fun c hc => (qup_c (by omega)).trans (qup_c (by omega))⟩
    have a5 : ∀ g : zk_H, zk_rdA SHP (.ref 179) (.int 5) g = some (.int (g 179 5)) := fun g => qa_179 5 (by decide) g
    have a6 : ∀ g : zk_H, zk_rdA SHP (.ref 179) (.int 6) g = some (.int (g 179 6)) := fun g => qa_179 6 (by decide) g
    have w5 : ∀ (x : Int32) (g : zk_H), zk_wrA SHP (.ref 179) (.int 5) (.int x) g = some (zk_up g 179 5 x) := fun x g => qw_179 5 (by decide) x g
    have w6 : ∀ (x : Int32) (g : zk_H), zk_wrA SHP (.ref 179) (.int 6) (.int x) g = some (zk_up g 179 6 x) := fun x g => qw_179 6 (by decide) x g
    have e5 : h 179 5 = _ := hh.w.bAn
    have e6 : h 179 6 = _ := hh.w.bBn
    simp [f_X12_clear, b_X12_clear, qo_178_0, a5, a6, w5, w6, e5, e6, qc_0, qc_1, qc_178, zk_sem, zk_flat, zk_env, Value.category, zk_ret, zk_ret0, zk_it, zk_or, zk_and, zk_not, zk_c1, zk_c2, zk_li, zk_lr, zk_ll, zk_c, zk_u, zk_b, zk_fi, zk_fd, zk_gi, zk_gn, zk_gl, zk_fl, zk_fs, zk_gf, zk_al, zk_aa, zk_ca, zk_ck, zk_rc, zk_ev, zk_seq, zk_skip, zk_if, zk_si, zk_sr, zk_inc, zk_okS, zk_pf, zk_pfo, zk_as, zk_aso, zk_xc, zk_rok, narrow]
