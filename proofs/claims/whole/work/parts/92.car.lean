/-! car -/
def qcar (W : qW) (b u r k c : Nat) : qW := (((((W.up 24 W.nC b).up 25 W.nC u).up 26 W.nC r).up 27 W.nC k).up 28 W.nC c).up 0 2 (W.nC + 1)
theorem qC_car {h g : zk_H} {W : qW} (hh : qC h W) (hn : W.nC < 12) {b u r k c : Nat} (e : ∀ a i, ((a ≠ 53 + W.nC ∨ 5 ≤ i) ∧ (a ≠ 1 ∨ i ≠ 9)) → g a i = h a i) (en : g 1 9 = nI (W.nC + 1)) (e0 : g (53 + W.nC) 0 = nI b) (e1 : g (53 + W.nC) 1 = nI u) (e2 : g (53 + W.nC) 2 = nI r) (e3 : g (53 + W.nC) 3 = nI k) (e4 : g (53 + W.nC) 4 = nI c) : qC g (qcar W b u r k c) := by
  apply qC.mk
  · exact (e _ _ (by omega)).trans hh.nS
  · exact (e _ _ (by omega)).trans hh.nP
  · exact en
  · exact (e _ _ (by omega)).trans hh.cold
  · exact (e _ _ (by omega)).trans hh.drift
  · exact (e _ _ (by omega)).trans hh.now
  · exact (e _ _ (by omega)).trans hh.given
  · intro s y; exact (e _ _ (by omega)).trans (hh.price s y)
  · intro s y; exact (e _ _ (by omega)).trans (hh.km s y)
  · intro s y; exact (e _ _ (by omega)).trans (hh.pow s y)
  · intro s y; exact (e _ _ (by omega)).trans (hh.wait s y)
  · intro s y; exact (e _ _ (by omega)).trans (hh.sgiv s y)
  · intro s y; exact (e _ _ (by omega)).trans (hh.first s y)
  · intro s y; exact (e _ _ (by omega)).trans (hh.cap s y)
  · intro s y; exact (e _ _ (by omega)).trans (hh.idle s y)
  · intro s y; exact (e _ _ (by omega)).trans (hh.after s y)
  · intro s y; exact (e _ _ (by omega)).trans (hh.qn s y)
  · intro s y; exact (e _ _ (by omega)).trans (hh.pn s y)
  · intro s y k c y2; exact (e _ _ (by omega)).trans (hh.q s y k c y2)
  · intro s y k c y2; exact (e _ _ (by omega)).trans (hh.p s y k c y2)
  · intro s y; exact (e _ _ (by omega)).trans (hh.psite s y)
  · intro s y; exact (e _ _ (by omega)).trans (hh.pmost s y)
  · intro s y; exact (e _ _ (by omega)).trans (hh.pcab s y)
  · intro s y; exact (e _ _ (by omega)).trans (hh.pcar s y)
  · intro s y; exact (e _ _ (by omega)).trans (hh.pfail s y)
  · intro s y; exact (e _ _ (by omega)).trans (hh.psays s y)
  · intro s y1; simp only [qcar, qu_bat]; by_cases hs : s = W.nC
    · simp [hs, e0]
    · simp [hs]; exact (e _ _ (by omega)).trans (hh.bat s y1)
  · intro s y1; simp only [qcar, qu_use]; by_cases hs : s = W.nC
    · simp [hs, e1]
    · simp [hs]; exact (e _ _ (by omega)).trans (hh.use s y1)
  · intro s y1; simp only [qcar, qu_rate]; by_cases hs : s = W.nC
    · simp [hs, e2]
    · simp [hs]; exact (e _ _ (by omega)).trans (hh.rate s y1)
  · intro s y1; simp only [qcar, qu_cab]; by_cases hs : s = W.nC
    · simp [hs, e3]
    · simp [hs]; exact (e _ _ (by omega)).trans (hh.cab s y1)
  · intro s y1; simp only [qcar, qu_chg]; by_cases hs : s = W.nC
    · simp [hs, e4]
    · simp [hs]; exact (e _ _ (by omega)).trans (hh.chg s y1)
  · intro s y; exact (e _ _ (by omega)).trans (hh.wh s y)
  · intro s y; exact (e _ _ (by omega)).trans (hh.want s y)
  · intro s y; exact (e _ _ (by omega)).trans (hh.stay s y)
  · intro s y; exact (e _ _ (by omega)).trans (hh.idl s y)
  · intro s y; exact (e _ _ (by omega)).trans (hh.idlAll s y)
  · intro s y; exact (e _ _ (by omega)).trans (hh.got s y)
  · intro s y; exact (e _ _ (by omega)).trans (hh.waited s y)
  · intro s y; exact (e _ _ (by omega)).trans (hh.pays s y)
  · intro s y; exact (e _ _ (by omega)).trans (hh.tried s y)
  · intro s y; exact (e _ _ (by omega)).trans (hh.plugAt s y)
  · exact (e _ _ (by omega)).trans hh.trn
  · obtain ⟨o, ho, k1, k2⟩ := hh.tr
    exact ⟨o, ho, (e _ _ (by omega)).trans k1, fun i x hx => ⟨(e _ _ (by omega)).trans (k2 i x hx).1, (e _ _ (by omega)).trans (k2 i x hx).2.1, (e _ _ (by omega)).trans (k2 i x hx).2.2.1, (e _ _ (by omega)).trans (k2 i x hx).2.2.2⟩⟩
  · exact (e _ _ (by omega)).trans hh.bAn
  · intro i x y; exact ⟨(e _ _ (by omega)).trans (hh.bA i x y).1, (e _ _ (by omega)).trans (hh.bA i x y).2.1, (e _ _ (by omega)).trans (hh.bA i x y).2.2⟩
  · exact (e _ _ (by omega)).trans hh.bBn
  · intro i x y; exact ⟨(e _ _ (by omega)).trans (hh.bB i x y).1, (e _ _ (by omega)).trans (hh.bB i x y).2.1, (e _ _ (by omega)).trans (hh.bB i x y).2.2⟩

theorem qR_car {h g : zk_H} {W : qW} (hh : qR (fun r => h (179 + r)) W) (hf : qWf W) {b u r k c : Nat} (e : ∀ a i, (179 ≤ a ∧ a < 187 ∧ (a = 179 → i ≠ 3) ∧ (a = 183 → i < 16 * W.nC ∨ 16 * W.nC + 16 ≤ i)) → g a i = h a i) (en : g 179 3 = nI (W.nC + 1)) (f0 : g 183 (16 * W.nC) = nI b) (f1 : g 183 (16 * W.nC + 1) = nI u) (f2 : g 183 (16 * W.nC + 2) = nI r) (f3 : g 183 (16 * W.nC + 3) = nI k) (f4 : g 183 (16 * W.nC + 4) = nI c) (f9 : ∀ j, 5 ≤ j → j < 16 → g 183 (16 * W.nC + j) = nI 0) : qR (fun r => g (179 + r)) (qcar W b u r k c) := by
  apply qR.mk
  · exact (e _ _ (by omega)).trans hh.now
  · exact (e _ _ (by omega)).trans hh.nS
  · exact (e _ _ (by omega)).trans hh.nP
  · exact en
  · exact (e _ _ (by omega)).trans hh.trn
  · exact (e _ _ (by omega)).trans hh.bAn
  · exact (e _ _ (by omega)).trans hh.bBn
  · exact (e _ _ (by omega)).trans hh.cold
  · exact (e _ _ (by omega)).trans hh.drift
  · exact (e _ _ (by omega)).trans hh.given
  · intro s y; exact (e _ _ (by omega)).trans (hh.price s y)
  · intro s y; exact (e _ _ (by omega)).trans (hh.km s y)
  · intro s y; exact (e _ _ (by omega)).trans (hh.pow s y)
  · intro s y; exact (e _ _ (by omega)).trans (hh.first s y)
  · intro s y; exact (e _ _ (by omega)).trans (hh.cap s y)
  · intro s y; exact (e _ _ (by omega)).trans (hh.idle s y)
  · intro s y; exact (e _ _ (by omega)).trans (hh.after s y)
  · intro s y; exact (e _ _ (by omega)).trans (hh.qn s y)
  · intro s y; exact (e _ _ (by omega)).trans (hh.wait s y)
  · intro s y; exact (e _ _ (by omega)).trans (hh.sgiv s y)
  · intro s y k c y2; exact (e _ _ (by omega)).trans (hh.q s y k c y2)
  · intro s y; exact (e _ _ (by omega)).trans (hh.psite s y)
  · intro s y; exact (e _ _ (by omega)).trans (hh.pmost s y)
  · intro s y; exact (e _ _ (by omega)).trans (hh.pcab s y)
  · intro s y; exact (e _ _ (by omega)).trans (hh.pcar s y)
  · intro s y; exact (e _ _ (by omega)).trans (hh.pfail s y)
  · intro s y; exact (e _ _ (by omega)).trans (hh.psays s y)
  · intro s y1
    have y1 : s < W.nC + 1 := y1
    simp only [qcar, qu_bat]; by_cases hs : s = W.nC
    · simp [hs]; exact f0
    · simp [hs]; exact (e _ _ (by omega)).trans (hh.bat s (by omega))
  · intro s y1
    have y1 : s < W.nC + 1 := y1
    simp only [qcar, qu_use]; by_cases hs : s = W.nC
    · simp [hs]; exact f1
    · simp [hs]; exact (e _ _ (by omega)).trans (hh.use s (by omega))
  · intro s y1
    have y1 : s < W.nC + 1 := y1
    simp only [qcar, qu_rate]; by_cases hs : s = W.nC
    · simp [hs]; exact f2
    · simp [hs]; exact (e _ _ (by omega)).trans (hh.rate s (by omega))
  · intro s y1
    have y1 : s < W.nC + 1 := y1
    simp only [qcar, qu_cab]; by_cases hs : s = W.nC
    · simp [hs]; exact f3
    · simp [hs]; exact (e _ _ (by omega)).trans (hh.cab s (by omega))
  · intro s y1
    have y1 : s < W.nC + 1 := y1
    simp only [qcar, qu_chg]; by_cases hs : s = W.nC
    · simp [hs]; exact f4
    · simp [hs]; exact (e _ _ (by omega)).trans (hh.chg s (by omega))
  · intro s y1
    have y1 : s < W.nC + 1 := y1
    by_cases hs : s = W.nC
    · rw [hs]
      have z := (hf.freshC W.nC (Nat.le_refl _)).1
      show _ = nI (W.wh W.nC)
      rw [z]; exact f9 5 (by omega) (by omega)
    · exact (e _ _ (by omega)).trans (hh.wh s (by omega))
  · intro s y1
    have y1 : s < W.nC + 1 := y1
    by_cases hs : s = W.nC
    · rw [hs]
      have z := (hf.freshC W.nC (Nat.le_refl _)).2.1
      show _ = nI (W.want W.nC)
      rw [z]; exact f9 6 (by omega) (by omega)
    · exact (e _ _ (by omega)).trans (hh.want s (by omega))
  · intro s y1
    have y1 : s < W.nC + 1 := y1
    by_cases hs : s = W.nC
    · rw [hs]
      have z := (hf.freshC W.nC (Nat.le_refl _)).2.2.1
      show _ = nI (W.stay W.nC)
      rw [z]; exact f9 7 (by omega) (by omega)
    · exact (e _ _ (by omega)).trans (hh.stay s (by omega))
  · intro s y1
    have y1 : s < W.nC + 1 := y1
    by_cases hs : s = W.nC
    · rw [hs]
      have z := (hf.freshC W.nC (Nat.le_refl _)).2.2.2.2.2.1
      show _ = nI (W.got W.nC)
      rw [z]; exact f9 8 (by omega) (by omega)
    · exact (e _ _ (by omega)).trans (hh.got s (by omega))
  · intro s y1
    have y1 : s < W.nC + 1 := y1
    by_cases hs : s = W.nC
    · rw [hs]
      have z := (hf.freshC W.nC (Nat.le_refl _)).2.2.2.2.2.2.1
      show _ = nI (W.waited W.nC)
      rw [z]; exact f9 9 (by omega) (by omega)
    · exact (e _ _ (by omega)).trans (hh.waited s (by omega))
  · intro s y1
    have y1 : s < W.nC + 1 := y1
    by_cases hs : s = W.nC
    · rw [hs]
      have z := (hf.freshC W.nC (Nat.le_refl _)).2.2.2.2.1
      show _ = nI (W.idlAll W.nC)
      rw [z]; exact f9 10 (by omega) (by omega)
    · exact (e _ _ (by omega)).trans (hh.idlAll s (by omega))
  · intro s y1
    have y1 : s < W.nC + 1 := y1
    by_cases hs : s = W.nC
    · rw [hs]
      have z := (hf.freshC W.nC (Nat.le_refl _)).2.2.2.2.2.2.2.1
      show _ = nI (W.pays W.nC)
      rw [z]; exact f9 11 (by omega) (by omega)
    · exact (e _ _ (by omega)).trans (hh.pays s (by omega))
  · intro s y1
    have y1 : s < W.nC + 1 := y1
    by_cases hs : s = W.nC
    · rw [hs]
      have z := (hf.freshC W.nC (Nat.le_refl _)).2.2.2.2.2.2.2.2.1
      show _ = nI (W.tried W.nC)
      rw [z]; exact f9 12 (by omega) (by omega)
    · exact (e _ _ (by omega)).trans (hh.tried s (by omega))
  · intro s y1
    have y1 : s < W.nC + 1 := y1
    by_cases hs : s = W.nC
    · rw [hs]
      have z := (hf.freshC W.nC (Nat.le_refl _)).2.2.2.1
      show _ = nI (W.idl W.nC)
      rw [z]; exact f9 13 (by omega) (by omega)
    · exact (e _ _ (by omega)).trans (hh.idl s (by omega))
  · intro s y1
    have y1 : s < W.nC + 1 := y1
    by_cases hs : s = W.nC
    · rw [hs]
      have z := (hf.freshC W.nC (Nat.le_refl _)).2.2.2.2.2.2.2.2.2
      show _ = nI (W.plugAt W.nC)
      rw [z]; exact f9 14 (by omega) (by omega)
    · exact (e _ _ (by omega)).trans (hh.plugAt s (by omega))
  · intro i x y; exact ⟨(e _ _ (by omega)).trans (hh.tr i x y).1, (e _ _ (by omega)).trans (hh.tr i x y).2.1, (e _ _ (by omega)).trans (hh.tr i x y).2.2.1, (e _ _ (by omega)).trans (hh.tr i x y).2.2.2⟩
  · intro i x y; exact ⟨(e _ _ (by omega)).trans (hh.bA i x y).1, (e _ _ (by omega)).trans (hh.bA i x y).2.1, (e _ _ (by omega)).trans (hh.bA i x y).2.2⟩
  · intro i x y; exact ⟨(e _ _ (by omega)).trans (hh.bB i x y).1, (e _ _ (by omega)).trans (hh.bB i x y).2.1, (e _ _ (by omega)).trans (hh.bB i x y).2.2⟩

theorem qWf_car {W : qW} (hf : qWf W) {b u r k c : Nat} (hn : W.nC < 12) (hb : 10 ≤ b ∧ b ≤ 200) (hu : 1 ≤ u ∧ u ≤ 40) (hr : 1 ≤ r ∧ r ≤ 150) (hk : k ≤ 2) (hc : c ≤ b) : qWf (qcar W b u r k c) := by
  apply qWf.mk
  · exact hf.hS
  · exact hf.hP
  · show W.nC + 1 ≤ 12; omega
  · exact hf.cold
  · exact hf.drift
  · exact hf.now
  · exact hf.price
  · exact hf.km
  · exact hf.inc
  · exact hf.pow
  · exact hf.wait
  · exact hf.first
  · exact hf.cap
  · exact hf.idle
  · exact hf.after
  · exact hf.freshS
  · exact hf.psite
  · exact hf.pmost
  · exact hf.pcab
  · exact hf.pfail
  · exact hf.psays
  · exact hf.freshP
  · intro s y1
    have y1 : s < W.nC + 1 := y1
    simp only [qcar, qu_bat]; by_cases hs : s = W.nC
    · simp [hs]; exact hb
    · simp [hs]; exact hf.bat s (by omega)
  · intro s y1
    have y1 : s < W.nC + 1 := y1
    simp only [qcar, qu_use]; by_cases hs : s = W.nC
    · simp [hs]; exact hu
    · simp [hs]; exact hf.use s (by omega)
  · intro s y1
    have y1 : s < W.nC + 1 := y1
    simp only [qcar, qu_rate]; by_cases hs : s = W.nC
    · simp [hs]; exact hr
    · simp [hs]; exact hf.rate s (by omega)
  · intro s y1
    have y1 : s < W.nC + 1 := y1
    simp only [qcar, qu_cab]; by_cases hs : s = W.nC
    · simp [hs]; exact hk
    · simp [hs]; exact hf.cab s (by omega)
  · intro s y1
    have y1 : s < W.nC + 1 := y1
    simp only [qcar, qu_chg, qu_bat]; by_cases hs : s = W.nC
    · simp [hs]; exact hc
    · simp [hs]; exact hf.chg s (by omega)
  · exact hf.stay
  · exact hf.tried
  · exact hf.plugAt
  · intro s y1
    have y1 : W.nC + 1 ≤ s := y1
    exact hf.freshC s (by omega)
  · intro s y1
    have y1 : s < W.nC + 1 := y1
    by_cases hs : s = W.nC
    · left
      show W.wh s = 0
      rw [hs]; exact (hf.freshC W.nC (Nat.le_refl _)).1
    · exact hf.whOk s (by omega)
  · intro s y1 y2
    have y1 : s < W.nC + 1 := y1
    by_cases hs : s = W.nC
    · have y2 : W.wh s ≠ 0 := y2
      rw [hs, (hf.freshC W.nC (Nat.le_refl _)).1] at y2; exact absurd rfl y2
    · have z := hf.wantOk s (by omega) y2
      simp only [qcar, qu_chg, qu_bat, qu_want]; simp [hs]; exact z
  · intro s j y1
    have z := hf.qOk s j y1
    exact ⟨by show j < W.nC + 1; omega, z.2⟩
  · exact hf.qNo
  · intro s j y1
    have z := hf.carOk s j y1
    exact ⟨by show j < W.nC + 1; omega, z.2⟩
  · exact hf.trN
  · exact hf.trOk
  · exact hf.bAN
  · exact hf.bBN
  · exact hf.bAOk
  · exact hf.bBOk

theorem q_car (a1 a2 a3 a4 a5 : Int32) : zl_ok2 qInv (f_X11_car SHP) (f_X12_car SHP) [.int a1, .int a2, .int a3, .int a4, .int a5] := by
  apply q_ok2; intro S hS
  have hn := hS.w.hC
  rcases qx_in a1 10 200 (by omega) (by omega) with ⟨b, rfl, hb1, hb2⟩ | ⟨na, nb, _⟩
  · rcases qx_in a2 1 40 (by omega) (by omega) with ⟨u, rfl, hu1, hu2⟩ | ⟨na, nb, _⟩
    · rcases qx_in a3 1 150 (by omega) (by omega) with ⟨r, rfl, hr1, hr2⟩ | ⟨na, nb, _⟩
      · rcases qx_in a4 0 2 (by omega) (by omega) with ⟨k, rfl, _, hk⟩ | ⟨na, nb, _⟩
        · rcases qx_in a5 0 b (by omega) (by omega) with ⟨c, rfl, _, hc⟩ | ⟨na, nb, _⟩
          · by_cases h12 : S.w.nC = 12
            · refine ⟨-2, S, hS, ?_, ?_⟩
              · intro h hh; refine ⟨h, ?_, hh, fun _ _ => rfl⟩
                have k0 := hh.w.nC
                simp -implicitDefEqProofs (disch := omega) [zq_r1, ze_c, ze_li, zq_li1, ze_lr, zq_lr1, zq_lr2, ze_ll, zq_ll1, ze_u, zq_u1, ze_b, zq_b1, zq_b3, ze_fi, ze_fd, ze_fl, ze_fs, ze_gi, ze_gl, ze_gn, ze_gf, zq_gf1, ze_al, zq_al1, zq_al3, ze_aa, zq_aa1, zq_aa3, ze_ev0, ze_ev, zq_ev1, zq_ev3, ze_ca, zq_ca1, ze_xc, zq_xc1, zq_xc3, ze_ck, zq_ck1, ze_rc, zq_rc1, ze_c1, zq_c11, ze_c2, zq_c21, zq_c23, ze_and, zq_andt, zq_andf, ze_or, zq_ort, zq_orf, ze_not, zq_not1, ze_it, zq_itt, zq_itf, zq_itd, ze_skip, ze_brk, ze_cnt, ze_ret0, ze_seq, zq_seq0, zq_seq1, zq_seq2, zq_seq3, ze_si, zq_si1, ze_sr, zq_sr1, ze_inc, zq_inc1, ze_ok0, ze_okS, zq_oki, zq_okr, zq_oka, zq_okf, zq_h1, ze_pf, zq_pf1, zq_pf3, ze_pfo, zq_pfo1, zq_pfo21, zq_pfo31, zq_pfo41, ze_as, zq_as1, zq_as21, zq_as31, ze_aso, zq_aso1, zq_aso21, zq_aso31, zq_aso41, zq_aso51, ze_if, zq_ift, zq_iff, zq_ifd, ze_ret, zq_ret1, ze_pk0, ze_pk1, ze_sw, zq_sw1, ze_cps, zq_cps1, ze_one, zq_o1t, zq_o1f, zq_o20, zq_o22, zq_o21, zq_o23, zq_o30, zq_len1, zq_pad0, zq_padS, ze_sem, ze_fl0, ze_flI, ze_flR, ze_flA, ze_flL, zq_semi, zq_semv, zq_semb0, zq_semb1, List.getElem?_cons_zero, List.getElem?_cons_succ, List.set_cons_zero, List.set_cons_succ, List.length_cons, List.length_nil, List.cons_append, List.nil_append, q_outT, q_outF, q_inT, q_inF, qn_an, qn_ltt, qn_ltf, qn_let, qn_lef, qn_eqt, qn_eqf, qn_sub, nI_add, pk_mul, qn_div, qn_modN, qn_nn, qn_np, qn_pn, qn_nlt, qn_pln, qn_nle, qn_ple, qn_0, qn_1, qn_2, qn_3, qn_4, qn_5, qn_6, qn_7, qn_8, qn_9, qn_10, qn_11, qn_12, qn_13, qn_14, qn_15, qn_16, qn_19, qn_20, qn_21, qn_24, qn_27, qn_29, qn_30, qn_31, qn_32, qn_33, qn_39, qn_40, qn_42, qn_48, qn_50, qn_54, qn_57, qn_59, qn_60, qn_63, qn_72, qn_96, qn_97, qn_99, qn_100, qn_122, qn_128, qn_150, qn_192, qn_199, qn_200, qn_201, qn_236, qn_240, qn_300, qn_998, qn_999, qn_1000, qn_2000, qn_2230, qn_9999, qn_10000, qn_114602, qn_180392, qn_664272, qn_1000000, qn_3379448, qn_10256063, qv_s, qv_n, qo_0_0, qo_0_1, qo_0_2, qo_0_3, qo_0_4, qo_0_5, qo_0_6, qo_0_7, qp_0_7, qo_1_0, qo_1_1, qo_1_2, qo_1_3, qo_1_4, qo_1_5, qo_1_6, qo_1_7, qp_1_7, qo_1_8, qp_1_8, qo_1_9, qp_1_9, qo_1_10, qp_1_10, qo_1_11, qp_1_11, qo_1_12, qp_1_12, qo_1_13, qp_1_13, qo_6_0, qo_6_1, qo_6_2, qo_6_3, qo_6_4, qp_6_4, qo_6_5, qp_6_5, qo_11_0, qo_11_1, qo_11_2, qo_11_3, qp_11_3, qo_15_0, qo_15_1, qo_15_2, qo_15_3, qp_15_3, qo_129_0, qo_129_1, qp_129_1, qo_129_2, qp_129_2, qo_129_3, qp_129_3, qo_129_4, qp_129_4, qo_129_5, qp_129_5, qo_129_6, qp_129_6, qo_129_7, qp_129_7, qo_129_8, qp_129_8, qo_131_0, qo_131_1, qo_131_2, qo_131_3, qo_131_4, qo_131_5, qo_131_6, qp_131_6, qo_131_7, qo_131_8, qp_131_8, qo_131_9, qp_131_9, qo_131_10, qp_131_10, qo_152_0, qo_152_1, qo_155_0, qo_155_1, qo_155_2, qo_159_0, qo_159_1, qo_159_2, qo_159_3, qp_159_3, qo_159_4, qp_159_4, qf_site_0, qf_sitew_0, qf_site_1, qf_sitew_1, qf_site_2, qf_sitew_2, qf_site_3, qf_sitew_3, qf_site_4, qf_sitew_4, qf_site_5, qf_sitew_5, qf_site_6, qf_sitew_6, qf_site_7, qf_sitew_7, qf_site_8, qf_sitew_8, qf_site_9, qf_sitew_9, qf_site_10, qf_site_11, qf_plug_0, qf_plugw_0, qf_plug_1, qf_plugw_1, qf_plug_2, qf_plugw_2, qf_plug_3, qf_plugw_3, qf_plug_4, qf_plugw_4, qf_plug_5, qf_plugw_5, qf_car_0, qf_carw_0, qf_car_1, qf_carw_1, qf_car_2, qf_carw_2, qf_car_3, qf_carw_3, qf_car_4, qf_carw_4, qf_car_5, qf_carw_5, qf_car_6, qf_carw_6, qf_car_7, qf_carw_7, qf_car_8, qf_carw_8, qf_car_9, qf_carw_9, qf_car_10, qf_carw_10, qf_car_11, qf_carw_11, qf_car_12, qf_carw_12, qf_car_13, qf_carw_13, qf_car_14, qf_carw_14, qa_5, qa_7, qa_8, qa_9, qa_10, qa_12, qa_13, qa_14, qa_16, qa_17, qa_18, qa_130, qa_132, qa_133, qa_134, qa_135, qa_151, qa_153, qa_154, qa_156, qa_157, qa_158, qa_177, qa_queue, qa_splug, qa_arr, qa_chg, qa_best, qa_sco, qw_5, qw_7, qw_8, qw_9, qw_10, qw_12, qw_13, qw_14, qw_16, qw_17, qw_18, qw_130, qw_132, qw_133, qw_134, qw_135, qw_151, qw_153, qw_154, qw_156, qw_157, qw_158, qw_177, qw_queue, qw_splug, qw_arr, qw_chg, qw_best, qw_sco, qr_site, qr_plug, qr_car, qr_arr, qr_chg, qr_best, qr_sco, qs_site, qs_plug, qs_car, qc_0, qc_1, qc_6, qc_11, qc_15, qc_129, qc_131, qc_152, qc_155, qc_159, f_X11_car, b_X11_car, k0]
              · intro h hh; refine ⟨h, ?_, hh, fun _ _ => rfl⟩
                have k0 : h 179 3 = _ := hh.w.nC
                simp -implicitDefEqProofs (disch := omega) [zq_r1, ze_c, ze_li, zq_li1, ze_lr, zq_lr1, zq_lr2, ze_ll, zq_ll1, ze_u, zq_u1, ze_b, zq_b1, zq_b3, ze_fi, ze_fd, ze_fl, ze_fs, ze_gi, ze_gl, ze_gn, ze_gf, zq_gf1, ze_al, zq_al1, zq_al3, ze_aa, zq_aa1, zq_aa3, ze_ev0, ze_ev, zq_ev1, zq_ev3, ze_ca, zq_ca1, ze_xc, zq_xc1, zq_xc3, ze_ck, zq_ck1, ze_rc, zq_rc1, ze_c1, zq_c11, ze_c2, zq_c21, zq_c23, ze_and, zq_andt, zq_andf, ze_or, zq_ort, zq_orf, ze_not, zq_not1, ze_it, zq_itt, zq_itf, zq_itd, ze_skip, ze_brk, ze_cnt, ze_ret0, ze_seq, zq_seq0, zq_seq1, zq_seq2, zq_seq3, ze_si, zq_si1, ze_sr, zq_sr1, ze_inc, zq_inc1, ze_ok0, ze_okS, zq_oki, zq_okr, zq_oka, zq_okf, zq_h1, ze_pf, zq_pf1, zq_pf3, ze_pfo, zq_pfo1, zq_pfo21, zq_pfo31, zq_pfo41, ze_as, zq_as1, zq_as21, zq_as31, ze_aso, zq_aso1, zq_aso21, zq_aso31, zq_aso41, zq_aso51, ze_if, zq_ift, zq_iff, zq_ifd, ze_ret, zq_ret1, ze_pk0, ze_pk1, ze_sw, zq_sw1, ze_cps, zq_cps1, ze_one, zq_o1t, zq_o1f, zq_o20, zq_o22, zq_o21, zq_o23, zq_o30, zq_len1, zq_pad0, zq_padS, ze_sem, ze_fl0, ze_flI, ze_flR, ze_flA, ze_flL, zq_semi, zq_semv, zq_semb0, zq_semb1, List.getElem?_cons_zero, List.getElem?_cons_succ, List.set_cons_zero, List.set_cons_succ, List.length_cons, List.length_nil, List.cons_append, List.nil_append, q_outT, q_outF, q_inT, q_inF, qn_an, qn_ltt, qn_ltf, qn_let, qn_lef, qn_eqt, qn_eqf, qn_sub, nI_add, pk_mul, qn_div, qn_modN, qn_nn, qn_np, qn_pn, qn_nlt, qn_pln, qn_nle, qn_ple, qn_0, qn_1, qn_2, qn_3, qn_4, qn_5, qn_6, qn_7, qn_8, qn_9, qn_10, qn_11, qn_12, qn_13, qn_14, qn_15, qn_16, qn_19, qn_20, qn_21, qn_24, qn_27, qn_29, qn_30, qn_31, qn_32, qn_33, qn_39, qn_40, qn_42, qn_48, qn_50, qn_54, qn_57, qn_59, qn_60, qn_63, qn_72, qn_96, qn_97, qn_99, qn_100, qn_122, qn_128, qn_150, qn_192, qn_199, qn_200, qn_201, qn_236, qn_240, qn_300, qn_998, qn_999, qn_1000, qn_2000, qn_2230, qn_9999, qn_10000, qn_114602, qn_180392, qn_664272, qn_1000000, qn_3379448, qn_10256063, qv_s, qv_n, qo_178_0, qo_178_1, qo_178_2, qo_178_3, qo_178_4, qo_178_5, qo_178_6, qo_178_7, qo_178_8, qo_178_9, qo_178_10, qo_178_11, qo_178_12, qo_178_13, qo_178_14, qp_178_14, qo_178_15, qp_178_15, qo_178_16, qp_178_16, qo_178_17, qo_178_18, qp_178_18, qo_178_19, qp_178_19, qo_178_20, qp_178_20, qo_178_21, qp_178_21, qo_178_22, qp_178_22, qo_178_23, qp_178_23, qo_178_24, qo_178_25, qo_178_26, qo_178_27, qo_178_28, qo_178_29, qo_178_30, qp_178_30, qo_178_31, qo_178_32, qp_178_32, qa_179, qa_180, qa_181, qa_182, qa_183, qa_184, qa_185, qa_186, qa_187, qa_188, qa_189, qa_190, qa_191, qa_192, qa_193, qa_194, qa_195, qa_196, qa_197, qa_198, qa_199, qa_200, qw_179, qw_180, qw_181, qw_182, qw_183, qw_184, qw_185, qw_186, qw_187, qw_188, qw_189, qw_190, qw_191, qw_192, qw_193, qw_194, qw_195, qw_196, qw_197, qw_198, qw_199, qw_200, qc_178, q_getN, q_putN, q_moreN, f_X12_car, b_X12_car, k0]
            · refine ⟨nI S.w.nC, qS.mk (qcar S.w b u r k c) S.t S.k, qSf_w hS (qWf_car hS.w (by omega) ⟨hb1, hb2⟩ ⟨hu1, hu2⟩ ⟨hr1, hr2⟩ hk hc), ?_, ?_⟩
              · intro h hh
                have k0 := hh.w.nC
                refine ⟨zk_up (zk_up (zk_up (zk_up (zk_up (zk_up h (53 + S.w.nC) 0 (nI b)) (53 + S.w.nC) 1 (nI u)) (53 + S.w.nC) 2 (nI r)) (53 + S.w.nC) 3 (nI k)) (53 + S.w.nC) 4 (nI c)) 1 9 (nI (S.w.nC + 1)), ?_, qCI_w hh (qC_car hh.w (by omega) ?_ ?_ ?_ ?_ ?_ ?_ ?_) ?_, ?_⟩
                · simp -implicitDefEqProofs (disch := omega) [zq_r1, ze_c, ze_li, zq_li1, ze_lr, zq_lr1, zq_lr2, ze_ll, zq_ll1, ze_u, zq_u1, ze_b, zq_b1, zq_b3, ze_fi, ze_fd, ze_fl, ze_fs, ze_gi, ze_gl, ze_gn, ze_gf, zq_gf1, ze_al, zq_al1, zq_al3, ze_aa, zq_aa1, zq_aa3, ze_ev0, ze_ev, zq_ev1, zq_ev3, ze_ca, zq_ca1, ze_xc, zq_xc1, zq_xc3, ze_ck, zq_ck1, ze_rc, zq_rc1, ze_c1, zq_c11, ze_c2, zq_c21, zq_c23, ze_and, zq_andt, zq_andf, ze_or, zq_ort, zq_orf, ze_not, zq_not1, ze_it, zq_itt, zq_itf, zq_itd, ze_skip, ze_brk, ze_cnt, ze_ret0, ze_seq, zq_seq0, zq_seq1, zq_seq2, zq_seq3, ze_si, zq_si1, ze_sr, zq_sr1, ze_inc, zq_inc1, ze_ok0, ze_okS, zq_oki, zq_okr, zq_oka, zq_okf, zq_h1, ze_pf, zq_pf1, zq_pf3, ze_pfo, zq_pfo1, zq_pfo21, zq_pfo31, zq_pfo41, ze_as, zq_as1, zq_as21, zq_as31, ze_aso, zq_aso1, zq_aso21, zq_aso31, zq_aso41, zq_aso51, ze_if, zq_ift, zq_iff, zq_ifd, ze_ret, zq_ret1, ze_pk0, ze_pk1, ze_sw, zq_sw1, ze_cps, zq_cps1, ze_one, zq_o1t, zq_o1f, zq_o20, zq_o22, zq_o21, zq_o23, zq_o30, zq_len1, zq_pad0, zq_padS, ze_sem, ze_fl0, ze_flI, ze_flR, ze_flA, ze_flL, zq_semi, zq_semv, zq_semb0, zq_semb1, List.getElem?_cons_zero, List.getElem?_cons_succ, List.set_cons_zero, List.set_cons_succ, List.length_cons, List.length_nil, List.cons_append, List.nil_append, q_outT, q_outF, q_inT, q_inF, qn_an, qn_ltt, qn_ltf, qn_let, qn_lef, qn_eqt, qn_eqf, qn_sub, nI_add, pk_mul, qn_div, qn_modN, qn_nn, qn_np, qn_pn, qn_nlt, qn_pln, qn_nle, qn_ple, qn_0, qn_1, qn_2, qn_3, qn_4, qn_5, qn_6, qn_7, qn_8, qn_9, qn_10, qn_11, qn_12, qn_13, qn_14, qn_15, qn_16, qn_19, qn_20, qn_21, qn_24, qn_27, qn_29, qn_30, qn_31, qn_32, qn_33, qn_39, qn_40, qn_42, qn_48, qn_50, qn_54, qn_57, qn_59, qn_60, qn_63, qn_72, qn_96, qn_97, qn_99, qn_100, qn_122, qn_128, qn_150, qn_192, qn_199, qn_200, qn_201, qn_236, qn_240, qn_300, qn_998, qn_999, qn_1000, qn_2000, qn_2230, qn_9999, qn_10000, qn_114602, qn_180392, qn_664272, qn_1000000, qn_3379448, qn_10256063, qv_s, qv_n, qo_0_0, qo_0_1, qo_0_2, qo_0_3, qo_0_4, qo_0_5, qo_0_6, qo_0_7, qp_0_7, qo_1_0, qo_1_1, qo_1_2, qo_1_3, qo_1_4, qo_1_5, qo_1_6, qo_1_7, qp_1_7, qo_1_8, qp_1_8, qo_1_9, qp_1_9, qo_1_10, qp_1_10, qo_1_11, qp_1_11, qo_1_12, qp_1_12, qo_1_13, qp_1_13, qo_6_0, qo_6_1, qo_6_2, qo_6_3, qo_6_4, qp_6_4, qo_6_5, qp_6_5, qo_11_0, qo_11_1, qo_11_2, qo_11_3, qp_11_3, qo_15_0, qo_15_1, qo_15_2, qo_15_3, qp_15_3, qo_129_0, qo_129_1, qp_129_1, qo_129_2, qp_129_2, qo_129_3, qp_129_3, qo_129_4, qp_129_4, qo_129_5, qp_129_5, qo_129_6, qp_129_6, qo_129_7, qp_129_7, qo_129_8, qp_129_8, qo_131_0, qo_131_1, qo_131_2, qo_131_3, qo_131_4, qo_131_5, qo_131_6, qp_131_6, qo_131_7, qo_131_8, qp_131_8, qo_131_9, qp_131_9, qo_131_10, qp_131_10, qo_152_0, qo_152_1, qo_155_0, qo_155_1, qo_155_2, qo_159_0, qo_159_1, qo_159_2, qo_159_3, qp_159_3, qo_159_4, qp_159_4, qf_site_0, qf_sitew_0, qf_site_1, qf_sitew_1, qf_site_2, qf_sitew_2, qf_site_3, qf_sitew_3, qf_site_4, qf_sitew_4, qf_site_5, qf_sitew_5, qf_site_6, qf_sitew_6, qf_site_7, qf_sitew_7, qf_site_8, qf_sitew_8, qf_site_9, qf_sitew_9, qf_site_10, qf_site_11, qf_plug_0, qf_plugw_0, qf_plug_1, qf_plugw_1, qf_plug_2, qf_plugw_2, qf_plug_3, qf_plugw_3, qf_plug_4, qf_plugw_4, qf_plug_5, qf_plugw_5, qf_car_0, qf_carw_0, qf_car_1, qf_carw_1, qf_car_2, qf_carw_2, qf_car_3, qf_carw_3, qf_car_4, qf_carw_4, qf_car_5, qf_carw_5, qf_car_6, qf_carw_6, qf_car_7, qf_carw_7, qf_car_8, qf_carw_8, qf_car_9, qf_carw_9, qf_car_10, qf_carw_10, qf_car_11, qf_carw_11, qf_car_12, qf_carw_12, qf_car_13, qf_carw_13, qf_car_14, qf_carw_14, qa_5, qa_7, qa_8, qa_9, qa_10, qa_12, qa_13, qa_14, qa_16, qa_17, qa_18, qa_130, qa_132, qa_133, qa_134, qa_135, qa_151, qa_153, qa_154, qa_156, qa_157, qa_158, qa_177, qa_queue, qa_splug, qa_arr, qa_chg, qa_best, qa_sco, qw_5, qw_7, qw_8, qw_9, qw_10, qw_12, qw_13, qw_14, qw_16, qw_17, qw_18, qw_130, qw_132, qw_133, qw_134, qw_135, qw_151, qw_153, qw_154, qw_156, qw_157, qw_158, qw_177, qw_queue, qw_splug, qw_arr, qw_chg, qw_best, qw_sco, qr_site, qr_plug, qr_car, qr_arr, qr_chg, qr_best, qr_sco, qs_site, qs_plug, qs_car, qc_0, qc_1, qc_6, qc_11, qc_15, qc_129, qc_131, qc_152, qc_155, qc_159, f_X11_car, b_X11_car, k0]
                · intro a i ha; simp (disch := omega) only [qv_s, qv_n]
                · simp (disch := omega) only [qv_s, qv_n]
                · simp (disch := omega) only [qv_s, qv_n]
                · simp (disch := omega) only [qv_s, qv_n]
                · simp (disch := omega) only [qv_s, qv_n]
                · simp (disch := omega) only [qv_s, qv_n]
                · simp (disch := omega) only [qv_s, qv_n]
                · intro c hc _; simp (disch := omega) only [qup_c]
                · intro c hc; simp (disch := omega) only [qup_c]
              · intro h hh
                have k0 : h 179 3 = _ := hh.w.nC
                have hlp := q_forG (c := c_X12_car_1 SHP) (b := b_X12_car_1 SHP) (u := u_X12_car_1 SHP) (e := [.ref 178, .int (nI b), .int (nI u), .int (nI r), .int (nI k), .int (nI c), .int (nI S.w.nC), .int (nI (16 * S.w.nC)), .int (nI 0)]) (h := h) (e' := [.ref 178, .int (nI b), .int (nI u), .int (nI r), .int (nI k), .int (nI c), .int (nI S.w.nC), .int (nI (16 * S.w.nC)), .int (nI 16)]) (h' := fun a j => if a = 183 ∧ 16 * S.w.nC ≤ j ∧ j < 16 * S.w.nC + 16 then nI 0 else h a j) (f := 1000) 16 (fun i => [.ref 178, .int (nI b), .int (nI u), .int (nI r), .int (nI k), .int (nI c), .int (nI S.w.nC), .int (nI (16 * S.w.nC)), .int (nI i)]) (fun i a j => if a = 183 ∧ 16 * S.w.nC ≤ j ∧ j < 16 * S.w.nC + i then nI 0 else h a j) (by
                  intro i hi
                  simp -implicitDefEqProofs (disch := omega) [zq_r1, ze_c, ze_li, zq_li1, ze_lr, zq_lr1, zq_lr2, ze_ll, zq_ll1, ze_u, zq_u1, ze_b, zq_b1, zq_b3, ze_fi, ze_fd, ze_fl, ze_fs, ze_gi, ze_gl, ze_gn, ze_gf, zq_gf1, ze_al, zq_al1, zq_al3, ze_aa, zq_aa1, zq_aa3, ze_ev0, ze_ev, zq_ev1, zq_ev3, ze_ca, zq_ca1, ze_xc, zq_xc1, zq_xc3, ze_ck, zq_ck1, ze_rc, zq_rc1, ze_c1, zq_c11, ze_c2, zq_c21, zq_c23, ze_and, zq_andt, zq_andf, ze_or, zq_ort, zq_orf, ze_not, zq_not1, ze_it, zq_itt, zq_itf, zq_itd, ze_skip, ze_brk, ze_cnt, ze_ret0, ze_seq, zq_seq0, zq_seq1, zq_seq2, zq_seq3, ze_si, zq_si1, ze_sr, zq_sr1, ze_inc, zq_inc1, ze_ok0, ze_okS, zq_oki, zq_okr, zq_oka, zq_okf, zq_h1, ze_pf, zq_pf1, zq_pf3, ze_pfo, zq_pfo1, zq_pfo21, zq_pfo31, zq_pfo41, ze_as, zq_as1, zq_as21, zq_as31, ze_aso, zq_aso1, zq_aso21, zq_aso31, zq_aso41, zq_aso51, ze_if, zq_ift, zq_iff, zq_ifd, ze_ret, zq_ret1, ze_pk0, ze_pk1, ze_sw, zq_sw1, ze_cps, zq_cps1, ze_one, zq_o1t, zq_o1f, zq_o20, zq_o22, zq_o21, zq_o23, zq_o30, zq_len1, zq_pad0, zq_padS, ze_sem, ze_fl0, ze_flI, ze_flR, ze_flA, ze_flL, zq_semi, zq_semv, zq_semb0, zq_semb1, List.getElem?_cons_zero, List.getElem?_cons_succ, List.set_cons_zero, List.set_cons_succ, List.length_cons, List.length_nil, List.cons_append, List.nil_append, q_outT, q_outF, q_inT, q_inF, qn_an, qn_ltt, qn_ltf, qn_let, qn_lef, qn_eqt, qn_eqf, qn_sub, nI_add, pk_mul, qn_div, qn_modN, qn_nn, qn_np, qn_pn, qn_nlt, qn_pln, qn_nle, qn_ple, qn_0, qn_1, qn_2, qn_3, qn_4, qn_5, qn_6, qn_7, qn_8, qn_9, qn_10, qn_11, qn_12, qn_13, qn_14, qn_15, qn_16, qn_19, qn_20, qn_21, qn_24, qn_27, qn_29, qn_30, qn_31, qn_32, qn_33, qn_39, qn_40, qn_42, qn_48, qn_50, qn_54, qn_57, qn_59, qn_60, qn_63, qn_72, qn_96, qn_97, qn_99, qn_100, qn_122, qn_128, qn_150, qn_192, qn_199, qn_200, qn_201, qn_236, qn_240, qn_300, qn_998, qn_999, qn_1000, qn_2000, qn_2230, qn_9999, qn_10000, qn_114602, qn_180392, qn_664272, qn_1000000, qn_3379448, qn_10256063, qv_s, qv_n, qo_178_0, qo_178_1, qo_178_2, qo_178_3, qo_178_4, qo_178_5, qo_178_6, qo_178_7, qo_178_8, qo_178_9, qo_178_10, qo_178_11, qo_178_12, qo_178_13, qo_178_14, qp_178_14, qo_178_15, qp_178_15, qo_178_16, qp_178_16, qo_178_17, qo_178_18, qp_178_18, qo_178_19, qp_178_19, qo_178_20, qp_178_20, qo_178_21, qp_178_21, qo_178_22, qp_178_22, qo_178_23, qp_178_23, qo_178_24, qo_178_25, qo_178_26, qo_178_27, qo_178_28, qo_178_29, qo_178_30, qp_178_30, qo_178_31, qo_178_32, qp_178_32, qa_179, qa_180, qa_181, qa_182, qa_183, qa_184, qa_185, qa_186, qa_187, qa_188, qa_189, qa_190, qa_191, qa_192, qa_193, qa_194, qa_195, qa_196, qa_197, qa_198, qa_199, qa_200, qw_179, qw_180, qw_181, qw_182, qw_183, qw_184, qw_185, qw_186, qw_187, qw_188, qw_189, qw_190, qw_191, qw_192, qw_193, qw_194, qw_195, qw_196, qw_197, qw_198, qw_199, qw_200, qc_178, q_getN, q_putN, q_moreN, c_X12_car_1, b_X12_car_1, u_X12_car_1]
                  (funext a j; (try simp only [zk_up, true_and]); (repeat' split) <;> first | (exfalso; omega) | exact qhe (by omega) | rfl)) (by
                  simp -implicitDefEqProofs (disch := omega) [zq_r1, ze_c, ze_li, zq_li1, ze_lr, zq_lr1, zq_lr2, ze_ll, zq_ll1, ze_u, zq_u1, ze_b, zq_b1, zq_b3, ze_fi, ze_fd, ze_fl, ze_fs, ze_gi, ze_gl, ze_gn, ze_gf, zq_gf1, ze_al, zq_al1, zq_al3, ze_aa, zq_aa1, zq_aa3, ze_ev0, ze_ev, zq_ev1, zq_ev3, ze_ca, zq_ca1, ze_xc, zq_xc1, zq_xc3, ze_ck, zq_ck1, ze_rc, zq_rc1, ze_c1, zq_c11, ze_c2, zq_c21, zq_c23, ze_and, zq_andt, zq_andf, ze_or, zq_ort, zq_orf, ze_not, zq_not1, ze_it, zq_itt, zq_itf, zq_itd, ze_skip, ze_brk, ze_cnt, ze_ret0, ze_seq, zq_seq0, zq_seq1, zq_seq2, zq_seq3, ze_si, zq_si1, ze_sr, zq_sr1, ze_inc, zq_inc1, ze_ok0, ze_okS, zq_oki, zq_okr, zq_oka, zq_okf, zq_h1, ze_pf, zq_pf1, zq_pf3, ze_pfo, zq_pfo1, zq_pfo21, zq_pfo31, zq_pfo41, ze_as, zq_as1, zq_as21, zq_as31, ze_aso, zq_aso1, zq_aso21, zq_aso31, zq_aso41, zq_aso51, ze_if, zq_ift, zq_iff, zq_ifd, ze_ret, zq_ret1, ze_pk0, ze_pk1, ze_sw, zq_sw1, ze_cps, zq_cps1, ze_one, zq_o1t, zq_o1f, zq_o20, zq_o22, zq_o21, zq_o23, zq_o30, zq_len1, zq_pad0, zq_padS, ze_sem, ze_fl0, ze_flI, ze_flR, ze_flA, ze_flL, zq_semi, zq_semv, zq_semb0, zq_semb1, List.getElem?_cons_zero, List.getElem?_cons_succ, List.set_cons_zero, List.set_cons_succ, List.length_cons, List.length_nil, List.cons_append, List.nil_append, q_outT, q_outF, q_inT, q_inF, qn_an, qn_ltt, qn_ltf, qn_let, qn_lef, qn_eqt, qn_eqf, qn_sub, nI_add, pk_mul, qn_div, qn_modN, qn_nn, qn_np, qn_pn, qn_nlt, qn_pln, qn_nle, qn_ple, qn_0, qn_1, qn_2, qn_3, qn_4, qn_5, qn_6, qn_7, qn_8, qn_9, qn_10, qn_11, qn_12, qn_13, qn_14, qn_15, qn_16, qn_19, qn_20, qn_21, qn_24, qn_27, qn_29, qn_30, qn_31, qn_32, qn_33, qn_39, qn_40, qn_42, qn_48, qn_50, qn_54, qn_57, qn_59, qn_60, qn_63, qn_72, qn_96, qn_97, qn_99, qn_100, qn_122, qn_128, qn_150, qn_192, qn_199, qn_200, qn_201, qn_236, qn_240, qn_300, qn_998, qn_999, qn_1000, qn_2000, qn_2230, qn_9999, qn_10000, qn_114602, qn_180392, qn_664272, qn_1000000, qn_3379448, qn_10256063, qv_s, qv_n, qo_178_0, qo_178_1, qo_178_2, qo_178_3, qo_178_4, qo_178_5, qo_178_6, qo_178_7, qo_178_8, qo_178_9, qo_178_10, qo_178_11, qo_178_12, qo_178_13, qo_178_14, qp_178_14, qo_178_15, qp_178_15, qo_178_16, qp_178_16, qo_178_17, qo_178_18, qp_178_18, qo_178_19, qp_178_19, qo_178_20, qp_178_20, qo_178_21, qp_178_21, qo_178_22, qp_178_22, qo_178_23, qp_178_23, qo_178_24, qo_178_25, qo_178_26, qo_178_27, qo_178_28, qo_178_29, qo_178_30, qp_178_30, qo_178_31, qo_178_32, qp_178_32, qa_179, qa_180, qa_181, qa_182, qa_183, qa_184, qa_185, qa_186, qa_187, qa_188, qa_189, qa_190, qa_191, qa_192, qa_193, qa_194, qa_195, qa_196, qa_197, qa_198, qa_199, qa_200, qw_179, qw_180, qw_181, qw_182, qw_183, qw_184, qw_185, qw_186, qw_187, qw_188, qw_189, qw_190, qw_191, qw_192, qw_193, qw_194, qw_195, qw_196, qw_197, qw_198, qw_199, qw_200, qc_178, q_getN, q_putN, q_moreN, c_X12_car_1, b_X12_car_1, u_X12_car_1]) rfl (by
                  (funext a j; (try simp only [zk_up, true_and]); (repeat' split) <;> first | (exfalso; omega) | exact qhe (by omega) | rfl)) rfl rfl (by omega)
                have kg : ∀ G : zk_H, G = (fun a j => if a = 183 ∧ 16 * S.w.nC ≤ j ∧ j < 16 * S.w.nC + 16 then nI 0 else h a j) → G 179 3 = nI S.w.nC := by
                  intro G hG; rw [hG]; show (if _ then _ else _) = _; rw [if_neg (by omega)]; exact k0
                generalize hG : (fun a j => if a = 183 ∧ 16 * S.w.nC ≤ j ∧ j < 16 * S.w.nC + 16 then nI 0 else h a j) = G at hlp
                have kg := kg G hG.symm
                have kz : ∀ j, 16 * S.w.nC ≤ j → j < 16 * S.w.nC + 16 → G 183 j = nI 0 := by
                  intro j h1 h2; rw [← hG]; show (if _ then _ else _) = _; rw [if_pos (by omega)]
                have ko : ∀ a j, (a ≠ 183 ∨ j < 16 * S.w.nC ∨ 16 * S.w.nC + 16 ≤ j) → G a j = h a j := by
                  intro a j h1; rw [← hG]; show (if _ then _ else _) = _; rw [if_neg (by omega)]
                refine ⟨zk_up (zk_up (zk_up (zk_up (zk_up (zk_up G 183 (16 * S.w.nC) (nI b)) 183 (16 * S.w.nC + 1) (nI u)) 183 (16 * S.w.nC + 2) (nI r)) 183 (16 * S.w.nC + 3) (nI k)) 183 (16 * S.w.nC + 4) (nI c)) 179 3 (nI (S.w.nC + 1)), ?_, qRI_w hh (qR_car hh.w hS.w ?_ ?_ ?_ ?_ ?_ ?_ ?_ ?_) ?_ ?_ ?_ ?_, ?_⟩
                · simp -implicitDefEqProofs (disch := omega) [zq_r1, ze_c, ze_li, zq_li1, ze_lr, zq_lr1, zq_lr2, ze_ll, zq_ll1, ze_u, zq_u1, ze_b, zq_b1, zq_b3, ze_fi, ze_fd, ze_fl, ze_fs, ze_gi, ze_gl, ze_gn, ze_gf, zq_gf1, ze_al, zq_al1, zq_al3, ze_aa, zq_aa1, zq_aa3, ze_ev0, ze_ev, zq_ev1, zq_ev3, ze_ca, zq_ca1, ze_xc, zq_xc1, zq_xc3, ze_ck, zq_ck1, ze_rc, zq_rc1, ze_c1, zq_c11, ze_c2, zq_c21, zq_c23, ze_and, zq_andt, zq_andf, ze_or, zq_ort, zq_orf, ze_not, zq_not1, ze_it, zq_itt, zq_itf, zq_itd, ze_skip, ze_brk, ze_cnt, ze_ret0, ze_seq, zq_seq0, zq_seq1, zq_seq2, zq_seq3, ze_si, zq_si1, ze_sr, zq_sr1, ze_inc, zq_inc1, ze_ok0, ze_okS, zq_oki, zq_okr, zq_oka, zq_okf, zq_h1, ze_pf, zq_pf1, zq_pf3, ze_pfo, zq_pfo1, zq_pfo21, zq_pfo31, zq_pfo41, ze_as, zq_as1, zq_as21, zq_as31, ze_aso, zq_aso1, zq_aso21, zq_aso31, zq_aso41, zq_aso51, ze_if, zq_ift, zq_iff, zq_ifd, ze_ret, zq_ret1, ze_pk0, ze_pk1, ze_sw, zq_sw1, ze_cps, zq_cps1, ze_one, zq_o1t, zq_o1f, zq_o20, zq_o22, zq_o21, zq_o23, zq_o30, zq_len1, zq_pad0, zq_padS, ze_sem, ze_fl0, ze_flI, ze_flR, ze_flA, ze_flL, zq_semi, zq_semv, zq_semb0, zq_semb1, List.getElem?_cons_zero, List.getElem?_cons_succ, List.set_cons_zero, List.set_cons_succ, List.length_cons, List.length_nil, List.cons_append, List.nil_append, q_outT, q_outF, q_inT, q_inF, qn_an, qn_ltt, qn_ltf, qn_let, qn_lef, qn_eqt, qn_eqf, qn_sub, nI_add, pk_mul, qn_div, qn_modN, qn_nn, qn_np, qn_pn, qn_nlt, qn_pln, qn_nle, qn_ple, qn_0, qn_1, qn_2, qn_3, qn_4, qn_5, qn_6, qn_7, qn_8, qn_9, qn_10, qn_11, qn_12, qn_13, qn_14, qn_15, qn_16, qn_19, qn_20, qn_21, qn_24, qn_27, qn_29, qn_30, qn_31, qn_32, qn_33, qn_39, qn_40, qn_42, qn_48, qn_50, qn_54, qn_57, qn_59, qn_60, qn_63, qn_72, qn_96, qn_97, qn_99, qn_100, qn_122, qn_128, qn_150, qn_192, qn_199, qn_200, qn_201, qn_236, qn_240, qn_300, qn_998, qn_999, qn_1000, qn_2000, qn_2230, qn_9999, qn_10000, qn_114602, qn_180392, qn_664272, qn_1000000, qn_3379448, qn_10256063, qv_s, qv_n, qo_178_0, qo_178_1, qo_178_2, qo_178_3, qo_178_4, qo_178_5, qo_178_6, qo_178_7, qo_178_8, qo_178_9, qo_178_10, qo_178_11, qo_178_12, qo_178_13, qo_178_14, qp_178_14, qo_178_15, qp_178_15, qo_178_16, qp_178_16, qo_178_17, qo_178_18, qp_178_18, qo_178_19, qp_178_19, qo_178_20, qp_178_20, qo_178_21, qp_178_21, qo_178_22, qp_178_22, qo_178_23, qp_178_23, qo_178_24, qo_178_25, qo_178_26, qo_178_27, qo_178_28, qo_178_29, qo_178_30, qp_178_30, qo_178_31, qo_178_32, qp_178_32, qa_179, qa_180, qa_181, qa_182, qa_183, qa_184, qa_185, qa_186, qa_187, qa_188, qa_189, qa_190, qa_191, qa_192, qa_193, qa_194, qa_195, qa_196, qa_197, qa_198, qa_199, qa_200, qw_179, qw_180, qw_181, qw_182, qw_183, qw_184, qw_185, qw_186, qw_187, qw_188, qw_189, qw_190, qw_191, qw_192, qw_193, qw_194, qw_195, qw_196, qw_197, qw_198, qw_199, qw_200, qc_178, q_getN, q_putN, q_moreN, f_X12_car, b_X12_car, k0, hlp, kg]
                · intro a i ha; simp (disch := omega) only [qv_s, qv_n]; exact ko a i (by omega)
                · simp (disch := omega) only [qv_s, qv_n]
                · simp (disch := omega) only [qv_s, qv_n]
                · simp (disch := omega) only [qv_s, qv_n]
                · simp (disch := omega) only [qv_s, qv_n]
                · simp (disch := omega) only [qv_s, qv_n]
                · simp (disch := omega) only [qv_s, qv_n]
                · intro j h1 h2; simp (disch := omega) only [qv_s, qv_n]; exact kz _ (by omega) (by omega)
                · simp (disch := omega) only [qv_s, qv_n]; exact ko _ _ (by omega)
                · simp (disch := omega) only [qv_s, qv_n]; exact ko _ _ (by omega)
                · funext j; simp (disch := omega) only [qv_s, qv_n]; exact ko _ _ (by omega)
                · funext j; simp (disch := omega) only [qv_s, qv_n]; exact ko _ _ (by omega)
                · intro c hc; funext j; simp (disch := omega) only [qv_s, qv_n]; exact ko _ _ (by omega)
          · skip
            refine ⟨-1, S, hS, ?_, ?_⟩
            · intro h hh; refine ⟨h, ?_, hh, fun _ _ => rfl⟩
              simp -implicitDefEqProofs (disch := omega) [zq_r1, ze_c, ze_li, zq_li1, ze_lr, zq_lr1, zq_lr2, ze_ll, zq_ll1, ze_u, zq_u1, ze_b, zq_b1, zq_b3, ze_fi, ze_fd, ze_fl, ze_fs, ze_gi, ze_gl, ze_gn, ze_gf, zq_gf1, ze_al, zq_al1, zq_al3, ze_aa, zq_aa1, zq_aa3, ze_ev0, ze_ev, zq_ev1, zq_ev3, ze_ca, zq_ca1, ze_xc, zq_xc1, zq_xc3, ze_ck, zq_ck1, ze_rc, zq_rc1, ze_c1, zq_c11, ze_c2, zq_c21, zq_c23, ze_and, zq_andt, zq_andf, ze_or, zq_ort, zq_orf, ze_not, zq_not1, ze_it, zq_itt, zq_itf, zq_itd, ze_skip, ze_brk, ze_cnt, ze_ret0, ze_seq, zq_seq0, zq_seq1, zq_seq2, zq_seq3, ze_si, zq_si1, ze_sr, zq_sr1, ze_inc, zq_inc1, ze_ok0, ze_okS, zq_oki, zq_okr, zq_oka, zq_okf, zq_h1, ze_pf, zq_pf1, zq_pf3, ze_pfo, zq_pfo1, zq_pfo21, zq_pfo31, zq_pfo41, ze_as, zq_as1, zq_as21, zq_as31, ze_aso, zq_aso1, zq_aso21, zq_aso31, zq_aso41, zq_aso51, ze_if, zq_ift, zq_iff, zq_ifd, ze_ret, zq_ret1, ze_pk0, ze_pk1, ze_sw, zq_sw1, ze_cps, zq_cps1, ze_one, zq_o1t, zq_o1f, zq_o20, zq_o22, zq_o21, zq_o23, zq_o30, zq_len1, zq_pad0, zq_padS, ze_sem, ze_fl0, ze_flI, ze_flR, ze_flA, ze_flL, zq_semi, zq_semv, zq_semb0, zq_semb1, List.getElem?_cons_zero, List.getElem?_cons_succ, List.set_cons_zero, List.set_cons_succ, List.length_cons, List.length_nil, List.cons_append, List.nil_append, q_outT, q_outF, q_inT, q_inF, qn_an, qn_ltt, qn_ltf, qn_let, qn_lef, qn_eqt, qn_eqf, qn_sub, nI_add, pk_mul, qn_div, qn_modN, qn_nn, qn_np, qn_pn, qn_nlt, qn_pln, qn_nle, qn_ple, qn_0, qn_1, qn_2, qn_3, qn_4, qn_5, qn_6, qn_7, qn_8, qn_9, qn_10, qn_11, qn_12, qn_13, qn_14, qn_15, qn_16, qn_19, qn_20, qn_21, qn_24, qn_27, qn_29, qn_30, qn_31, qn_32, qn_33, qn_39, qn_40, qn_42, qn_48, qn_50, qn_54, qn_57, qn_59, qn_60, qn_63, qn_72, qn_96, qn_97, qn_99, qn_100, qn_122, qn_128, qn_150, qn_192, qn_199, qn_200, qn_201, qn_236, qn_240, qn_300, qn_998, qn_999, qn_1000, qn_2000, qn_2230, qn_9999, qn_10000, qn_114602, qn_180392, qn_664272, qn_1000000, qn_3379448, qn_10256063, qv_s, qv_n, qo_0_0, qo_0_1, qo_0_2, qo_0_3, qo_0_4, qo_0_5, qo_0_6, qo_0_7, qp_0_7, qo_1_0, qo_1_1, qo_1_2, qo_1_3, qo_1_4, qo_1_5, qo_1_6, qo_1_7, qp_1_7, qo_1_8, qp_1_8, qo_1_9, qp_1_9, qo_1_10, qp_1_10, qo_1_11, qp_1_11, qo_1_12, qp_1_12, qo_1_13, qp_1_13, qo_6_0, qo_6_1, qo_6_2, qo_6_3, qo_6_4, qp_6_4, qo_6_5, qp_6_5, qo_11_0, qo_11_1, qo_11_2, qo_11_3, qp_11_3, qo_15_0, qo_15_1, qo_15_2, qo_15_3, qp_15_3, qo_129_0, qo_129_1, qp_129_1, qo_129_2, qp_129_2, qo_129_3, qp_129_3, qo_129_4, qp_129_4, qo_129_5, qp_129_5, qo_129_6, qp_129_6, qo_129_7, qp_129_7, qo_129_8, qp_129_8, qo_131_0, qo_131_1, qo_131_2, qo_131_3, qo_131_4, qo_131_5, qo_131_6, qp_131_6, qo_131_7, qo_131_8, qp_131_8, qo_131_9, qp_131_9, qo_131_10, qp_131_10, qo_152_0, qo_152_1, qo_155_0, qo_155_1, qo_155_2, qo_159_0, qo_159_1, qo_159_2, qo_159_3, qp_159_3, qo_159_4, qp_159_4, qf_site_0, qf_sitew_0, qf_site_1, qf_sitew_1, qf_site_2, qf_sitew_2, qf_site_3, qf_sitew_3, qf_site_4, qf_sitew_4, qf_site_5, qf_sitew_5, qf_site_6, qf_sitew_6, qf_site_7, qf_sitew_7, qf_site_8, qf_sitew_8, qf_site_9, qf_sitew_9, qf_site_10, qf_site_11, qf_plug_0, qf_plugw_0, qf_plug_1, qf_plugw_1, qf_plug_2, qf_plugw_2, qf_plug_3, qf_plugw_3, qf_plug_4, qf_plugw_4, qf_plug_5, qf_plugw_5, qf_car_0, qf_carw_0, qf_car_1, qf_carw_1, qf_car_2, qf_carw_2, qf_car_3, qf_carw_3, qf_car_4, qf_carw_4, qf_car_5, qf_carw_5, qf_car_6, qf_carw_6, qf_car_7, qf_carw_7, qf_car_8, qf_carw_8, qf_car_9, qf_carw_9, qf_car_10, qf_carw_10, qf_car_11, qf_carw_11, qf_car_12, qf_carw_12, qf_car_13, qf_carw_13, qf_car_14, qf_carw_14, qa_5, qa_7, qa_8, qa_9, qa_10, qa_12, qa_13, qa_14, qa_16, qa_17, qa_18, qa_130, qa_132, qa_133, qa_134, qa_135, qa_151, qa_153, qa_154, qa_156, qa_157, qa_158, qa_177, qa_queue, qa_splug, qa_arr, qa_chg, qa_best, qa_sco, qw_5, qw_7, qw_8, qw_9, qw_10, qw_12, qw_13, qw_14, qw_16, qw_17, qw_18, qw_130, qw_132, qw_133, qw_134, qw_135, qw_151, qw_153, qw_154, qw_156, qw_157, qw_158, qw_177, qw_queue, qw_splug, qw_arr, qw_chg, qw_best, qw_sco, qr_site, qr_plug, qr_car, qr_arr, qr_chg, qr_best, qr_sco, qs_site, qs_plug, qs_car, qc_0, qc_1, qc_6, qc_11, qc_15, qc_129, qc_131, qc_152, qc_155, qc_159, f_X11_car, b_X11_car, na]
            · intro h hh; refine ⟨h, ?_, hh, fun _ _ => rfl⟩
              simp -implicitDefEqProofs (disch := omega) [zq_r1, ze_c, ze_li, zq_li1, ze_lr, zq_lr1, zq_lr2, ze_ll, zq_ll1, ze_u, zq_u1, ze_b, zq_b1, zq_b3, ze_fi, ze_fd, ze_fl, ze_fs, ze_gi, ze_gl, ze_gn, ze_gf, zq_gf1, ze_al, zq_al1, zq_al3, ze_aa, zq_aa1, zq_aa3, ze_ev0, ze_ev, zq_ev1, zq_ev3, ze_ca, zq_ca1, ze_xc, zq_xc1, zq_xc3, ze_ck, zq_ck1, ze_rc, zq_rc1, ze_c1, zq_c11, ze_c2, zq_c21, zq_c23, ze_and, zq_andt, zq_andf, ze_or, zq_ort, zq_orf, ze_not, zq_not1, ze_it, zq_itt, zq_itf, zq_itd, ze_skip, ze_brk, ze_cnt, ze_ret0, ze_seq, zq_seq0, zq_seq1, zq_seq2, zq_seq3, ze_si, zq_si1, ze_sr, zq_sr1, ze_inc, zq_inc1, ze_ok0, ze_okS, zq_oki, zq_okr, zq_oka, zq_okf, zq_h1, ze_pf, zq_pf1, zq_pf3, ze_pfo, zq_pfo1, zq_pfo21, zq_pfo31, zq_pfo41, ze_as, zq_as1, zq_as21, zq_as31, ze_aso, zq_aso1, zq_aso21, zq_aso31, zq_aso41, zq_aso51, ze_if, zq_ift, zq_iff, zq_ifd, ze_ret, zq_ret1, ze_pk0, ze_pk1, ze_sw, zq_sw1, ze_cps, zq_cps1, ze_one, zq_o1t, zq_o1f, zq_o20, zq_o22, zq_o21, zq_o23, zq_o30, zq_len1, zq_pad0, zq_padS, ze_sem, ze_fl0, ze_flI, ze_flR, ze_flA, ze_flL, zq_semi, zq_semv, zq_semb0, zq_semb1, List.getElem?_cons_zero, List.getElem?_cons_succ, List.set_cons_zero, List.set_cons_succ, List.length_cons, List.length_nil, List.cons_append, List.nil_append, q_outT, q_outF, q_inT, q_inF, qn_an, qn_ltt, qn_ltf, qn_let, qn_lef, qn_eqt, qn_eqf, qn_sub, nI_add, pk_mul, qn_div, qn_modN, qn_nn, qn_np, qn_pn, qn_nlt, qn_pln, qn_nle, qn_ple, qn_0, qn_1, qn_2, qn_3, qn_4, qn_5, qn_6, qn_7, qn_8, qn_9, qn_10, qn_11, qn_12, qn_13, qn_14, qn_15, qn_16, qn_19, qn_20, qn_21, qn_24, qn_27, qn_29, qn_30, qn_31, qn_32, qn_33, qn_39, qn_40, qn_42, qn_48, qn_50, qn_54, qn_57, qn_59, qn_60, qn_63, qn_72, qn_96, qn_97, qn_99, qn_100, qn_122, qn_128, qn_150, qn_192, qn_199, qn_200, qn_201, qn_236, qn_240, qn_300, qn_998, qn_999, qn_1000, qn_2000, qn_2230, qn_9999, qn_10000, qn_114602, qn_180392, qn_664272, qn_1000000, qn_3379448, qn_10256063, qv_s, qv_n, qo_178_0, qo_178_1, qo_178_2, qo_178_3, qo_178_4, qo_178_5, qo_178_6, qo_178_7, qo_178_8, qo_178_9, qo_178_10, qo_178_11, qo_178_12, qo_178_13, qo_178_14, qp_178_14, qo_178_15, qp_178_15, qo_178_16, qp_178_16, qo_178_17, qo_178_18, qp_178_18, qo_178_19, qp_178_19, qo_178_20, qp_178_20, qo_178_21, qp_178_21, qo_178_22, qp_178_22, qo_178_23, qp_178_23, qo_178_24, qo_178_25, qo_178_26, qo_178_27, qo_178_28, qo_178_29, qo_178_30, qp_178_30, qo_178_31, qo_178_32, qp_178_32, qa_179, qa_180, qa_181, qa_182, qa_183, qa_184, qa_185, qa_186, qa_187, qa_188, qa_189, qa_190, qa_191, qa_192, qa_193, qa_194, qa_195, qa_196, qa_197, qa_198, qa_199, qa_200, qw_179, qw_180, qw_181, qw_182, qw_183, qw_184, qw_185, qw_186, qw_187, qw_188, qw_189, qw_190, qw_191, qw_192, qw_193, qw_194, qw_195, qw_196, qw_197, qw_198, qw_199, qw_200, qc_178, q_getN, q_putN, q_moreN, f_X12_car, b_X12_car, nb]
        · skip
          refine ⟨-1, S, hS, ?_, ?_⟩
          · intro h hh; refine ⟨h, ?_, hh, fun _ _ => rfl⟩
            simp -implicitDefEqProofs (disch := omega) [zq_r1, ze_c, ze_li, zq_li1, ze_lr, zq_lr1, zq_lr2, ze_ll, zq_ll1, ze_u, zq_u1, ze_b, zq_b1, zq_b3, ze_fi, ze_fd, ze_fl, ze_fs, ze_gi, ze_gl, ze_gn, ze_gf, zq_gf1, ze_al, zq_al1, zq_al3, ze_aa, zq_aa1, zq_aa3, ze_ev0, ze_ev, zq_ev1, zq_ev3, ze_ca, zq_ca1, ze_xc, zq_xc1, zq_xc3, ze_ck, zq_ck1, ze_rc, zq_rc1, ze_c1, zq_c11, ze_c2, zq_c21, zq_c23, ze_and, zq_andt, zq_andf, ze_or, zq_ort, zq_orf, ze_not, zq_not1, ze_it, zq_itt, zq_itf, zq_itd, ze_skip, ze_brk, ze_cnt, ze_ret0, ze_seq, zq_seq0, zq_seq1, zq_seq2, zq_seq3, ze_si, zq_si1, ze_sr, zq_sr1, ze_inc, zq_inc1, ze_ok0, ze_okS, zq_oki, zq_okr, zq_oka, zq_okf, zq_h1, ze_pf, zq_pf1, zq_pf3, ze_pfo, zq_pfo1, zq_pfo21, zq_pfo31, zq_pfo41, ze_as, zq_as1, zq_as21, zq_as31, ze_aso, zq_aso1, zq_aso21, zq_aso31, zq_aso41, zq_aso51, ze_if, zq_ift, zq_iff, zq_ifd, ze_ret, zq_ret1, ze_pk0, ze_pk1, ze_sw, zq_sw1, ze_cps, zq_cps1, ze_one, zq_o1t, zq_o1f, zq_o20, zq_o22, zq_o21, zq_o23, zq_o30, zq_len1, zq_pad0, zq_padS, ze_sem, ze_fl0, ze_flI, ze_flR, ze_flA, ze_flL, zq_semi, zq_semv, zq_semb0, zq_semb1, List.getElem?_cons_zero, List.getElem?_cons_succ, List.set_cons_zero, List.set_cons_succ, List.length_cons, List.length_nil, List.cons_append, List.nil_append, q_outT, q_outF, q_inT, q_inF, qn_an, qn_ltt, qn_ltf, qn_let, qn_lef, qn_eqt, qn_eqf, qn_sub, nI_add, pk_mul, qn_div, qn_modN, qn_nn, qn_np, qn_pn, qn_nlt, qn_pln, qn_nle, qn_ple, qn_0, qn_1, qn_2, qn_3, qn_4, qn_5, qn_6, qn_7, qn_8, qn_9, qn_10, qn_11, qn_12, qn_13, qn_14, qn_15, qn_16, qn_19, qn_20, qn_21, qn_24, qn_27, qn_29, qn_30, qn_31, qn_32, qn_33, qn_39, qn_40, qn_42, qn_48, qn_50, qn_54, qn_57, qn_59, qn_60, qn_63, qn_72, qn_96, qn_97, qn_99, qn_100, qn_122, qn_128, qn_150, qn_192, qn_199, qn_200, qn_201, qn_236, qn_240, qn_300, qn_998, qn_999, qn_1000, qn_2000, qn_2230, qn_9999, qn_10000, qn_114602, qn_180392, qn_664272, qn_1000000, qn_3379448, qn_10256063, qv_s, qv_n, qo_0_0, qo_0_1, qo_0_2, qo_0_3, qo_0_4, qo_0_5, qo_0_6, qo_0_7, qp_0_7, qo_1_0, qo_1_1, qo_1_2, qo_1_3, qo_1_4, qo_1_5, qo_1_6, qo_1_7, qp_1_7, qo_1_8, qp_1_8, qo_1_9, qp_1_9, qo_1_10, qp_1_10, qo_1_11, qp_1_11, qo_1_12, qp_1_12, qo_1_13, qp_1_13, qo_6_0, qo_6_1, qo_6_2, qo_6_3, qo_6_4, qp_6_4, qo_6_5, qp_6_5, qo_11_0, qo_11_1, qo_11_2, qo_11_3, qp_11_3, qo_15_0, qo_15_1, qo_15_2, qo_15_3, qp_15_3, qo_129_0, qo_129_1, qp_129_1, qo_129_2, qp_129_2, qo_129_3, qp_129_3, qo_129_4, qp_129_4, qo_129_5, qp_129_5, qo_129_6, qp_129_6, qo_129_7, qp_129_7, qo_129_8, qp_129_8, qo_131_0, qo_131_1, qo_131_2, qo_131_3, qo_131_4, qo_131_5, qo_131_6, qp_131_6, qo_131_7, qo_131_8, qp_131_8, qo_131_9, qp_131_9, qo_131_10, qp_131_10, qo_152_0, qo_152_1, qo_155_0, qo_155_1, qo_155_2, qo_159_0, qo_159_1, qo_159_2, qo_159_3, qp_159_3, qo_159_4, qp_159_4, qf_site_0, qf_sitew_0, qf_site_1, qf_sitew_1, qf_site_2, qf_sitew_2, qf_site_3, qf_sitew_3, qf_site_4, qf_sitew_4, qf_site_5, qf_sitew_5, qf_site_6, qf_sitew_6, qf_site_7, qf_sitew_7, qf_site_8, qf_sitew_8, qf_site_9, qf_sitew_9, qf_site_10, qf_site_11, qf_plug_0, qf_plugw_0, qf_plug_1, qf_plugw_1, qf_plug_2, qf_plugw_2, qf_plug_3, qf_plugw_3, qf_plug_4, qf_plugw_4, qf_plug_5, qf_plugw_5, qf_car_0, qf_carw_0, qf_car_1, qf_carw_1, qf_car_2, qf_carw_2, qf_car_3, qf_carw_3, qf_car_4, qf_carw_4, qf_car_5, qf_carw_5, qf_car_6, qf_carw_6, qf_car_7, qf_carw_7, qf_car_8, qf_carw_8, qf_car_9, qf_carw_9, qf_car_10, qf_carw_10, qf_car_11, qf_carw_11, qf_car_12, qf_carw_12, qf_car_13, qf_carw_13, qf_car_14, qf_carw_14, qa_5, qa_7, qa_8, qa_9, qa_10, qa_12, qa_13, qa_14, qa_16, qa_17, qa_18, qa_130, qa_132, qa_133, qa_134, qa_135, qa_151, qa_153, qa_154, qa_156, qa_157, qa_158, qa_177, qa_queue, qa_splug, qa_arr, qa_chg, qa_best, qa_sco, qw_5, qw_7, qw_8, qw_9, qw_10, qw_12, qw_13, qw_14, qw_16, qw_17, qw_18, qw_130, qw_132, qw_133, qw_134, qw_135, qw_151, qw_153, qw_154, qw_156, qw_157, qw_158, qw_177, qw_queue, qw_splug, qw_arr, qw_chg, qw_best, qw_sco, qr_site, qr_plug, qr_car, qr_arr, qr_chg, qr_best, qr_sco, qs_site, qs_plug, qs_car, qc_0, qc_1, qc_6, qc_11, qc_15, qc_129, qc_131, qc_152, qc_155, qc_159, f_X11_car, b_X11_car, na]
          · intro h hh; refine ⟨h, ?_, hh, fun _ _ => rfl⟩
            simp -implicitDefEqProofs (disch := omega) [zq_r1, ze_c, ze_li, zq_li1, ze_lr, zq_lr1, zq_lr2, ze_ll, zq_ll1, ze_u, zq_u1, ze_b, zq_b1, zq_b3, ze_fi, ze_fd, ze_fl, ze_fs, ze_gi, ze_gl, ze_gn, ze_gf, zq_gf1, ze_al, zq_al1, zq_al3, ze_aa, zq_aa1, zq_aa3, ze_ev0, ze_ev, zq_ev1, zq_ev3, ze_ca, zq_ca1, ze_xc, zq_xc1, zq_xc3, ze_ck, zq_ck1, ze_rc, zq_rc1, ze_c1, zq_c11, ze_c2, zq_c21, zq_c23, ze_and, zq_andt, zq_andf, ze_or, zq_ort, zq_orf, ze_not, zq_not1, ze_it, zq_itt, zq_itf, zq_itd, ze_skip, ze_brk, ze_cnt, ze_ret0, ze_seq, zq_seq0, zq_seq1, zq_seq2, zq_seq3, ze_si, zq_si1, ze_sr, zq_sr1, ze_inc, zq_inc1, ze_ok0, ze_okS, zq_oki, zq_okr, zq_oka, zq_okf, zq_h1, ze_pf, zq_pf1, zq_pf3, ze_pfo, zq_pfo1, zq_pfo21, zq_pfo31, zq_pfo41, ze_as, zq_as1, zq_as21, zq_as31, ze_aso, zq_aso1, zq_aso21, zq_aso31, zq_aso41, zq_aso51, ze_if, zq_ift, zq_iff, zq_ifd, ze_ret, zq_ret1, ze_pk0, ze_pk1, ze_sw, zq_sw1, ze_cps, zq_cps1, ze_one, zq_o1t, zq_o1f, zq_o20, zq_o22, zq_o21, zq_o23, zq_o30, zq_len1, zq_pad0, zq_padS, ze_sem, ze_fl0, ze_flI, ze_flR, ze_flA, ze_flL, zq_semi, zq_semv, zq_semb0, zq_semb1, List.getElem?_cons_zero, List.getElem?_cons_succ, List.set_cons_zero, List.set_cons_succ, List.length_cons, List.length_nil, List.cons_append, List.nil_append, q_outT, q_outF, q_inT, q_inF, qn_an, qn_ltt, qn_ltf, qn_let, qn_lef, qn_eqt, qn_eqf, qn_sub, nI_add, pk_mul, qn_div, qn_modN, qn_nn, qn_np, qn_pn, qn_nlt, qn_pln, qn_nle, qn_ple, qn_0, qn_1, qn_2, qn_3, qn_4, qn_5, qn_6, qn_7, qn_8, qn_9, qn_10, qn_11, qn_12, qn_13, qn_14, qn_15, qn_16, qn_19, qn_20, qn_21, qn_24, qn_27, qn_29, qn_30, qn_31, qn_32, qn_33, qn_39, qn_40, qn_42, qn_48, qn_50, qn_54, qn_57, qn_59, qn_60, qn_63, qn_72, qn_96, qn_97, qn_99, qn_100, qn_122, qn_128, qn_150, qn_192, qn_199, qn_200, qn_201, qn_236, qn_240, qn_300, qn_998, qn_999, qn_1000, qn_2000, qn_2230, qn_9999, qn_10000, qn_114602, qn_180392, qn_664272, qn_1000000, qn_3379448, qn_10256063, qv_s, qv_n, qo_178_0, qo_178_1, qo_178_2, qo_178_3, qo_178_4, qo_178_5, qo_178_6, qo_178_7, qo_178_8, qo_178_9, qo_178_10, qo_178_11, qo_178_12, qo_178_13, qo_178_14, qp_178_14, qo_178_15, qp_178_15, qo_178_16, qp_178_16, qo_178_17, qo_178_18, qp_178_18, qo_178_19, qp_178_19, qo_178_20, qp_178_20, qo_178_21, qp_178_21, qo_178_22, qp_178_22, qo_178_23, qp_178_23, qo_178_24, qo_178_25, qo_178_26, qo_178_27, qo_178_28, qo_178_29, qo_178_30, qp_178_30, qo_178_31, qo_178_32, qp_178_32, qa_179, qa_180, qa_181, qa_182, qa_183, qa_184, qa_185, qa_186, qa_187, qa_188, qa_189, qa_190, qa_191, qa_192, qa_193, qa_194, qa_195, qa_196, qa_197, qa_198, qa_199, qa_200, qw_179, qw_180, qw_181, qw_182, qw_183, qw_184, qw_185, qw_186, qw_187, qw_188, qw_189, qw_190, qw_191, qw_192, qw_193, qw_194, qw_195, qw_196, qw_197, qw_198, qw_199, qw_200, qc_178, q_getN, q_putN, q_moreN, f_X12_car, b_X12_car, nb]
      · skip
        refine ⟨-1, S, hS, ?_, ?_⟩
        · intro h hh; refine ⟨h, ?_, hh, fun _ _ => rfl⟩
          simp -implicitDefEqProofs (disch := omega) [zq_r1, ze_c, ze_li, zq_li1, ze_lr, zq_lr1, zq_lr2, ze_ll, zq_ll1, ze_u, zq_u1, ze_b, zq_b1, zq_b3, ze_fi, ze_fd, ze_fl, ze_fs, ze_gi, ze_gl, ze_gn, ze_gf, zq_gf1, ze_al, zq_al1, zq_al3, ze_aa, zq_aa1, zq_aa3, ze_ev0, ze_ev, zq_ev1, zq_ev3, ze_ca, zq_ca1, ze_xc, zq_xc1, zq_xc3, ze_ck, zq_ck1, ze_rc, zq_rc1, ze_c1, zq_c11, ze_c2, zq_c21, zq_c23, ze_and, zq_andt, zq_andf, ze_or, zq_ort, zq_orf, ze_not, zq_not1, ze_it, zq_itt, zq_itf, zq_itd, ze_skip, ze_brk, ze_cnt, ze_ret0, ze_seq, zq_seq0, zq_seq1, zq_seq2, zq_seq3, ze_si, zq_si1, ze_sr, zq_sr1, ze_inc, zq_inc1, ze_ok0, ze_okS, zq_oki, zq_okr, zq_oka, zq_okf, zq_h1, ze_pf, zq_pf1, zq_pf3, ze_pfo, zq_pfo1, zq_pfo21, zq_pfo31, zq_pfo41, ze_as, zq_as1, zq_as21, zq_as31, ze_aso, zq_aso1, zq_aso21, zq_aso31, zq_aso41, zq_aso51, ze_if, zq_ift, zq_iff, zq_ifd, ze_ret, zq_ret1, ze_pk0, ze_pk1, ze_sw, zq_sw1, ze_cps, zq_cps1, ze_one, zq_o1t, zq_o1f, zq_o20, zq_o22, zq_o21, zq_o23, zq_o30, zq_len1, zq_pad0, zq_padS, ze_sem, ze_fl0, ze_flI, ze_flR, ze_flA, ze_flL, zq_semi, zq_semv, zq_semb0, zq_semb1, List.getElem?_cons_zero, List.getElem?_cons_succ, List.set_cons_zero, List.set_cons_succ, List.length_cons, List.length_nil, List.cons_append, List.nil_append, q_outT, q_outF, q_inT, q_inF, qn_an, qn_ltt, qn_ltf, qn_let, qn_lef, qn_eqt, qn_eqf, qn_sub, nI_add, pk_mul, qn_div, qn_modN, qn_nn, qn_np, qn_pn, qn_nlt, qn_pln, qn_nle, qn_ple, qn_0, qn_1, qn_2, qn_3, qn_4, qn_5, qn_6, qn_7, qn_8, qn_9, qn_10, qn_11, qn_12, qn_13, qn_14, qn_15, qn_16, qn_19, qn_20, qn_21, qn_24, qn_27, qn_29, qn_30, qn_31, qn_32, qn_33, qn_39, qn_40, qn_42, qn_48, qn_50, qn_54, qn_57, qn_59, qn_60, qn_63, qn_72, qn_96, qn_97, qn_99, qn_100, qn_122, qn_128, qn_150, qn_192, qn_199, qn_200, qn_201, qn_236, qn_240, qn_300, qn_998, qn_999, qn_1000, qn_2000, qn_2230, qn_9999, qn_10000, qn_114602, qn_180392, qn_664272, qn_1000000, qn_3379448, qn_10256063, qv_s, qv_n, qo_0_0, qo_0_1, qo_0_2, qo_0_3, qo_0_4, qo_0_5, qo_0_6, qo_0_7, qp_0_7, qo_1_0, qo_1_1, qo_1_2, qo_1_3, qo_1_4, qo_1_5, qo_1_6, qo_1_7, qp_1_7, qo_1_8, qp_1_8, qo_1_9, qp_1_9, qo_1_10, qp_1_10, qo_1_11, qp_1_11, qo_1_12, qp_1_12, qo_1_13, qp_1_13, qo_6_0, qo_6_1, qo_6_2, qo_6_3, qo_6_4, qp_6_4, qo_6_5, qp_6_5, qo_11_0, qo_11_1, qo_11_2, qo_11_3, qp_11_3, qo_15_0, qo_15_1, qo_15_2, qo_15_3, qp_15_3, qo_129_0, qo_129_1, qp_129_1, qo_129_2, qp_129_2, qo_129_3, qp_129_3, qo_129_4, qp_129_4, qo_129_5, qp_129_5, qo_129_6, qp_129_6, qo_129_7, qp_129_7, qo_129_8, qp_129_8, qo_131_0, qo_131_1, qo_131_2, qo_131_3, qo_131_4, qo_131_5, qo_131_6, qp_131_6, qo_131_7, qo_131_8, qp_131_8, qo_131_9, qp_131_9, qo_131_10, qp_131_10, qo_152_0, qo_152_1, qo_155_0, qo_155_1, qo_155_2, qo_159_0, qo_159_1, qo_159_2, qo_159_3, qp_159_3, qo_159_4, qp_159_4, qf_site_0, qf_sitew_0, qf_site_1, qf_sitew_1, qf_site_2, qf_sitew_2, qf_site_3, qf_sitew_3, qf_site_4, qf_sitew_4, qf_site_5, qf_sitew_5, qf_site_6, qf_sitew_6, qf_site_7, qf_sitew_7, qf_site_8, qf_sitew_8, qf_site_9, qf_sitew_9, qf_site_10, qf_site_11, qf_plug_0, qf_plugw_0, qf_plug_1, qf_plugw_1, qf_plug_2, qf_plugw_2, qf_plug_3, qf_plugw_3, qf_plug_4, qf_plugw_4, qf_plug_5, qf_plugw_5, qf_car_0, qf_carw_0, qf_car_1, qf_carw_1, qf_car_2, qf_carw_2, qf_car_3, qf_carw_3, qf_car_4, qf_carw_4, qf_car_5, qf_carw_5, qf_car_6, qf_carw_6, qf_car_7, qf_carw_7, qf_car_8, qf_carw_8, qf_car_9, qf_carw_9, qf_car_10, qf_carw_10, qf_car_11, qf_carw_11, qf_car_12, qf_carw_12, qf_car_13, qf_carw_13, qf_car_14, qf_carw_14, qa_5, qa_7, qa_8, qa_9, qa_10, qa_12, qa_13, qa_14, qa_16, qa_17, qa_18, qa_130, qa_132, qa_133, qa_134, qa_135, qa_151, qa_153, qa_154, qa_156, qa_157, qa_158, qa_177, qa_queue, qa_splug, qa_arr, qa_chg, qa_best, qa_sco, qw_5, qw_7, qw_8, qw_9, qw_10, qw_12, qw_13, qw_14, qw_16, qw_17, qw_18, qw_130, qw_132, qw_133, qw_134, qw_135, qw_151, qw_153, qw_154, qw_156, qw_157, qw_158, qw_177, qw_queue, qw_splug, qw_arr, qw_chg, qw_best, qw_sco, qr_site, qr_plug, qr_car, qr_arr, qr_chg, qr_best, qr_sco, qs_site, qs_plug, qs_car, qc_0, qc_1, qc_6, qc_11, qc_15, qc_129, qc_131, qc_152, qc_155, qc_159, f_X11_car, b_X11_car, na]
        · intro h hh; refine ⟨h, ?_, hh, fun _ _ => rfl⟩
          simp -implicitDefEqProofs (disch := omega) [zq_r1, ze_c, ze_li, zq_li1, ze_lr, zq_lr1, zq_lr2, ze_ll, zq_ll1, ze_u, zq_u1, ze_b, zq_b1, zq_b3, ze_fi, ze_fd, ze_fl, ze_fs, ze_gi, ze_gl, ze_gn, ze_gf, zq_gf1, ze_al, zq_al1, zq_al3, ze_aa, zq_aa1, zq_aa3, ze_ev0, ze_ev, zq_ev1, zq_ev3, ze_ca, zq_ca1, ze_xc, zq_xc1, zq_xc3, ze_ck, zq_ck1, ze_rc, zq_rc1, ze_c1, zq_c11, ze_c2, zq_c21, zq_c23, ze_and, zq_andt, zq_andf, ze_or, zq_ort, zq_orf, ze_not, zq_not1, ze_it, zq_itt, zq_itf, zq_itd, ze_skip, ze_brk, ze_cnt, ze_ret0, ze_seq, zq_seq0, zq_seq1, zq_seq2, zq_seq3, ze_si, zq_si1, ze_sr, zq_sr1, ze_inc, zq_inc1, ze_ok0, ze_okS, zq_oki, zq_okr, zq_oka, zq_okf, zq_h1, ze_pf, zq_pf1, zq_pf3, ze_pfo, zq_pfo1, zq_pfo21, zq_pfo31, zq_pfo41, ze_as, zq_as1, zq_as21, zq_as31, ze_aso, zq_aso1, zq_aso21, zq_aso31, zq_aso41, zq_aso51, ze_if, zq_ift, zq_iff, zq_ifd, ze_ret, zq_ret1, ze_pk0, ze_pk1, ze_sw, zq_sw1, ze_cps, zq_cps1, ze_one, zq_o1t, zq_o1f, zq_o20, zq_o22, zq_o21, zq_o23, zq_o30, zq_len1, zq_pad0, zq_padS, ze_sem, ze_fl0, ze_flI, ze_flR, ze_flA, ze_flL, zq_semi, zq_semv, zq_semb0, zq_semb1, List.getElem?_cons_zero, List.getElem?_cons_succ, List.set_cons_zero, List.set_cons_succ, List.length_cons, List.length_nil, List.cons_append, List.nil_append, q_outT, q_outF, q_inT, q_inF, qn_an, qn_ltt, qn_ltf, qn_let, qn_lef, qn_eqt, qn_eqf, qn_sub, nI_add, pk_mul, qn_div, qn_modN, qn_nn, qn_np, qn_pn, qn_nlt, qn_pln, qn_nle, qn_ple, qn_0, qn_1, qn_2, qn_3, qn_4, qn_5, qn_6, qn_7, qn_8, qn_9, qn_10, qn_11, qn_12, qn_13, qn_14, qn_15, qn_16, qn_19, qn_20, qn_21, qn_24, qn_27, qn_29, qn_30, qn_31, qn_32, qn_33, qn_39, qn_40, qn_42, qn_48, qn_50, qn_54, qn_57, qn_59, qn_60, qn_63, qn_72, qn_96, qn_97, qn_99, qn_100, qn_122, qn_128, qn_150, qn_192, qn_199, qn_200, qn_201, qn_236, qn_240, qn_300, qn_998, qn_999, qn_1000, qn_2000, qn_2230, qn_9999, qn_10000, qn_114602, qn_180392, qn_664272, qn_1000000, qn_3379448, qn_10256063, qv_s, qv_n, qo_178_0, qo_178_1, qo_178_2, qo_178_3, qo_178_4, qo_178_5, qo_178_6, qo_178_7, qo_178_8, qo_178_9, qo_178_10, qo_178_11, qo_178_12, qo_178_13, qo_178_14, qp_178_14, qo_178_15, qp_178_15, qo_178_16, qp_178_16, qo_178_17, qo_178_18, qp_178_18, qo_178_19, qp_178_19, qo_178_20, qp_178_20, qo_178_21, qp_178_21, qo_178_22, qp_178_22, qo_178_23, qp_178_23, qo_178_24, qo_178_25, qo_178_26, qo_178_27, qo_178_28, qo_178_29, qo_178_30, qp_178_30, qo_178_31, qo_178_32, qp_178_32, qa_179, qa_180, qa_181, qa_182, qa_183, qa_184, qa_185, qa_186, qa_187, qa_188, qa_189, qa_190, qa_191, qa_192, qa_193, qa_194, qa_195, qa_196, qa_197, qa_198, qa_199, qa_200, qw_179, qw_180, qw_181, qw_182, qw_183, qw_184, qw_185, qw_186, qw_187, qw_188, qw_189, qw_190, qw_191, qw_192, qw_193, qw_194, qw_195, qw_196, qw_197, qw_198, qw_199, qw_200, qc_178, q_getN, q_putN, q_moreN, f_X12_car, b_X12_car, nb]
    · skip
      refine ⟨-1, S, hS, ?_, ?_⟩
      · intro h hh; refine ⟨h, ?_, hh, fun _ _ => rfl⟩
        simp -implicitDefEqProofs (disch := omega) [zq_r1, ze_c, ze_li, zq_li1, ze_lr, zq_lr1, zq_lr2, ze_ll, zq_ll1, ze_u, zq_u1, ze_b, zq_b1, zq_b3, ze_fi, ze_fd, ze_fl, ze_fs, ze_gi, ze_gl, ze_gn, ze_gf, zq_gf1, ze_al, zq_al1, zq_al3, ze_aa, zq_aa1, zq_aa3, ze_ev0, ze_ev, zq_ev1, zq_ev3, ze_ca, zq_ca1, ze_xc, zq_xc1, zq_xc3, ze_ck, zq_ck1, ze_rc, zq_rc1, ze_c1, zq_c11, ze_c2, zq_c21, zq_c23, ze_and, zq_andt, zq_andf, ze_or, zq_ort, zq_orf, ze_not, zq_not1, ze_it, zq_itt, zq_itf, zq_itd, ze_skip, ze_brk, ze_cnt, ze_ret0, ze_seq, zq_seq0, zq_seq1, zq_seq2, zq_seq3, ze_si, zq_si1, ze_sr, zq_sr1, ze_inc, zq_inc1, ze_ok0, ze_okS, zq_oki, zq_okr, zq_oka, zq_okf, zq_h1, ze_pf, zq_pf1, zq_pf3, ze_pfo, zq_pfo1, zq_pfo21, zq_pfo31, zq_pfo41, ze_as, zq_as1, zq_as21, zq_as31, ze_aso, zq_aso1, zq_aso21, zq_aso31, zq_aso41, zq_aso51, ze_if, zq_ift, zq_iff, zq_ifd, ze_ret, zq_ret1, ze_pk0, ze_pk1, ze_sw, zq_sw1, ze_cps, zq_cps1, ze_one, zq_o1t, zq_o1f, zq_o20, zq_o22, zq_o21, zq_o23, zq_o30, zq_len1, zq_pad0, zq_padS, ze_sem, ze_fl0, ze_flI, ze_flR, ze_flA, ze_flL, zq_semi, zq_semv, zq_semb0, zq_semb1, List.getElem?_cons_zero, List.getElem?_cons_succ, List.set_cons_zero, List.set_cons_succ, List.length_cons, List.length_nil, List.cons_append, List.nil_append, q_outT, q_outF, q_inT, q_inF, qn_an, qn_ltt, qn_ltf, qn_let, qn_lef, qn_eqt, qn_eqf, qn_sub, nI_add, pk_mul, qn_div, qn_modN, qn_nn, qn_np, qn_pn, qn_nlt, qn_pln, qn_nle, qn_ple, qn_0, qn_1, qn_2, qn_3, qn_4, qn_5, qn_6, qn_7, qn_8, qn_9, qn_10, qn_11, qn_12, qn_13, qn_14, qn_15, qn_16, qn_19, qn_20, qn_21, qn_24, qn_27, qn_29, qn_30, qn_31, qn_32, qn_33, qn_39, qn_40, qn_42, qn_48, qn_50, qn_54, qn_57, qn_59, qn_60, qn_63, qn_72, qn_96, qn_97, qn_99, qn_100, qn_122, qn_128, qn_150, qn_192, qn_199, qn_200, qn_201, qn_236, qn_240, qn_300, qn_998, qn_999, qn_1000, qn_2000, qn_2230, qn_9999, qn_10000, qn_114602, qn_180392, qn_664272, qn_1000000, qn_3379448, qn_10256063, qv_s, qv_n, qo_0_0, qo_0_1, qo_0_2, qo_0_3, qo_0_4, qo_0_5, qo_0_6, qo_0_7, qp_0_7, qo_1_0, qo_1_1, qo_1_2, qo_1_3, qo_1_4, qo_1_5, qo_1_6, qo_1_7, qp_1_7, qo_1_8, qp_1_8, qo_1_9, qp_1_9, qo_1_10, qp_1_10, qo_1_11, qp_1_11, qo_1_12, qp_1_12, qo_1_13, qp_1_13, qo_6_0, qo_6_1, qo_6_2, qo_6_3, qo_6_4, qp_6_4, qo_6_5, qp_6_5, qo_11_0, qo_11_1, qo_11_2, qo_11_3, qp_11_3, qo_15_0, qo_15_1, qo_15_2, qo_15_3, qp_15_3, qo_129_0, qo_129_1, qp_129_1, qo_129_2, qp_129_2, qo_129_3, qp_129_3, qo_129_4, qp_129_4, qo_129_5, qp_129_5, qo_129_6, qp_129_6, qo_129_7, qp_129_7, qo_129_8, qp_129_8, qo_131_0, qo_131_1, qo_131_2, qo_131_3, qo_131_4, qo_131_5, qo_131_6, qp_131_6, qo_131_7, qo_131_8, qp_131_8, qo_131_9, qp_131_9, qo_131_10, qp_131_10, qo_152_0, qo_152_1, qo_155_0, qo_155_1, qo_155_2, qo_159_0, qo_159_1, qo_159_2, qo_159_3, qp_159_3, qo_159_4, qp_159_4, qf_site_0, qf_sitew_0, qf_site_1, qf_sitew_1, qf_site_2, qf_sitew_2, qf_site_3, qf_sitew_3, qf_site_4, qf_sitew_4, qf_site_5, qf_sitew_5, qf_site_6, qf_sitew_6, qf_site_7, qf_sitew_7, qf_site_8, qf_sitew_8, qf_site_9, qf_sitew_9, qf_site_10, qf_site_11, qf_plug_0, qf_plugw_0, qf_plug_1, qf_plugw_1, qf_plug_2, qf_plugw_2, qf_plug_3, qf_plugw_3, qf_plug_4, qf_plugw_4, qf_plug_5, qf_plugw_5, qf_car_0, qf_carw_0, qf_car_1, qf_carw_1, qf_car_2, qf_carw_2, qf_car_3, qf_carw_3, qf_car_4, qf_carw_4, qf_car_5, qf_carw_5, qf_car_6, qf_carw_6, qf_car_7, qf_carw_7, qf_car_8, qf_carw_8, qf_car_9, qf_carw_9, qf_car_10, qf_carw_10, qf_car_11, qf_carw_11, qf_car_12, qf_carw_12, qf_car_13, qf_carw_13, qf_car_14, qf_carw_14, qa_5, qa_7, qa_8, qa_9, qa_10, qa_12, qa_13, qa_14, qa_16, qa_17, qa_18, qa_130, qa_132, qa_133, qa_134, qa_135, qa_151, qa_153, qa_154, qa_156, qa_157, qa_158, qa_177, qa_queue, qa_splug, qa_arr, qa_chg, qa_best, qa_sco, qw_5, qw_7, qw_8, qw_9, qw_10, qw_12, qw_13, qw_14, qw_16, qw_17, qw_18, qw_130, qw_132, qw_133, qw_134, qw_135, qw_151, qw_153, qw_154, qw_156, qw_157, qw_158, qw_177, qw_queue, qw_splug, qw_arr, qw_chg, qw_best, qw_sco, qr_site, qr_plug, qr_car, qr_arr, qr_chg, qr_best, qr_sco, qs_site, qs_plug, qs_car, qc_0, qc_1, qc_6, qc_11, qc_15, qc_129, qc_131, qc_152, qc_155, qc_159, f_X11_car, b_X11_car, na]
      · intro h hh; refine ⟨h, ?_, hh, fun _ _ => rfl⟩
        simp -implicitDefEqProofs (disch := omega) [zq_r1, ze_c, ze_li, zq_li1, ze_lr, zq_lr1, zq_lr2, ze_ll, zq_ll1, ze_u, zq_u1, ze_b, zq_b1, zq_b3, ze_fi, ze_fd, ze_fl, ze_fs, ze_gi, ze_gl, ze_gn, ze_gf, zq_gf1, ze_al, zq_al1, zq_al3, ze_aa, zq_aa1, zq_aa3, ze_ev0, ze_ev, zq_ev1, zq_ev3, ze_ca, zq_ca1, ze_xc, zq_xc1, zq_xc3, ze_ck, zq_ck1, ze_rc, zq_rc1, ze_c1, zq_c11, ze_c2, zq_c21, zq_c23, ze_and, zq_andt, zq_andf, ze_or, zq_ort, zq_orf, ze_not, zq_not1, ze_it, zq_itt, zq_itf, zq_itd, ze_skip, ze_brk, ze_cnt, ze_ret0, ze_seq, zq_seq0, zq_seq1, zq_seq2, zq_seq3, ze_si, zq_si1, ze_sr, zq_sr1, ze_inc, zq_inc1, ze_ok0, ze_okS, zq_oki, zq_okr, zq_oka, zq_okf, zq_h1, ze_pf, zq_pf1, zq_pf3, ze_pfo, zq_pfo1, zq_pfo21, zq_pfo31, zq_pfo41, ze_as, zq_as1, zq_as21, zq_as31, ze_aso, zq_aso1, zq_aso21, zq_aso31, zq_aso41, zq_aso51, ze_if, zq_ift, zq_iff, zq_ifd, ze_ret, zq_ret1, ze_pk0, ze_pk1, ze_sw, zq_sw1, ze_cps, zq_cps1, ze_one, zq_o1t, zq_o1f, zq_o20, zq_o22, zq_o21, zq_o23, zq_o30, zq_len1, zq_pad0, zq_padS, ze_sem, ze_fl0, ze_flI, ze_flR, ze_flA, ze_flL, zq_semi, zq_semv, zq_semb0, zq_semb1, List.getElem?_cons_zero, List.getElem?_cons_succ, List.set_cons_zero, List.set_cons_succ, List.length_cons, List.length_nil, List.cons_append, List.nil_append, q_outT, q_outF, q_inT, q_inF, qn_an, qn_ltt, qn_ltf, qn_let, qn_lef, qn_eqt, qn_eqf, qn_sub, nI_add, pk_mul, qn_div, qn_modN, qn_nn, qn_np, qn_pn, qn_nlt, qn_pln, qn_nle, qn_ple, qn_0, qn_1, qn_2, qn_3, qn_4, qn_5, qn_6, qn_7, qn_8, qn_9, qn_10, qn_11, qn_12, qn_13, qn_14, qn_15, qn_16, qn_19, qn_20, qn_21, qn_24, qn_27, qn_29, qn_30, qn_31, qn_32, qn_33, qn_39, qn_40, qn_42, qn_48, qn_50, qn_54, qn_57, qn_59, qn_60, qn_63, qn_72, qn_96, qn_97, qn_99, qn_100, qn_122, qn_128, qn_150, qn_192, qn_199, qn_200, qn_201, qn_236, qn_240, qn_300, qn_998, qn_999, qn_1000, qn_2000, qn_2230, qn_9999, qn_10000, qn_114602, qn_180392, qn_664272, qn_1000000, qn_3379448, qn_10256063, qv_s, qv_n, qo_178_0, qo_178_1, qo_178_2, qo_178_3, qo_178_4, qo_178_5, qo_178_6, qo_178_7, qo_178_8, qo_178_9, qo_178_10, qo_178_11, qo_178_12, qo_178_13, qo_178_14, qp_178_14, qo_178_15, qp_178_15, qo_178_16, qp_178_16, qo_178_17, qo_178_18, qp_178_18, qo_178_19, qp_178_19, qo_178_20, qp_178_20, qo_178_21, qp_178_21, qo_178_22, qp_178_22, qo_178_23, qp_178_23, qo_178_24, qo_178_25, qo_178_26, qo_178_27, qo_178_28, qo_178_29, qo_178_30, qp_178_30, qo_178_31, qo_178_32, qp_178_32, qa_179, qa_180, qa_181, qa_182, qa_183, qa_184, qa_185, qa_186, qa_187, qa_188, qa_189, qa_190, qa_191, qa_192, qa_193, qa_194, qa_195, qa_196, qa_197, qa_198, qa_199, qa_200, qw_179, qw_180, qw_181, qw_182, qw_183, qw_184, qw_185, qw_186, qw_187, qw_188, qw_189, qw_190, qw_191, qw_192, qw_193, qw_194, qw_195, qw_196, qw_197, qw_198, qw_199, qw_200, qc_178, q_getN, q_putN, q_moreN, f_X12_car, b_X12_car, nb]
  · skip
    refine ⟨-1, S, hS, ?_, ?_⟩
    · intro h hh; refine ⟨h, ?_, hh, fun _ _ => rfl⟩
      simp -implicitDefEqProofs (disch := omega) [zq_r1, ze_c, ze_li, zq_li1, ze_lr, zq_lr1, zq_lr2, ze_ll, zq_ll1, ze_u, zq_u1, ze_b, zq_b1, zq_b3, ze_fi, ze_fd, ze_fl, ze_fs, ze_gi, ze_gl, ze_gn, ze_gf, zq_gf1, ze_al, zq_al1, zq_al3, ze_aa, zq_aa1, zq_aa3, ze_ev0, ze_ev, zq_ev1, zq_ev3, ze_ca, zq_ca1, ze_xc, zq_xc1, zq_xc3, ze_ck, zq_ck1, ze_rc, zq_rc1, ze_c1, zq_c11, ze_c2, zq_c21, zq_c23, ze_and, zq_andt, zq_andf, ze_or, zq_ort, zq_orf, ze_not, zq_not1, ze_it, zq_itt, zq_itf, zq_itd, ze_skip, ze_brk, ze_cnt, ze_ret0, ze_seq, zq_seq0, zq_seq1, zq_seq2, zq_seq3, ze_si, zq_si1, ze_sr, zq_sr1, ze_inc, zq_inc1, ze_ok0, ze_okS, zq_oki, zq_okr, zq_oka, zq_okf, zq_h1, ze_pf, zq_pf1, zq_pf3, ze_pfo, zq_pfo1, zq_pfo21, zq_pfo31, zq_pfo41, ze_as, zq_as1, zq_as21, zq_as31, ze_aso, zq_aso1, zq_aso21, zq_aso31, zq_aso41, zq_aso51, ze_if, zq_ift, zq_iff, zq_ifd, ze_ret, zq_ret1, ze_pk0, ze_pk1, ze_sw, zq_sw1, ze_cps, zq_cps1, ze_one, zq_o1t, zq_o1f, zq_o20, zq_o22, zq_o21, zq_o23, zq_o30, zq_len1, zq_pad0, zq_padS, ze_sem, ze_fl0, ze_flI, ze_flR, ze_flA, ze_flL, zq_semi, zq_semv, zq_semb0, zq_semb1, List.getElem?_cons_zero, List.getElem?_cons_succ, List.set_cons_zero, List.set_cons_succ, List.length_cons, List.length_nil, List.cons_append, List.nil_append, q_outT, q_outF, q_inT, q_inF, qn_an, qn_ltt, qn_ltf, qn_let, qn_lef, qn_eqt, qn_eqf, qn_sub, nI_add, pk_mul, qn_div, qn_modN, qn_nn, qn_np, qn_pn, qn_nlt, qn_pln, qn_nle, qn_ple, qn_0, qn_1, qn_2, qn_3, qn_4, qn_5, qn_6, qn_7, qn_8, qn_9, qn_10, qn_11, qn_12, qn_13, qn_14, qn_15, qn_16, qn_19, qn_20, qn_21, qn_24, qn_27, qn_29, qn_30, qn_31, qn_32, qn_33, qn_39, qn_40, qn_42, qn_48, qn_50, qn_54, qn_57, qn_59, qn_60, qn_63, qn_72, qn_96, qn_97, qn_99, qn_100, qn_122, qn_128, qn_150, qn_192, qn_199, qn_200, qn_201, qn_236, qn_240, qn_300, qn_998, qn_999, qn_1000, qn_2000, qn_2230, qn_9999, qn_10000, qn_114602, qn_180392, qn_664272, qn_1000000, qn_3379448, qn_10256063, qv_s, qv_n, qo_0_0, qo_0_1, qo_0_2, qo_0_3, qo_0_4, qo_0_5, qo_0_6, qo_0_7, qp_0_7, qo_1_0, qo_1_1, qo_1_2, qo_1_3, qo_1_4, qo_1_5, qo_1_6, qo_1_7, qp_1_7, qo_1_8, qp_1_8, qo_1_9, qp_1_9, qo_1_10, qp_1_10, qo_1_11, qp_1_11, qo_1_12, qp_1_12, qo_1_13, qp_1_13, qo_6_0, qo_6_1, qo_6_2, qo_6_3, qo_6_4, qp_6_4, qo_6_5, qp_6_5, qo_11_0, qo_11_1, qo_11_2, qo_11_3, qp_11_3, qo_15_0, qo_15_1, qo_15_2, qo_15_3, qp_15_3, qo_129_0, qo_129_1, qp_129_1, qo_129_2, qp_129_2, qo_129_3, qp_129_3, qo_129_4, qp_129_4, qo_129_5, qp_129_5, qo_129_6, qp_129_6, qo_129_7, qp_129_7, qo_129_8, qp_129_8, qo_131_0, qo_131_1, qo_131_2, qo_131_3, qo_131_4, qo_131_5, qo_131_6, qp_131_6, qo_131_7, qo_131_8, qp_131_8, qo_131_9, qp_131_9, qo_131_10, qp_131_10, qo_152_0, qo_152_1, qo_155_0, qo_155_1, qo_155_2, qo_159_0, qo_159_1, qo_159_2, qo_159_3, qp_159_3, qo_159_4, qp_159_4, qf_site_0, qf_sitew_0, qf_site_1, qf_sitew_1, qf_site_2, qf_sitew_2, qf_site_3, qf_sitew_3, qf_site_4, qf_sitew_4, qf_site_5, qf_sitew_5, qf_site_6, qf_sitew_6, qf_site_7, qf_sitew_7, qf_site_8, qf_sitew_8, qf_site_9, qf_sitew_9, qf_site_10, qf_site_11, qf_plug_0, qf_plugw_0, qf_plug_1, qf_plugw_1, qf_plug_2, qf_plugw_2, qf_plug_3, qf_plugw_3, qf_plug_4, qf_plugw_4, qf_plug_5, qf_plugw_5, qf_car_0, qf_carw_0, qf_car_1, qf_carw_1, qf_car_2, qf_carw_2, qf_car_3, qf_carw_3, qf_car_4, qf_carw_4, qf_car_5, qf_carw_5, qf_car_6, qf_carw_6, qf_car_7, qf_carw_7, qf_car_8, qf_carw_8, qf_car_9, qf_carw_9, qf_car_10, qf_carw_10, qf_car_11, qf_carw_11, qf_car_12, qf_carw_12, qf_car_13, qf_carw_13, qf_car_14, qf_carw_14, qa_5, qa_7, qa_8, qa_9, qa_10, qa_12, qa_13, qa_14, qa_16, qa_17, qa_18, qa_130, qa_132, qa_133, qa_134, qa_135, qa_151, qa_153, qa_154, qa_156, qa_157, qa_158, qa_177, qa_queue, qa_splug, qa_arr, qa_chg, qa_best, qa_sco, qw_5, qw_7, qw_8, qw_9, qw_10, qw_12, qw_13, qw_14, qw_16, qw_17, qw_18, qw_130, qw_132, qw_133, qw_134, qw_135, qw_151, qw_153, qw_154, qw_156, qw_157, qw_158, qw_177, qw_queue, qw_splug, qw_arr, qw_chg, qw_best, qw_sco, qr_site, qr_plug, qr_car, qr_arr, qr_chg, qr_best, qr_sco, qs_site, qs_plug, qs_car, qc_0, qc_1, qc_6, qc_11, qc_15, qc_129, qc_131, qc_152, qc_155, qc_159, f_X11_car, b_X11_car, na]
    · intro h hh; refine ⟨h, ?_, hh, fun _ _ => rfl⟩
      simp -implicitDefEqProofs (disch := omega) [zq_r1, ze_c, ze_li, zq_li1, ze_lr, zq_lr1, zq_lr2, ze_ll, zq_ll1, ze_u, zq_u1, ze_b, zq_b1, zq_b3, ze_fi, ze_fd, ze_fl, ze_fs, ze_gi, ze_gl, ze_gn, ze_gf, zq_gf1, ze_al, zq_al1, zq_al3, ze_aa, zq_aa1, zq_aa3, ze_ev0, ze_ev, zq_ev1, zq_ev3, ze_ca, zq_ca1, ze_xc, zq_xc1, zq_xc3, ze_ck, zq_ck1, ze_rc, zq_rc1, ze_c1, zq_c11, ze_c2, zq_c21, zq_c23, ze_and, zq_andt, zq_andf, ze_or, zq_ort, zq_orf, ze_not, zq_not1, ze_it, zq_itt, zq_itf, zq_itd, ze_skip, ze_brk, ze_cnt, ze_ret0, ze_seq, zq_seq0, zq_seq1, zq_seq2, zq_seq3, ze_si, zq_si1, ze_sr, zq_sr1, ze_inc, zq_inc1, ze_ok0, ze_okS, zq_oki, zq_okr, zq_oka, zq_okf, zq_h1, ze_pf, zq_pf1, zq_pf3, ze_pfo, zq_pfo1, zq_pfo21, zq_pfo31, zq_pfo41, ze_as, zq_as1, zq_as21, zq_as31, ze_aso, zq_aso1, zq_aso21, zq_aso31, zq_aso41, zq_aso51, ze_if, zq_ift, zq_iff, zq_ifd, ze_ret, zq_ret1, ze_pk0, ze_pk1, ze_sw, zq_sw1, ze_cps, zq_cps1, ze_one, zq_o1t, zq_o1f, zq_o20, zq_o22, zq_o21, zq_o23, zq_o30, zq_len1, zq_pad0, zq_padS, ze_sem, ze_fl0, ze_flI, ze_flR, ze_flA, ze_flL, zq_semi, zq_semv, zq_semb0, zq_semb1, List.getElem?_cons_zero, List.getElem?_cons_succ, List.set_cons_zero, List.set_cons_succ, List.length_cons, List.length_nil, List.cons_append, List.nil_append, q_outT, q_outF, q_inT, q_inF, qn_an, qn_ltt, qn_ltf, qn_let, qn_lef, qn_eqt, qn_eqf, qn_sub, nI_add, pk_mul, qn_div, qn_modN, qn_nn, qn_np, qn_pn, qn_nlt, qn_pln, qn_nle, qn_ple, qn_0, qn_1, qn_2, qn_3, qn_4, qn_5, qn_6, qn_7, qn_8, qn_9, qn_10, qn_11, qn_12, qn_13, qn_14, qn_15, qn_16, qn_19, qn_20, qn_21, qn_24, qn_27, qn_29, qn_30, qn_31, qn_32, qn_33, qn_39, qn_40, qn_42, qn_48, qn_50, qn_54, qn_57, qn_59, qn_60, qn_63, qn_72, qn_96, qn_97, qn_99, qn_100, qn_122, qn_128, qn_150, qn_192, qn_199, qn_200, qn_201, qn_236, qn_240, qn_300, qn_998, qn_999, qn_1000, qn_2000, qn_2230, qn_9999, qn_10000, qn_114602, qn_180392, qn_664272, qn_1000000, qn_3379448, qn_10256063, qv_s, qv_n, qo_178_0, qo_178_1, qo_178_2, qo_178_3, qo_178_4, qo_178_5, qo_178_6, qo_178_7, qo_178_8, qo_178_9, qo_178_10, qo_178_11, qo_178_12, qo_178_13, qo_178_14, qp_178_14, qo_178_15, qp_178_15, qo_178_16, qp_178_16, qo_178_17, qo_178_18, qp_178_18, qo_178_19, qp_178_19, qo_178_20, qp_178_20, qo_178_21, qp_178_21, qo_178_22, qp_178_22, qo_178_23, qp_178_23, qo_178_24, qo_178_25, qo_178_26, qo_178_27, qo_178_28, qo_178_29, qo_178_30, qp_178_30, qo_178_31, qo_178_32, qp_178_32, qa_179, qa_180, qa_181, qa_182, qa_183, qa_184, qa_185, qa_186, qa_187, qa_188, qa_189, qa_190, qa_191, qa_192, qa_193, qa_194, qa_195, qa_196, qa_197, qa_198, qa_199, qa_200, qw_179, qw_180, qw_181, qw_182, qw_183, qw_184, qw_185, qw_186, qw_187, qw_188, qw_189, qw_190, qw_191, qw_192, qw_193, qw_194, qw_195, qw_196, qw_197, qw_198, qw_199, qw_200, qc_178, q_getN, q_putN, q_moreN, f_X12_car, b_X12_car, nb]
