-- charging at a site: the reference's loop
set_option maxRecDepth 4000
set_option maxHeartbeats 400000
def qchR (G : Nat → Nat) (W : qW) (p : Nat) : qW :=
  match W.pcar p with
  | none => W
  | some c => if 0 < G p then ((W.up 28 c (W.chg c + G p)).up 34 c (W.got c + G p)).up 36 c (W.pays c + G p * qpr W) else W
def qsml (G : Nat → Nat) (l : List Nat) : Nat := l.foldl (fun x p => x + G p) 0
theorem qchR_inv {W V : qW} {G : Nat → Nat} {p : Nat} (h : V.2 = W.2 ∧ qpr V = qpr W ∧ V.nP = W.nP ∧ V.now = W.now ∧ V.nC = W.nC) : (qchR G V p).2 = W.2 ∧ qpr (qchR G V p) = qpr W ∧ (qchR G V p).nP = W.nP ∧ (qchR G V p).now = W.now ∧ (qchR G V p).nC = W.nC := by
  rw [← h.1, ← h.2.1, ← h.2.2.1, ← h.2.2.2.1, ← h.2.2.2.2]
  unfold qchR
  split
  · exact ⟨rfl, rfl, rfl, rfl, rfl⟩
  · split
    · exact ⟨rfl, rfl, rfl, rfl, rfl⟩
    · exact ⟨rfl, rfl, rfl, rfl, rfl⟩
theorem qR_charge {h : zk_H} {W : qW} (hf : qWf W) (hh : qR (fun r => h (179 + r)) W) {s : Nat} {G : Nat → Nat} (hG : ∀ p, p < W.nP → h 195 p = nI (G p)) (hGl : ∀ p, G p ≤ 1000) (hcar : ∀ p, 0 < G p → ∃ c, W.pcar p = some c) (x2 : Int32) (x5 : Value) : ∃ u h1, zk_loop (c_X12_tick_1 SHP) (b_X12_tick_1 SHP) (u_X12_tick_1 SHP) 1000 [.ref 178, .int (nI s), .int x2, .int (nI 0), .int (nI 0), x5] h = some (0, .null, [.ref 178, .int (nI s), .int x2, .int (nI (qsml G (List.range W.nP))), .int (nI W.nP), u], h1) ∧ qR (fun r => h1 (179 + r)) ((List.range W.nP).foldl (qchR G) W) ∧ (∀ k i, k ≠ 183 ∨ i % 16 = 15 → h1 k i = h k i) := by
  have hP := hf.hP
  have hC := hf.hC
  have l1 := q_for (c := c_X12_tick_1 SHP) (b := b_X12_tick_1 SHP) (u := u_X12_tick_1 SHP) (P := fun p e g => (∃ u, e = [.ref 178, .int (nI s), .int x2, .int (nI (qsml G ((List.range W.nP).take p))), .int (nI p), u]) ∧ qR (fun r => g (179 + r)) (((List.range W.nP).take p).foldl (qchR G) W) ∧ (∀ k i, k ≠ 183 ∨ i % 16 = 15 → g k i = h k i)) W.nP (by
      rintro p e g hp ⟨⟨u, rfl⟩, hg, fr⟩
      have hI := qfl_inv (I := fun V => V.2 = W.2 ∧ qpr V = qpr W ∧ V.nP = W.nP ∧ V.now = W.now ∧ V.nC = W.nC) (st := qchR G) (l := List.range W.nP) ⟨rfl, rfl, rfl, rfl, rfl⟩ (fun V p hp hI => qchR_inv hI) p
      rw [qfl_take _ _ (qrg hp)]
      have hsm : qsml G ((List.range W.nP).take (p + 1)) = qsml G ((List.range W.nP).take p) + G p := by unfold qsml; rw [qfs_take _ _ (qrg hp)]
      rw [hsm]
      generalize qsml G ((List.range W.nP).take p) = sm
      generalize ((List.range W.nP).take p).foldl (qchR G) W = V at hg hI ⊢
      obtain ⟨v2, vp, vl, vn, vc⟩ := hI
      have hnow : V.now ≤ 2000 := by rw [vn]; exact hf.now
      have k0 : g 179 2 = nI W.nP := by rw [← vl]; exact hg.nP
      have k3 : g 195 p = nI (G p) := by rw [fr 195 p (by omega)]; exact hG p hp
      have hGp := hGl p
      unfold qchR
      by_cases hz : 0 < G p
      · obtain ⟨c, hpW⟩ := hcar p hz
        have hpc : V.pcar p = some c := by rw [← hpW]; unfold qW.pcar; rw [v2]
        have hcw := (hf.carOk p c hpW).1
        have hc12 : c < 12 := by omega
        have hcV : c < V.nC := by omega
        have k2 : g 182 (6 * p + 3) = _ := hg.pcar p (by omega)
        rw [hpc] at k2
        rw [hpc]
        simp only [if_pos hz]
        have k4 : g 183 (16 * c + 4) = _ := hg.chg c hcV
        have k5 : g 183 (16 * c + 8) = _ := hg.got c hcV
        have k6 : g 183 (16 * c + 11) = _ := hg.pays c hcV
        have k7 : g 179 0 = _ := hg.now
        have k8 : g 184 (V.now / 12 % 24) = nI (qpr V) := hg.price (V.now / 12 % 24) (by omega)
        have g3 := qRu_pays (qRu_got (qRu_chg hg c (V.chg c + G p)) c (V.got c + G p)) c (V.pays c + G p * qpr V)
        refine ⟨[.ref 178, .int (nI s), .int x2, .int (nI (sm + G p)), .int (nI (p + 1)), .int (nI c)], _, ?_, ⟨_, rfl⟩, g3, ?_⟩
        · simp -implicitDefEqProofs (disch := omega) [zq_r1, ze_c, ze_li, zq_li1, ze_lr, zq_lr1, zq_lr2, ze_ll, zq_ll1, ze_u, zq_u1, ze_b, zq_b1, zq_b3, ze_fi, ze_fd, ze_fl, ze_fs, ze_gi, ze_gl, ze_gn, ze_gf, zq_gf1, ze_al, zq_al1, zq_al3, ze_aa, zq_aa1, zq_aa3, ze_ev0, ze_ev, zq_ev1, zq_ev3, ze_ca, zq_ca1, ze_xc, zq_xc1, zq_xc3, ze_ck, zq_ck1, ze_rc, zq_rc1, ze_c1, zq_c11, ze_c2, zq_c21, zq_c23, ze_and, zq_andt, zq_andf, ze_or, zq_ort, zq_orf, ze_not, zq_not1, ze_it, zq_itt, zq_itf, zq_itd, ze_skip, ze_brk, ze_cnt, ze_ret0, ze_seq, zq_seq0, zq_seq1, zq_seq2, zq_seq3, ze_si, zq_si1, ze_sr, zq_sr1, ze_inc, zq_inc1, ze_ok0, ze_okS, zq_oki, zq_okr, zq_oka, zq_okf, zq_h1, ze_pf, zq_pf1, zq_pf3, ze_pfo, zq_pfo1, zq_pfo21, zq_pfo31, zq_pfo41, ze_as, zq_as1, zq_as21, zq_as31, ze_aso, zq_aso1, zq_aso21, zq_aso31, zq_aso41, zq_aso51, ze_if, zq_ift, zq_iff, zq_ifd, ze_ret, zq_ret1, ze_pk0, ze_pk1, ze_sw, zq_sw1, ze_cps, zq_cps1, ze_one, zq_o1t, zq_o1f, zq_o20, zq_o22, zq_o21, zq_o23, zq_o30, zq_len1, zq_pad0, zq_padS, ze_sem, ze_fl0, ze_flI, ze_flR, ze_flA, ze_flL, zq_semi, zq_semv, zq_semb0, zq_semb1, List.getElem?_cons_zero, List.getElem?_cons_succ, List.set_cons_zero, List.set_cons_succ, List.length_cons, List.length_nil, List.cons_append, List.nil_append, q_outT, q_outF, q_inT, q_inF, qn_an, qn_ltt, qn_ltf, qn_let, qn_lef, qn_eqt, qn_eqf, qn_sub, nI_add, pk_mul, qn_div, qn_modN, qn_nn, qn_np, qn_pn, qn_nlt, qn_pln, qn_nle, qn_ple, qn_0, qn_1, qn_2, qn_3, qn_4, qn_5, qn_6, qn_7, qn_8, qn_9, qn_10, qn_11, qn_12, qn_13, qn_14, qn_15, qn_16, qn_19, qn_20, qn_21, qn_24, qn_27, qn_29, qn_30, qn_31, qn_32, qn_33, qn_39, qn_40, qn_42, qn_48, qn_50, qn_54, qn_57, qn_59, qn_60, qn_63, qn_72, qn_96, qn_97, qn_99, qn_100, qn_122, qn_128, qn_150, qn_192, qn_199, qn_200, qn_201, qn_236, qn_240, qn_300, qn_998, qn_999, qn_1000, qn_2000, qn_2230, qn_9999, qn_10000, qn_114602, qn_180392, qn_664272, qn_1000000, qn_3379448, qn_10256063, qv_s, qv_n, qo_178_0, qo_178_1, qo_178_2, qo_178_3, qo_178_4, qo_178_5, qo_178_6, qo_178_7, qo_178_8, qo_178_9, qo_178_10, qo_178_11, qo_178_12, qo_178_13, qo_178_14, qp_178_14, qo_178_15, qp_178_15, qo_178_16, qp_178_16, qo_178_17, qo_178_18, qp_178_18, qo_178_19, qp_178_19, qo_178_20, qp_178_20, qo_178_21, qp_178_21, qo_178_22, qp_178_22, qo_178_23, qp_178_23, qo_178_24, qo_178_25, qo_178_26, qo_178_27, qo_178_28, qo_178_29, qo_178_30, qp_178_30, qo_178_31, qo_178_32, qp_178_32, qa_179, qa_180, qa_181, qa_182, qa_183, qa_184, qa_185, qa_186, qa_187, qa_188, qa_189, qa_190, qa_191, qa_192, qa_193, qa_194, qa_195, qa_196, qa_197, qa_198, qa_199, qa_200, qw_179, qw_180, qw_181, qw_182, qw_183, qw_184, qw_185, qw_186, qw_187, qw_188, qw_189, qw_190, qw_191, qw_192, qw_193, qw_194, qw_195, qw_196, qw_197, qw_198, qw_199, qw_200, qc_178, q_getN, q_putN, q_moreN, c_X12_tick_1, b_X12_tick_1, u_X12_tick_1, k0, k2, k3, k4, k5, k6, k7, k8, qoc, q_moreN]
        · intro k i hk
          rw [qv_n (by omega), qv_n (by omega), qv_n (by omega)]; exact fr k i hk
      · have e9 : (match V.pcar p with | none => V | some c => if 0 < G p then ((V.up 28 c (V.chg c + G p)).up 34 c (V.got c + G p)).up 36 c (V.pays c + G p * qpr V) else V) = V := by
          split
          · rfl
          · rw [if_neg hz]
        have hz0 : G p = 0 := by omega
        rw [e9]
        rw [hz0] at k3 ⊢
        refine ⟨[.ref 178, .int (nI s), .int x2, .int (nI sm), .int (nI (p + 1)), u], g, ?_, ⟨_, rfl⟩, hg, fr⟩
        simp -implicitDefEqProofs (disch := omega) [zq_r1, ze_c, ze_li, zq_li1, ze_lr, zq_lr1, zq_lr2, ze_ll, zq_ll1, ze_u, zq_u1, ze_b, zq_b1, zq_b3, ze_fi, ze_fd, ze_fl, ze_fs, ze_gi, ze_gl, ze_gn, ze_gf, zq_gf1, ze_al, zq_al1, zq_al3, ze_aa, zq_aa1, zq_aa3, ze_ev0, ze_ev, zq_ev1, zq_ev3, ze_ca, zq_ca1, ze_xc, zq_xc1, zq_xc3, ze_ck, zq_ck1, ze_rc, zq_rc1, ze_c1, zq_c11, ze_c2, zq_c21, zq_c23, ze_and, zq_andt, zq_andf, ze_or, zq_ort, zq_orf, ze_not, zq_not1, ze_it, zq_itt, zq_itf, zq_itd, ze_skip, ze_brk, ze_cnt, ze_ret0, ze_seq, zq_seq0, zq_seq1, zq_seq2, zq_seq3, ze_si, zq_si1, ze_sr, zq_sr1, ze_inc, zq_inc1, ze_ok0, ze_okS, zq_oki, zq_okr, zq_oka, zq_okf, zq_h1, ze_pf, zq_pf1, zq_pf3, ze_pfo, zq_pfo1, zq_pfo21, zq_pfo31, zq_pfo41, ze_as, zq_as1, zq_as21, zq_as31, ze_aso, zq_aso1, zq_aso21, zq_aso31, zq_aso41, zq_aso51, ze_if, zq_ift, zq_iff, zq_ifd, ze_ret, zq_ret1, ze_pk0, ze_pk1, ze_sw, zq_sw1, ze_cps, zq_cps1, ze_one, zq_o1t, zq_o1f, zq_o20, zq_o22, zq_o21, zq_o23, zq_o30, zq_len1, zq_pad0, zq_padS, ze_sem, ze_fl0, ze_flI, ze_flR, ze_flA, ze_flL, zq_semi, zq_semv, zq_semb0, zq_semb1, List.getElem?_cons_zero, List.getElem?_cons_succ, List.set_cons_zero, List.set_cons_succ, List.length_cons, List.length_nil, List.cons_append, List.nil_append, q_outT, q_outF, q_inT, q_inF, qn_an, qn_ltt, qn_ltf, qn_let, qn_lef, qn_eqt, qn_eqf, qn_sub, nI_add, pk_mul, qn_div, qn_modN, qn_nn, qn_np, qn_pn, qn_nlt, qn_pln, qn_nle, qn_ple, qn_0, qn_1, qn_2, qn_3, qn_4, qn_5, qn_6, qn_7, qn_8, qn_9, qn_10, qn_11, qn_12, qn_13, qn_14, qn_15, qn_16, qn_19, qn_20, qn_21, qn_24, qn_27, qn_29, qn_30, qn_31, qn_32, qn_33, qn_39, qn_40, qn_42, qn_48, qn_50, qn_54, qn_57, qn_59, qn_60, qn_63, qn_72, qn_96, qn_97, qn_99, qn_100, qn_122, qn_128, qn_150, qn_192, qn_199, qn_200, qn_201, qn_236, qn_240, qn_300, qn_998, qn_999, qn_1000, qn_2000, qn_2230, qn_9999, qn_10000, qn_114602, qn_180392, qn_664272, qn_1000000, qn_3379448, qn_10256063, qv_s, qv_n, qo_178_0, qo_178_1, qo_178_2, qo_178_3, qo_178_4, qo_178_5, qo_178_6, qo_178_7, qo_178_8, qo_178_9, qo_178_10, qo_178_11, qo_178_12, qo_178_13, qo_178_14, qp_178_14, qo_178_15, qp_178_15, qo_178_16, qp_178_16, qo_178_17, qo_178_18, qp_178_18, qo_178_19, qp_178_19, qo_178_20, qp_178_20, qo_178_21, qp_178_21, qo_178_22, qp_178_22, qo_178_23, qp_178_23, qo_178_24, qo_178_25, qo_178_26, qo_178_27, qo_178_28, qo_178_29, qo_178_30, qp_178_30, qo_178_31, qo_178_32, qp_178_32, qa_179, qa_180, qa_181, qa_182, qa_183, qa_184, qa_185, qa_186, qa_187, qa_188, qa_189, qa_190, qa_191, qa_192, qa_193, qa_194, qa_195, qa_196, qa_197, qa_198, qa_199, qa_200, qw_179, qw_180, qw_181, qw_182, qw_183, qw_184, qw_185, qw_186, qw_187, qw_188, qw_189, qw_190, qw_191, qw_192, qw_193, qw_194, qw_195, qw_196, qw_197, qw_198, qw_199, qw_200, qc_178, q_getN, q_putN, q_moreN, c_X12_tick_1, b_X12_tick_1, u_X12_tick_1, k0, k3]) (by
      rintro e g ⟨⟨u, rfl⟩, hg, fr⟩
      have k0 : g 179 2 = nI W.nP := by rw [fr 179 2 (by omega)]; exact hh.nP
      simp -implicitDefEqProofs (disch := omega) [zq_r1, ze_c, ze_li, zq_li1, ze_lr, zq_lr1, zq_lr2, ze_ll, zq_ll1, ze_u, zq_u1, ze_b, zq_b1, zq_b3, ze_fi, ze_fd, ze_fl, ze_fs, ze_gi, ze_gl, ze_gn, ze_gf, zq_gf1, ze_al, zq_al1, zq_al3, ze_aa, zq_aa1, zq_aa3, ze_ev0, ze_ev, zq_ev1, zq_ev3, ze_ca, zq_ca1, ze_xc, zq_xc1, zq_xc3, ze_ck, zq_ck1, ze_rc, zq_rc1, ze_c1, zq_c11, ze_c2, zq_c21, zq_c23, ze_and, zq_andt, zq_andf, ze_or, zq_ort, zq_orf, ze_not, zq_not1, ze_it, zq_itt, zq_itf, zq_itd, ze_skip, ze_brk, ze_cnt, ze_ret0, ze_seq, zq_seq0, zq_seq1, zq_seq2, zq_seq3, ze_si, zq_si1, ze_sr, zq_sr1, ze_inc, zq_inc1, ze_ok0, ze_okS, zq_oki, zq_okr, zq_oka, zq_okf, zq_h1, ze_pf, zq_pf1, zq_pf3, ze_pfo, zq_pfo1, zq_pfo21, zq_pfo31, zq_pfo41, ze_as, zq_as1, zq_as21, zq_as31, ze_aso, zq_aso1, zq_aso21, zq_aso31, zq_aso41, zq_aso51, ze_if, zq_ift, zq_iff, zq_ifd, ze_ret, zq_ret1, ze_pk0, ze_pk1, ze_sw, zq_sw1, ze_cps, zq_cps1, ze_one, zq_o1t, zq_o1f, zq_o20, zq_o22, zq_o21, zq_o23, zq_o30, zq_len1, zq_pad0, zq_padS, ze_sem, ze_fl0, ze_flI, ze_flR, ze_flA, ze_flL, zq_semi, zq_semv, zq_semb0, zq_semb1, List.getElem?_cons_zero, List.getElem?_cons_succ, List.set_cons_zero, List.set_cons_succ, List.length_cons, List.length_nil, List.cons_append, List.nil_append, q_outT, q_outF, q_inT, q_inF, qn_an, qn_ltt, qn_ltf, qn_let, qn_lef, qn_eqt, qn_eqf, qn_sub, nI_add, pk_mul, qn_div, qn_modN, qn_nn, qn_np, qn_pn, qn_nlt, qn_pln, qn_nle, qn_ple, qn_0, qn_1, qn_2, qn_3, qn_4, qn_5, qn_6, qn_7, qn_8, qn_9, qn_10, qn_11, qn_12, qn_13, qn_14, qn_15, qn_16, qn_19, qn_20, qn_21, qn_24, qn_27, qn_29, qn_30, qn_31, qn_32, qn_33, qn_39, qn_40, qn_42, qn_48, qn_50, qn_54, qn_57, qn_59, qn_60, qn_63, qn_72, qn_96, qn_97, qn_99, qn_100, qn_122, qn_128, qn_150, qn_192, qn_199, qn_200, qn_201, qn_236, qn_240, qn_300, qn_998, qn_999, qn_1000, qn_2000, qn_2230, qn_9999, qn_10000, qn_114602, qn_180392, qn_664272, qn_1000000, qn_3379448, qn_10256063, qv_s, qv_n, qo_178_0, qo_178_1, qo_178_2, qo_178_3, qo_178_4, qo_178_5, qo_178_6, qo_178_7, qo_178_8, qo_178_9, qo_178_10, qo_178_11, qo_178_12, qo_178_13, qo_178_14, qp_178_14, qo_178_15, qp_178_15, qo_178_16, qp_178_16, qo_178_17, qo_178_18, qp_178_18, qo_178_19, qp_178_19, qo_178_20, qp_178_20, qo_178_21, qp_178_21, qo_178_22, qp_178_22, qo_178_23, qp_178_23, qo_178_24, qo_178_25, qo_178_26, qo_178_27, qo_178_28, qo_178_29, qo_178_30, qp_178_30, qo_178_31, qo_178_32, qp_178_32, qa_179, qa_180, qa_181, qa_182, qa_183, qa_184, qa_185, qa_186, qa_187, qa_188, qa_189, qa_190, qa_191, qa_192, qa_193, qa_194, qa_195, qa_196, qa_197, qa_198, qa_199, qa_200, qw_179, qw_180, qw_181, qw_182, qw_183, qw_184, qw_185, qw_186, qw_187, qw_188, qw_189, qw_190, qw_191, qw_192, qw_193, qw_194, qw_195, qw_196, qw_197, qw_198, qw_199, qw_200, qc_178, q_getN, q_putN, q_moreN, c_X12_tick_1, b_X12_tick_1, u_X12_tick_1, k0]) (f := 1000) (e := [.ref 178, .int (nI s), .int x2, .int (nI 0), .int (nI 0), x5]) (h := h) (by omega) ⟨⟨x5, rfl⟩, hh, fun _ _ _ => rfl⟩
  obtain ⟨e1, h1, z1, ⟨u, rfl⟩, hg, fr⟩ := l1
  rw [List.take_of_length_le (by rw [List.length_range]; exact Nat.le_refl _)] at z1 hg
  exact ⟨u, h1, z1, hg, fr⟩
