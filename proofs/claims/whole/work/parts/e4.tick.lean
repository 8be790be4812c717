-- a tick at a site: both sides
set_option maxRecDepth 4000
set_option maxHeartbeats 400000
theorem qC_tick {h : zk_H} {W : qW} (hf : qWf W) (hh : qC h W) {s : Nat} (hs : s < W.nS) (u0 v0 w0 : Value) : ∃ v w x h1, zk_one (c_X7_goOneTick_1 SHP) (b_X7_goOneTick_1 SHP) (u_X7_goOneTick_1 SHP) [.ref 152, .ref 1, .int (nI s), u0, v0, w0] h = some (.inr ([.ref 152, .ref 1, .int (nI (s + 1)), v, w, x], h1)) ∧ qC h1 ((qT6 s W).up 0 6 (W.given + qsm s W)) ∧ ∀ k, k = 0 ∨ 64 < k → k ≠ 153 → k ≠ 154 → h1 k = h k := by
  have hS := hf.hS
  have kS := hh.nS
  obtain ⟨w1, t1⟩ := qT1_ok hf hs
  obtain ⟨w2, t2⟩ := qT2_ok hf hs
  obtain ⟨w3, o3⟩ := qT3_t hf hs
  have t3 := (qT3_ok hf hs).2
  obtain ⟨w4, t4, p4⟩ := qT4_ok hf hs
  obtain ⟨w5, t5⟩ := qT5_ok hf hs
  obtain ⟨h1, e1, q1, f1⟩ := qC_takes hf hh hs
  have q1 : qC h1 (qT1 s W) := q1
  obtain ⟨h2, e2, q2, f2⟩ := qC_fails w1 q1 (s := s) (by rw [t1.nS]; exact hs)
  have q2 : qC h2 (qT2 s W) := q2
  obtain ⟨hn, en, qn, fn⟩ := qC_note w2 q2 (s := s) (by rw [t2.nS]; exact hs)
  have qn : qC hn (qT3 s W) := qn
  have hs3 : s < (qT3 s W).nS := by rw [t3.nS]; exact hs
  obtain ⟨h3, e3, q3, k3, f3⟩ := qC_ask w3 qn hs3
  have e3 : f_X7_askAll SHP [.ref 152, .ref 1, .ref (19 + 3 * s)] hn = some (.int (nI (qmy (qT3 s W) s)), h3) := e3
  have kf := q3.first s (by omega)
  have hfl := w3.first s
  have share : ∃ h4, (((qT3 s W).first s = 0 ∧ f_X7_shareEvenly SHP [.ref 152, .ref (19 + 3 * s), .int (nI (qmy (qT3 s W) s))] h3 = some (.null, h4)) ∨ ((qT3 s W).first s = 1 ∧ f_X7_shareByComing SHP [.ref 152, .ref 1, .ref (19 + 3 * s)] h3 = some (.null, h4))) ∧ (∀ p, p ∈ (qT3 s W).pl s → h4 154 p = nI (qG (qT3 s W) s p)) ∧ ∀ k, k ≠ 154 → h4 k = h3 k := by
    by_cases hz : (qT3 s W).first s = 0
    · obtain ⟨h4, e4, k4, f4⟩ := qC_even w3 q3 hs3 k3 (qask_1000 w3)
      refine ⟨h4, Or.inl ⟨hz, e4⟩, ?_, f4⟩
      intro p hp
      unfold qG; rw [if_pos hz]; exact k4 p hp
    · obtain ⟨h4, e4, k4, f4⟩ := qC_first w3 q3 hs3 k3 (qask_1000 w3) (fun p hp => qask_car hp)
      refine ⟨h4, Or.inr ⟨by omega, e4⟩, ?_, f4⟩
      intro p hp
      unfold qG; rw [if_neg hz]; exact k4 p hp
  obtain ⟨h4, e4, k4, f4⟩ := share
  have q4 : qC h4 (qT3 s W) := qC_of q3 (fun c h1 h2 => f4 c (by omega))
  obtain ⟨h5, e5, q5, f5⟩ := qC_charge w3 q4 hs3 k4
  have hgo := qG_ok w3 s
  rw [qchg_C hgo.1, t3.given] at q5
  have q5 : qC h5 ((qT4 s W).up 0 6 (W.given + qsm s W)) := q5
  have epl4 : ((qT4 s W).up 0 6 (W.given + qsm s W)).pl s = (qT3 s W).pl s := by
    show (qT4 s W).pl s = _
    exact (qchg_sta _ _ _).pl s
  obtain ⟨h6, e6, q6, f6⟩ := qC_ends (W := (qT4 s W).up 0 6 (W.given + qsm s W)) (s := s) (A := qask (qT3 s W)) (qWf_given w4) q5 (by show s < (qT4 s W).nS; rw [t4.nS]; exact hs) (by
    intro p hp
    rw [epl4] at hp
    rw [f5 153 (by omega), f4 153 (by omega)]; exact (k3 p hp).1) (qask_1000 w3)
  have e10 : qfold (qend (qask (qT3 s W)) s) ((qT4 s W).up 0 6 (W.given + qsm s W)) s ((qT4 s W).up 0 6 (W.given + qsm s W)).nP = (qT5 s W).up 0 6 (W.given + qsm s W) := qv_fold (fun V p => qv_end _ V _ s p) (qT4 s W) s (qT4 s W).nP
  rw [e10] at q6
  obtain ⟨h7, z7, q7, f7⟩ := qC_waits (W := (qT5 s W).up 0 6 (W.given + qsm s W)) (s := s) (qWf_given w5) q6 (by show s < (qT5 s W).nS; rw [t5.nS]; exact hs) (nI s) (nI (qmy (qT3 s W) s))
  rw [qv_waits] at q7
  refine ⟨.ref (19 + 3 * s), .int (nI (qmy (qT3 s W) s)), .int (nI (((qT5 s W).up 0 6 (W.given + qsm s W)).q s).length), h7, ?_, q7, ?_⟩
  · generalize (((qT5 s W).up 0 6 (W.given + qsm s W)).q s).length = n7 at z7 ⊢
    generalize qmy (qT3 s W) s = m at e3 e4 z7 ⊢
    rcases e4 with ⟨hz, e4⟩ | ⟨hz, e4⟩
    · rw [hz] at kf
      simp -implicitDefEqProofs (disch := omega) [zq_r1, ze_c, ze_li, zq_li1, ze_lr, zq_lr1, zq_lr2, ze_ll, zq_ll1, ze_u, zq_u1, ze_b, zq_b1, zq_b3, ze_fi, ze_fd, ze_fl, ze_fs, ze_gi, ze_gl, ze_gn, ze_gf, zq_gf1, ze_al, zq_al1, zq_al3, ze_aa, zq_aa1, zq_aa3, ze_ev0, ze_ev, zq_ev1, zq_ev3, ze_ca, zq_ca1, ze_xc, zq_xc1, zq_xc3, ze_ck, zq_ck1, ze_rc, zq_rc1, ze_c1, zq_c11, ze_c2, zq_c21, zq_c23, ze_and, zq_andt, zq_andf, ze_or, zq_ort, zq_orf, ze_not, zq_not1, ze_it, zq_itt, zq_itf, zq_itd, ze_skip, ze_brk, ze_cnt, ze_ret0, ze_seq, zq_seq0, zq_seq1, zq_seq2, zq_seq3, ze_si, zq_si1, ze_sr, zq_sr1, ze_inc, zq_inc1, ze_ok0, ze_okS, zq_oki, zq_okr, zq_oka, zq_okf, zq_h1, ze_pf, zq_pf1, zq_pf3, ze_pfo, zq_pfo1, zq_pfo21, zq_pfo31, zq_pfo41, ze_as, zq_as1, zq_as21, zq_as31, ze_aso, zq_aso1, zq_aso21, zq_aso31, zq_aso41, zq_aso51, ze_if, zq_ift, zq_iff, zq_ifd, ze_ret, zq_ret1, ze_pk0, ze_pk1, ze_sw, zq_sw1, ze_cps, zq_cps1, ze_one, zq_o1t, zq_o1f, zq_o20, zq_o22, zq_o21, zq_o23, zq_o30, zq_len1, zq_pad0, zq_padS, ze_sem, ze_fl0, ze_flI, ze_flR, ze_flA, ze_flL, zq_semi, zq_semv, zq_semb0, zq_semb1, List.getElem?_cons_zero, List.getElem?_cons_succ, List.set_cons_zero, List.set_cons_succ, List.length_cons, List.length_nil, List.cons_append, List.nil_append, q_outT, q_outF, q_inT, q_inF, qn_an, qn_ltt, qn_ltf, qn_let, qn_lef, qn_eqt, qn_eqf, qn_sub, nI_add, pk_mul, qn_div, qn_modN, qn_nn, qn_np, qn_pn, qn_nlt, qn_pln, qn_nle, qn_ple, qn_0, qn_1, qn_2, qn_3, qn_4, qn_5, qn_6, qn_7, qn_8, qn_9, qn_10, qn_11, qn_12, qn_13, qn_14, qn_15, qn_16, qn_19, qn_20, qn_21, qn_24, qn_27, qn_29, qn_30, qn_31, qn_32, qn_33, qn_39, qn_40, qn_42, qn_48, qn_50, qn_54, qn_57, qn_59, qn_60, qn_63, qn_72, qn_96, qn_97, qn_99, qn_100, qn_122, qn_128, qn_150, qn_192, qn_199, qn_200, qn_201, qn_236, qn_240, qn_300, qn_998, qn_999, qn_1000, qn_2000, qn_2230, qn_9999, qn_10000, qn_114602, qn_180392, qn_664272, qn_1000000, qn_3379448, qn_10256063, qv_s, qv_n, qo_0_0, qo_0_1, qo_0_2, qo_0_3, qo_0_4, qo_0_5, qo_0_6, qo_0_7, qp_0_7, qo_1_0, qo_1_1, qo_1_2, qo_1_3, qo_1_4, qo_1_5, qo_1_6, qo_1_7, qp_1_7, qo_1_8, qp_1_8, qo_1_9, qp_1_9, qo_1_10, qp_1_10, qo_1_11, qp_1_11, qo_1_12, qp_1_12, qo_1_13, qp_1_13, qo_6_0, qo_6_1, qo_6_2, qo_6_3, qo_6_4, qp_6_4, qo_6_5, qp_6_5, qo_11_0, qo_11_1, qo_11_2, qo_11_3, qp_11_3, qo_15_0, qo_15_1, qo_15_2, qo_15_3, qp_15_3, qo_129_0, qo_129_1, qp_129_1, qo_129_2, qp_129_2, qo_129_3, qp_129_3, qo_129_4, qp_129_4, qo_129_5, qp_129_5, qo_129_6, qp_129_6, qo_129_7, qp_129_7, qo_129_8, qp_129_8, qo_131_0, qo_131_1, qo_131_2, qo_131_3, qo_131_4, qo_131_5, qo_131_6, qp_131_6, qo_131_7, qo_131_8, qp_131_8, qo_131_9, qp_131_9, qo_131_10, qp_131_10, qo_152_0, qo_152_1, qo_155_0, qo_155_1, qo_155_2, qo_159_0, qo_159_1, qo_159_2, qo_159_3, qp_159_3, qo_159_4, qp_159_4, qf_site_0, qf_sitew_0, qf_site_1, qf_sitew_1, qf_site_2, qf_sitew_2, qf_site_3, qf_sitew_3, qf_site_4, qf_sitew_4, qf_site_5, qf_sitew_5, qf_site_6, qf_sitew_6, qf_site_7, qf_sitew_7, qf_site_8, qf_sitew_8, qf_site_9, qf_sitew_9, qf_site_10, qf_site_11, qf_plug_0, qf_plugw_0, qf_plug_1, qf_plugw_1, qf_plug_2, qf_plugw_2, qf_plug_3, qf_plugw_3, qf_plug_4, qf_plugw_4, qf_plug_5, qf_plugw_5, qf_car_0, qf_carw_0, qf_car_1, qf_carw_1, qf_car_2, qf_carw_2, qf_car_3, qf_carw_3, qf_car_4, qf_carw_4, qf_car_5, qf_carw_5, qf_car_6, qf_carw_6, qf_car_7, qf_carw_7, qf_car_8, qf_carw_8, qf_car_9, qf_carw_9, qf_car_10, qf_carw_10, qf_car_11, qf_carw_11, qf_car_12, qf_carw_12, qf_car_13, qf_carw_13, qf_car_14, qf_carw_14, qa_5, qa_7, qa_8, qa_9, qa_10, qa_12, qa_13, qa_14, qa_16, qa_17, qa_18, qa_130, qa_132, qa_133, qa_134, qa_135, qa_151, qa_153, qa_154, qa_156, qa_157, qa_158, qa_177, qa_queue, qa_splug, qa_arr, qa_chg, qa_best, qa_sco, qw_5, qw_7, qw_8, qw_9, qw_10, qw_12, qw_13, qw_14, qw_16, qw_17, qw_18, qw_130, qw_132, qw_133, qw_134, qw_135, qw_151, qw_153, qw_154, qw_156, qw_157, qw_158, qw_177, qw_queue, qw_splug, qw_arr, qw_chg, qw_best, qw_sco, qr_site, qr_plug, qr_car, qr_arr, qr_chg, qr_best, qr_sco, qs_site, qs_plug, qs_car, qc_0, qc_1, qc_6, qc_11, qc_15, qc_129, qc_131, qc_152, qc_155, qc_159, c_X7_goOneTick_1, b_X7_goOneTick_1, u_X7_goOneTick_1, kS, e1, e2, en, e3, kf, e4, e5, e6, z7]
    · rw [hz] at kf
      simp -implicitDefEqProofs (disch := omega) [zq_r1, ze_c, ze_li, zq_li1, ze_lr, zq_lr1, zq_lr2, ze_ll, zq_ll1, ze_u, zq_u1, ze_b, zq_b1, zq_b3, ze_fi, ze_fd, ze_fl, ze_fs, ze_gi, ze_gl, ze_gn, ze_gf, zq_gf1, ze_al, zq_al1, zq_al3, ze_aa, zq_aa1, zq_aa3, ze_ev0, ze_ev, zq_ev1, zq_ev3, ze_ca, zq_ca1, ze_xc, zq_xc1, zq_xc3, ze_ck, zq_ck1, ze_rc, zq_rc1, ze_c1, zq_c11, ze_c2, zq_c21, zq_c23, ze_and, zq_andt, zq_andf, ze_or, zq_ort, zq_orf, ze_not, zq_not1, ze_it, zq_itt, zq_itf, zq_itd, ze_skip, ze_brk, ze_cnt, ze_ret0, ze_seq, zq_seq0, zq_seq1, zq_seq2, zq_seq3, ze_si, zq_si1, ze_sr, zq_sr1, ze_inc, zq_inc1, ze_ok0, ze_okS, zq_oki, zq_okr, zq_oka, zq_okf, zq_h1, ze_pf, zq_pf1, zq_pf3, ze_pfo, zq_pfo1, zq_pfo21, zq_pfo31, zq_pfo41, ze_as, zq_as1, zq_as21, zq_as31, ze_aso, zq_aso1, zq_aso21, zq_aso31, zq_aso41, zq_aso51, ze_if, zq_ift, zq_iff, zq_ifd, ze_ret, zq_ret1, ze_pk0, ze_pk1, ze_sw, zq_sw1, ze_cps, zq_cps1, ze_one, zq_o1t, zq_o1f, zq_o20, zq_o22, zq_o21, zq_o23, zq_o30, zq_len1, zq_pad0, zq_padS, ze_sem, ze_fl0, ze_flI, ze_flR, ze_flA, ze_flL, zq_semi, zq_semv, zq_semb0, zq_semb1, List.getElem?_cons_zero, List.getElem?_cons_succ, List.set_cons_zero, List.set_cons_succ, List.length_cons, List.length_nil, List.cons_append, List.nil_append, q_outT, q_outF, q_inT, q_inF, qn_an, qn_ltt, qn_ltf, qn_let, qn_lef, qn_eqt, qn_eqf, qn_sub, nI_add, pk_mul, qn_div, qn_modN, qn_nn, qn_np, qn_pn, qn_nlt, qn_pln, qn_nle, qn_ple, qn_0, qn_1, qn_2, qn_3, qn_4, qn_5, qn_6, qn_7, qn_8, qn_9, qn_10, qn_11, qn_12, qn_13, qn_14, qn_15, qn_16, qn_19, qn_20, qn_21, qn_24, qn_27, qn_29, qn_30, qn_31, qn_32, qn_33, qn_39, qn_40, qn_42, qn_48, qn_50, qn_54, qn_57, qn_59, qn_60, qn_63, qn_72, qn_96, qn_97, qn_99, qn_100, qn_122, qn_128, qn_150, qn_192, qn_199, qn_200, qn_201, qn_236, qn_240, qn_300, qn_998, qn_999, qn_1000, qn_2000, qn_2230, qn_9999, qn_10000, qn_114602, qn_180392, qn_664272, qn_1000000, qn_3379448, qn_10256063, qv_s, qv_n, qo_0_0, qo_0_1, qo_0_2, qo_0_3, qo_0_4, qo_0_5, qo_0_6, qo_0_7, qp_0_7, qo_1_0, qo_1_1, qo_1_2, qo_1_3, qo_1_4, qo_1_5, qo_1_6, qo_1_7, qp_1_7, qo_1_8, qp_1_8, qo_1_9, qp_1_9, qo_1_10, qp_1_10, qo_1_11, qp_1_11, qo_1_12, qp_1_12, qo_1_13, qp_1_13, qo_6_0, qo_6_1, qo_6_2, qo_6_3, qo_6_4, qp_6_4, qo_6_5, qp_6_5, qo_11_0, qo_11_1, qo_11_2, qo_11_3, qp_11_3, qo_15_0, qo_15_1, qo_15_2, qo_15_3, qp_15_3, qo_129_0, qo_129_1, qp_129_1, qo_129_2, qp_129_2, qo_129_3, qp_129_3, qo_129_4, qp_129_4, qo_129_5, qp_129_5, qo_129_6, qp_129_6, qo_129_7, qp_129_7, qo_129_8, qp_129_8, qo_131_0, qo_131_1, qo_131_2, qo_131_3, qo_131_4, qo_131_5, qo_131_6, qp_131_6, qo_131_7, qo_131_8, qp_131_8, qo_131_9, qp_131_9, qo_131_10, qp_131_10, qo_152_0, qo_152_1, qo_155_0, qo_155_1, qo_155_2, qo_159_0, qo_159_1, qo_159_2, qo_159_3, qp_159_3, qo_159_4, qp_159_4, qf_site_0, qf_sitew_0, qf_site_1, qf_sitew_1, qf_site_2, qf_sitew_2, qf_site_3, qf_sitew_3, qf_site_4, qf_sitew_4, qf_site_5, qf_sitew_5, qf_site_6, qf_sitew_6, qf_site_7, qf_sitew_7, qf_site_8, qf_sitew_8, qf_site_9, qf_sitew_9, qf_site_10, qf_site_11, qf_plug_0, qf_plugw_0, qf_plug_1, qf_plugw_1, qf_plug_2, qf_plugw_2, qf_plug_3, qf_plugw_3, qf_plug_4, qf_plugw_4, qf_plug_5, qf_plugw_5, qf_car_0, qf_carw_0, qf_car_1, qf_carw_1, qf_car_2, qf_carw_2, qf_car_3, qf_carw_3, qf_car_4, qf_carw_4, qf_car_5, qf_carw_5, qf_car_6, qf_carw_6, qf_car_7, qf_carw_7, qf_car_8, qf_carw_8, qf_car_9, qf_carw_9, qf_car_10, qf_carw_10, qf_car_11, qf_carw_11, qf_car_12, qf_carw_12, qf_car_13, qf_carw_13, qf_car_14, qf_carw_14, qa_5, qa_7, qa_8, qa_9, qa_10, qa_12, qa_13, qa_14, qa_16, qa_17, qa_18, qa_130, qa_132, qa_133, qa_134, qa_135, qa_151, qa_153, qa_154, qa_156, qa_157, qa_158, qa_177, qa_queue, qa_splug, qa_arr, qa_chg, qa_best, qa_sco, qw_5, qw_7, qw_8, qw_9, qw_10, qw_12, qw_13, qw_14, qw_16, qw_17, qw_18, qw_130, qw_132, qw_133, qw_134, qw_135, qw_151, qw_153, qw_154, qw_156, qw_157, qw_158, qw_177, qw_queue, qw_splug, qw_arr, qw_chg, qw_best, qw_sco, qr_site, qr_plug, qr_car, qr_arr, qr_chg, qr_best, qr_sco, qs_site, qs_plug, qs_car, qc_0, qc_1, qc_6, qc_11, qc_15, qc_129, qc_131, qc_152, qc_155, qc_159, c_X7_goOneTick_1, b_X7_goOneTick_1, u_X7_goOneTick_1, kS, e1, e2, en, e3, kf, e4, e5, e6, z7]
  · intro k hk n1 n2
    rw [f7 k (by omega), f6 k (by omega), f5 k hk, f4 k n2, f3 k n1 n2, fn k (by omega), f2 k (by omega), f1 k (by omega)]
theorem qR_tick {h : zk_H} {W : qW} (hf : qWf W) (hh : qR (fun r => h (179 + r)) W) {s : Nat} (hs : s < W.nS) : ∃ h1, f_X12_tick SHP [.ref 178, .int (nI s)] h = some (.int (nI (qsm s W)), h1) ∧ qR (fun r => h1 (179 + r)) (qT6 s W) ∧ ∀ k, k < 179 ∨ 186 < k → k ≠ 194 → k ≠ 195 → h1 k = h k := by
  have hS := hf.hS
  obtain ⟨w1, t1⟩ := qT1_ok hf hs
  obtain ⟨w2, t2⟩ := qT2_ok hf hs
  obtain ⟨w3, o3⟩ := qT3_t hf hs
  have t3 := (qT3_ok hf hs).2
  obtain ⟨w4, t4, p4⟩ := qT4_ok hf hs
  obtain ⟨w5, t5⟩ := qT5_ok hf hs
  obtain ⟨h1, e1, q1, f1⟩ := qR_takes hf hh hs
  have q1 : qR (fun r => h1 (179 + r)) (qT1 s W) := q1
  obtain ⟨h2, e2, q2, f2⟩ := qR_fails w1 q1 (s := s) (by rw [t1.nS]; exact hs)
  have q2 : qR (fun r => h2 (179 + r)) (qT2 s W) := q2
  obtain ⟨h3, e3, q3, k3, k15, f3⟩ := qR_ask w2 q2 (s := s) (by rw [t2.nS]; exact hs)
  have q3 : qR (fun r => h3 (179 + r)) (qT3 s W) := q3
  have ea : qask (qT3 s W) = qask (qT2 s W) := by funext p; exact o3.ask p
  have epl : (qT3 s W).pl s = (qT2 s W).pl s := o3.sta.pl s
  have enP : (qT3 s W).nP = (qT2 s W).nP := o3.sta.nP
  rw [← ea, ← epl] at e3
  have e3 : f_X12_askAll SHP [.ref 178, .int (nI s)] h2 = some (.int (nI (qmy (qT3 s W) s)), h3) := e3
  have k3 : ∀ p, p < (qT3 s W).nP → h3 194 p = nI (qaS (qT3 s W) s p) ∧ h3 195 p = nI 0 := by
    intro p hp
    rw [qaS_eq, ea, o3.sta.psite p]
    exact k3 p (by rw [← enP]; exact hp)
  have hs3 : s < (qT3 s W).nS := by rw [t3.nS]; exact hs
  have kf : h3 180 (9 * s + 2) = _ := q3.first s hs3
  have hfl := w3.first s
  have hal : ∀ p, qaS (qT3 s W) s p ≤ 1000 := fun p => Nat.le_trans (qaS_le _ _ _) (qask_1000 w3 p)
  have hcar : ∀ p, 0 < qaS (qT3 s W) s p → ∃ c, (qT3 s W).pcar p = some c := fun p hp => qask_car (Nat.lt_of_lt_of_le hp (qaS_le _ _ _))
  have share : ∃ h4, (((qT3 s W).first s = 0 ∧ f_X12_even SHP [.ref 178, .int (nI s), .int (nI (qmy (qT3 s W) s))] h3 = some (.null, h4)) ∨ ((qT3 s W).first s = 1 ∧ f_X12_first SHP [.ref 178, .int (nI s), .int (nI (qmy (qT3 s W) s))] h3 = some (.null, h4))) ∧ (∀ p, p < (qT3 s W).nP → h4 195 p = nI (qG (qT3 s W) s p)) ∧ ∀ k, k ≠ 195 → h4 k = h3 k := by
    by_cases hz : (qT3 s W).first s = 0
    · obtain ⟨h4, e4, k4, f4⟩ := qR_even w3 q3 hs3 k3 hal
      rw [qaS_my] at e4
      refine ⟨h4, Or.inl ⟨hz, e4⟩, ?_, f4⟩
      intro p hp
      have k5 := k4 p hp
      rw [qaS_my, qaS_ev] at k5
      unfold qG; rw [if_pos hz]; exact k5
    · obtain ⟨h4, e4, k4, f4⟩ := qR_first2 w3 q3 hs3 k3 hal hcar
      rw [qaS_my] at e4
      refine ⟨h4, Or.inr ⟨by omega, e4⟩, ?_, f4⟩
      intro p hp
      have k5 := k4 p hp
      rw [qaS_fv] at k5
      unfold qG; rw [if_neg hz]; exact k5
  obtain ⟨h4, e4, k4, f4⟩ := share
  have q4 : qR (fun r => h4 (179 + r)) (qT3 s W) := qR_of q3 (fun k hk => f4 (179 + k) (by omega))
  have hgo := qG_ok w3 s
  obtain ⟨u, h5, z5, q5, f5⟩ := qR_charge (s := s) w3 q4 k4 hgo.2.2.1 (fun p hp => qask_car (Nat.lt_of_lt_of_le hp (Nat.le_trans (qG_le _ _ _) (qaS_le _ _ _)))) (nI (qmy (qT3 s W) s)) (.float 0)
  rw [qsml_R hgo.2.1] at z5
  rw [qchg_R hgo.2.1] at q5
  have esg : (((qT3 s W).pl s).foldl (qchR (qG (qT3 s W) s)) (qT3 s W)).sgiv s = (qT3 s W).sgiv s := qchl_n (by omega) (by omega) (by omega) _ _
  have ens : (((qT3 s W).pl s).foldl (qchR (qG (qT3 s W) s)) (qT3 s W)).nS = (qT3 s W).nS := qchl_n (by omega) (by omega) (by omega) _ _
  have ks : h5 180 (9 * s + 8) = _ := q5.sgiv s (by rw [ens]; exact hs3)
  rw [esg] at ks
  have q5b := qRu_sgiv q5 s ((qT3 s W).sgiv s + qsm s W)
  have q5c : qR (fun r => zk_up h5 180 (9 * s + 8) (nI ((qT3 s W).sgiv s + qsm s W)) (179 + r)) (qT4 s W) := q5b
  obtain ⟨h6, e6, q6, f6⟩ := qR_ends (s := s) (A := qask (qT3 s W)) w4 q5c (by rw [t4.nS]; exact hs) (by
    intro q c hq hqs hqc
    rw [qv_n (by omega), f5 183 _ (by omega), f4 183 (by omega), ea]
    have e20 : (qT4 s W).nP = (qT2 s W).nP := by rw [t4.nP, t2.nP]
    have e21 : (qT4 s W).psite q = (qT2 s W).psite q := by rw [t4.psite, t2.psite]
    have e22 : (qT4 s W).pcar q = (qT2 s W).pcar q := by unfold qW.pcar; rw [p4, o3.2.2]
    exact k15 q c (by rw [← e20]; exact hq) (by rw [← e21]; exact hqs) (by rw [← e22]; exact hqc))
  have q6 : qR (fun r => h6 (179 + r)) (qT5 s W) := q6
  obtain ⟨h7, z7, q7, f7⟩ := qR_waits (s := s) w5 q6 (by rw [t5.nS]; exact hs) (nI (qmy (qT3 s W) s)) (nI (qsm s W)) u
  refine ⟨h7, ?_, q7, ?_⟩
  · have z5 : zk_loop (c_X12_tick_1 SHP) (b_X12_tick_1 SHP) (u_X12_tick_1 SHP) 1000 [.ref 178, .int (nI s), .int (nI (qmy (qT3 s W) s)), .int (nI 0), .int (nI 0), .float 0] h4 = some (0, .null, [.ref 178, .int (nI s), .int (nI (qmy (qT3 s W) s)), .int (nI (qsm s W)), .int (nI (qT3 s W).nP), u], h5) := z5
    generalize qsm s W = sm at ks e6 z5 z7 ⊢
    generalize qmy (qT3 s W) s = m at e3 e4 z5 z7 ⊢
    rcases e4 with ⟨hz, e4⟩ | ⟨hz, e4⟩
    · rw [hz] at kf
      simp -implicitDefEqProofs (disch := omega) [zq_r1, ze_c, ze_li, zq_li1, ze_lr, zq_lr1, zq_lr2, ze_ll, zq_ll1, ze_u, zq_u1, ze_b, zq_b1, zq_b3, ze_fi, ze_fd, ze_fl, ze_fs, ze_gi, ze_gl, ze_gn, ze_gf, zq_gf1, ze_al, zq_al1, zq_al3, ze_aa, zq_aa1, zq_aa3, ze_ev0, ze_ev, zq_ev1, zq_ev3, ze_ca, zq_ca1, ze_xc, zq_xc1, zq_xc3, ze_ck, zq_ck1, ze_rc, zq_rc1, ze_c1, zq_c11, ze_c2, zq_c21, zq_c23, ze_and, zq_andt, zq_andf, ze_or, zq_ort, zq_orf, ze_not, zq_not1, ze_it, zq_itt, zq_itf, zq_itd, ze_skip, ze_brk, ze_cnt, ze_ret0, ze_seq, zq_seq0, zq_seq1, zq_seq2, zq_seq3, ze_si, zq_si1, ze_sr, zq_sr1, ze_inc, zq_inc1, ze_ok0, ze_okS, zq_oki, zq_okr, zq_oka, zq_okf, zq_h1, ze_pf, zq_pf1, zq_pf3, ze_pfo, zq_pfo1, zq_pfo21, zq_pfo31, zq_pfo41, ze_as, zq_as1, zq_as21, zq_as31, ze_aso, zq_aso1, zq_aso21, zq_aso31, zq_aso41, zq_aso51, ze_if, zq_ift, zq_iff, zq_ifd, ze_ret, zq_ret1, ze_pk0, ze_pk1, ze_sw, zq_sw1, ze_cps, zq_cps1, ze_one, zq_o1t, zq_o1f, zq_o20, zq_o22, zq_o21, zq_o23, zq_o30, zq_len1, zq_pad0, zq_padS, ze_sem, ze_fl0, ze_flI, ze_flR, ze_flA, ze_flL, zq_semi, zq_semv, zq_semb0, zq_semb1, List.getElem?_cons_zero, List.getElem?_cons_succ, List.set_cons_zero, List.set_cons_succ, List.length_cons, List.length_nil, List.cons_append, List.nil_append, q_outT, q_outF, q_inT, q_inF, qn_an, qn_ltt, qn_ltf, qn_let, qn_lef, qn_eqt, qn_eqf, qn_sub, nI_add, pk_mul, qn_div, qn_modN, qn_nn, qn_np, qn_pn, qn_nlt, qn_pln, qn_nle, qn_ple, qn_0, qn_1, qn_2, qn_3, qn_4, qn_5, qn_6, qn_7, qn_8, qn_9, qn_10, qn_11, qn_12, qn_13, qn_14, qn_15, qn_16, qn_19, qn_20, qn_21, qn_24, qn_27, qn_29, qn_30, qn_31, qn_32, qn_33, qn_39, qn_40, qn_42, qn_48, qn_50, qn_54, qn_57, qn_59, qn_60, qn_63, qn_72, qn_96, qn_97, qn_99, qn_100, qn_122, qn_128, qn_150, qn_192, qn_199, qn_200, qn_201, qn_236, qn_240, qn_300, qn_998, qn_999, qn_1000, qn_2000, qn_2230, qn_9999, qn_10000, qn_114602, qn_180392, qn_664272, qn_1000000, qn_3379448, qn_10256063, qv_s, qv_n, qo_178_0, qo_178_1, qo_178_2, qo_178_3, qo_178_4, qo_178_5, qo_178_6, qo_178_7, qo_178_8, qo_178_9, qo_178_10, qo_178_11, qo_178_12, qo_178_13, qo_178_14, qp_178_14, qo_178_15, qp_178_15, qo_178_16, qp_178_16, qo_178_17, qo_178_18, qp_178_18, qo_178_19, qp_178_19, qo_178_20, qp_178_20, qo_178_21, qp_178_21, qo_178_22, qp_178_22, qo_178_23, qp_178_23, qo_178_24, qo_178_25, qo_178_26, qo_178_27, qo_178_28, qo_178_29, qo_178_30, qp_178_30, qo_178_31, qo_178_32, qp_178_32, qa_179, qa_180, qa_181, qa_182, qa_183, qa_184, qa_185, qa_186, qa_187, qa_188, qa_189, qa_190, qa_191, qa_192, qa_193, qa_194, qa_195, qa_196, qa_197, qa_198, qa_199, qa_200, qw_179, qw_180, qw_181, qw_182, qw_183, qw_184, qw_185, qw_186, qw_187, qw_188, qw_189, qw_190, qw_191, qw_192, qw_193, qw_194, qw_195, qw_196, qw_197, qw_198, qw_199, qw_200, qc_178, q_getN, q_putN, q_moreN, f_X12_tick, b_X12_tick, e1, e2, e3, kf, e4, z5, ks, e6, z7]
    · rw [hz] at kf
      simp -implicitDefEqProofs (disch := omega) [zq_r1, ze_c, ze_li, zq_li1, ze_lr, zq_lr1, zq_lr2, ze_ll, zq_ll1, ze_u, zq_u1, ze_b, zq_b1, zq_b3, ze_fi, ze_fd, ze_fl, ze_fs, ze_gi, ze_gl, ze_gn, ze_gf, zq_gf1, ze_al, zq_al1, zq_al3, ze_aa, zq_aa1, zq_aa3, ze_ev0, ze_ev, zq_ev1, zq_ev3, ze_ca, zq_ca1, ze_xc, zq_xc1, zq_xc3, ze_ck, zq_ck1, ze_rc, zq_rc1, ze_c1, zq_c11, ze_c2, zq_c21, zq_c23, ze_and, zq_andt, zq_andf, ze_or, zq_ort, zq_orf, ze_not, zq_not1, ze_it, zq_itt, zq_itf, zq_itd, ze_skip, ze_brk, ze_cnt, ze_ret0, ze_seq, zq_seq0, zq_seq1, zq_seq2, zq_seq3, ze_si, zq_si1, ze_sr, zq_sr1, ze_inc, zq_inc1, ze_ok0, ze_okS, zq_oki, zq_okr, zq_oka, zq_okf, zq_h1, ze_pf, zq_pf1, zq_pf3, ze_pfo, zq_pfo1, zq_pfo21, zq_pfo31, zq_pfo41, ze_as, zq_as1, zq_as21, zq_as31, ze_aso, zq_aso1, zq_aso21, zq_aso31, zq_aso41, zq_aso51, ze_if, zq_ift, zq_iff, zq_ifd, ze_ret, zq_ret1, ze_pk0, ze_pk1, ze_sw, zq_sw1, ze_cps, zq_cps1, ze_one, zq_o1t, zq_o1f, zq_o20, zq_o22, zq_o21, zq_o23, zq_o30, zq_len1, zq_pad0, zq_padS, ze_sem, ze_fl0, ze_flI, ze_flR, ze_flA, ze_flL, zq_semi, zq_semv, zq_semb0, zq_semb1, List.getElem?_cons_zero, List.getElem?_cons_succ, List.set_cons_zero, List.set_cons_succ, List.length_cons, List.length_nil, List.cons_append, List.nil_append, q_outT, q_outF, q_inT, q_inF, qn_an, qn_ltt, qn_ltf, qn_let, qn_lef, qn_eqt, qn_eqf, qn_sub, nI_add, pk_mul, qn_div, qn_modN, qn_nn, qn_np, qn_pn, qn_nlt, qn_pln, qn_nle, qn_ple, qn_0, qn_1, qn_2, qn_3, qn_4, qn_5, qn_6, qn_7, qn_8, qn_9, qn_10, qn_11, qn_12, qn_13, qn_14, qn_15, qn_16, qn_19, qn_20, qn_21, qn_24, qn_27, qn_29, qn_30, qn_31, qn_32, qn_33, qn_39, qn_40, qn_42, qn_48, qn_50, qn_54, qn_57, qn_59, qn_60, qn_63, qn_72, qn_96, qn_97, qn_99, qn_100, qn_122, qn_128, qn_150, qn_192, qn_199, qn_200, qn_201, qn_236, qn_240, qn_300, qn_998, qn_999, qn_1000, qn_2000, qn_2230, qn_9999, qn_10000, qn_114602, qn_180392, qn_664272, qn_1000000, qn_3379448, qn_10256063, qv_s, qv_n, qo_178_0, qo_178_1, qo_178_2, qo_178_3, qo_178_4, qo_178_5, qo_178_6, qo_178_7, qo_178_8, qo_178_9, qo_178_10, qo_178_11, qo_178_12, qo_178_13, qo_178_14, qp_178_14, qo_178_15, qp_178_15, qo_178_16, qp_178_16, qo_178_17, qo_178_18, qp_178_18, qo_178_19, qp_178_19, qo_178_20, qp_178_20, qo_178_21, qp_178_21, qo_178_22, qp_178_22, qo_178_23, qp_178_23, qo_178_24, qo_178_25, qo_178_26, qo_178_27, qo_178_28, qo_178_29, qo_178_30, qp_178_30, qo_178_31, qo_178_32, qp_178_32, qa_179, qa_180, qa_181, qa_182, qa_183, qa_184, qa_185, qa_186, qa_187, qa_188, qa_189, qa_190, qa_191, qa_192, qa_193, qa_194, qa_195, qa_196, qa_197, qa_198, qa_199, qa_200, qw_179, qw_180, qw_181, qw_182, qw_183, qw_184, qw_185, qw_186, qw_187, qw_188, qw_189, qw_190, qw_191, qw_192, qw_193, qw_194, qw_195, qw_196, qw_197, qw_198, qw_199, qw_200, qc_178, q_getN, q_putN, q_moreN, f_X12_tick, b_X12_tick, e1, e2, e3, kf, e4, z5, ks, e6, z7]
  · intro k hk n1 n2
    rw [f7 k (by omega), f6 k hk, qup_c (by omega)]
    have f5k : h5 k = h4 k := by funext i; exact f5 k i (by omega)
    rw [f5k, f4 k n2, f3 k hk n1 n2, f2 k hk, f1 k hk]
