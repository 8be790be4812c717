-- waiting; a tick at a site
set_option maxRecDepth 4000
set_option maxHeartbeats 400000
def qwt (W : qW) (c : Nat) : qW := W.up 35 c (W.waited c + 1)
def qwaits (s : Nat) (W : qW) : qW := (W.q s).foldl qwt W
theorem qwt_inv {W V : qW} {s c : Nat} (hf : qWf W) (hc : c ∈ W.q s) (hI : qWf V ∧ qsta W V ∧ V.2 = W.2) : qWf (qwt V c) ∧ qsta W (qwt V c) ∧ (qwt V c).2 = W.2 := by
  obtain ⟨h1, h2, h3⟩ := hI
  have hcn := (hf.qOk s c hc).1
  refine ⟨qWf_wait1 h1 (by rw [h2.nC]; exact hcn), qsta_tr h2 ?_, h3⟩
  intro f i h
  unfold qwt
  simp only [qW.up]
  rw [if_neg (by omega)]
theorem qwaits_ok {W : qW} {s : Nat} (hf : qWf W) (i : Nat) : qWf (((W.q s).take i).foldl qwt W) ∧ qsta W (((W.q s).take i).foldl qwt W) ∧ (((W.q s).take i).foldl qwt W).2 = W.2 :=
  qfl_inv (I := fun V => qWf V ∧ qsta W V ∧ V.2 = W.2) (st := qwt) (l := W.q s) ⟨hf, qsta_rfl W, rfl⟩ (fun V c hc hI => qwt_inv hf hc hI) i
theorem qC_waits {h : zk_H} {W : qW} (hf : qWf W) (hh : qC h W) {s : Nat} (hs : s < W.nS) (x2 x4 : Int32) : ∃ h1, zk_loop (c_X7_goOneTick_2 SHP) (b_X7_goOneTick_2 SHP) (u_X7_goOneTick_2 SHP) 1000 [.ref 152, .ref 1, .int x2, .ref (19 + 3 * s), .int x4, .int (nI 0)] h = some (0, .null, [.ref 152, .ref 1, .int x2, .ref (19 + 3 * s), .int x4, .int (nI (W.q s).length)], h1) ∧ qC h1 (qwaits s W) ∧ ∀ k, k < 53 ∨ 64 < k → h1 k = h k := by
  have hS := hf.hS
  have hC := hf.hC
  have hql := hf.qlen s
  have l1 := q_for (c := c_X7_goOneTick_2 SHP) (b := b_X7_goOneTick_2 SHP) (u := u_X7_goOneTick_2 SHP) (P := fun i e g => e = [.ref 152, .ref 1, .int x2, .ref (19 + 3 * s), .int x4, .int (nI i)] ∧ qC g (((W.q s).take i).foldl qwt W) ∧ ∀ k, k < 53 ∨ 64 < k → g k = h k) (W.q s).length (by
      rintro i e g hi ⟨rfl, hg, fr⟩
      obtain ⟨c, hc⟩ : ∃ c, (W.q s)[i]? = some c := ⟨(W.q s)[i], List.getElem?_eq_getElem hi⟩
      have hcn := (hf.qOk s c (List.mem_of_getElem? hc)).1
      have hI := qwaits_ok (s := s) hf i
      rw [qfl_take _ _ hc]
      generalize ((W.q s).take i).foldl qwt W = V at hg hI ⊢
      obtain ⟨hfV, hst, h2⟩ := hI
      have hq : V.q s = W.q s := by unfold qW.q; rw [h2]
      have k0 := hg.qn s (by omega)
      rw [hq] at k0
      have k1 := hg.q s (by omega) i c (by rw [hq]; exact hc)
      have k2 := hg.waited c (by omega)
      refine ⟨[.ref 152, .ref 1, .int x2, .ref (19 + 3 * s), .int x4, .int (nI (i + 1))], zk_up g (53 + c) 11 (nI (V.waited c + 1)), ?_, rfl, qCu_waited hg c (by omega) _, fun k hk => by rw [qup_c (by omega)]; exact fr k hk⟩
      simp -implicitDefEqProofs (disch := omega) [zq_r1, ze_c, ze_li, zq_li1, ze_lr, zq_lr1, zq_lr2, ze_ll, zq_ll1, ze_u, zq_u1, ze_b, zq_b1, zq_b3, ze_fi, ze_fd, ze_fl, ze_fs, ze_gi, ze_gl, ze_gn, ze_gf, zq_gf1, ze_al, zq_al1, zq_al3, ze_aa, zq_aa1, zq_aa3, ze_ev0, ze_ev, zq_ev1, zq_ev3, ze_ca, zq_ca1, ze_xc, zq_xc1, zq_xc3, ze_ck, zq_ck1, ze_rc, zq_rc1, ze_c1, zq_c11, ze_c2, zq_c21, zq_c23, ze_and, zq_andt, zq_andf, ze_or, zq_ort, zq_orf, ze_not, zq_not1, ze_it, zq_itt, zq_itf, zq_itd, ze_skip, ze_brk, ze_cnt, ze_ret0, ze_seq, zq_seq0, zq_seq1, zq_seq2, zq_seq3, ze_si, zq_si1, ze_sr, zq_sr1, ze_inc, zq_inc1, ze_ok0, ze_okS, zq_oki, zq_okr, zq_oka, zq_okf, zq_h1, ze_pf, zq_pf1, zq_pf3, ze_pfo, zq_pfo1, zq_pfo21, zq_pfo31, zq_pfo41, ze_as, zq_as1, zq_as21, zq_as31, ze_aso, zq_aso1, zq_aso21, zq_aso31, zq_aso41, zq_aso51, ze_if, zq_ift, zq_iff, zq_ifd, ze_ret, zq_ret1, ze_pk0, ze_pk1, ze_sw, zq_sw1, ze_cps, zq_cps1, ze_one, zq_o1t, zq_o1f, zq_o20, zq_o22, zq_o21, zq_o23, zq_o30, zq_len1, zq_pad0, zq_padS, ze_sem, ze_fl0, ze_flI, ze_flR, ze_flA, ze_flL, zq_semi, zq_semv, zq_semb0, zq_semb1, List.getElem?_cons_zero, List.getElem?_cons_succ, List.set_cons_zero, List.set_cons_succ, List.length_cons, List.length_nil, List.cons_append, List.nil_append, q_outT, q_outF, q_inT, q_inF, qn_an, qn_ltt, qn_ltf, qn_let, qn_lef, qn_eqt, qn_eqf, qn_sub, nI_add, pk_mul, qn_div, qn_modN, qn_nn, qn_np, qn_pn, qn_nlt, qn_pln, qn_nle, qn_ple, qn_0, qn_1, qn_2, qn_3, qn_4, qn_5, qn_6, qn_7, qn_8, qn_9, qn_10, qn_11, qn_12, qn_13, qn_14, qn_15, qn_16, qn_19, qn_20, qn_21, qn_24, qn_27, qn_29, qn_30, qn_31, qn_32, qn_33, qn_39, qn_40, qn_42, qn_48, qn_50, qn_54, qn_57, qn_59, qn_60, qn_63, qn_72, qn_96, qn_97, qn_99, qn_100, qn_122, qn_128, qn_150, qn_192, qn_199, qn_200, qn_201, qn_236, qn_240, qn_300, qn_998, qn_999, qn_1000, qn_2000, qn_2230, qn_9999, qn_10000, qn_114602, qn_180392, qn_664272, qn_1000000, qn_3379448, qn_10256063, qv_s, qv_n, qo_0_0, qo_0_1, qo_0_2, qo_0_3, qo_0_4, qo_0_5, qo_0_6, qo_0_7, qp_0_7, qo_1_0, qo_1_1, qo_1_2, qo_1_3, qo_1_4, qo_1_5, qo_1_6, qo_1_7, qp_1_7, qo_1_8, qp_1_8, qo_1_9, qp_1_9, qo_1_10, qp_1_10, qo_1_11, qp_1_11, qo_1_12, qp_1_12, qo_1_13, qp_1_13, qo_6_0, qo_6_1, qo_6_2, qo_6_3, qo_6_4, qp_6_4, qo_6_5, qp_6_5, qo_11_0, qo_11_1, qo_11_2, qo_11_3, qp_11_3, qo_15_0, qo_15_1, qo_15_2, qo_15_3, qp_15_3, qo_129_0, qo_129_1, qp_129_1, qo_129_2, qp_129_2, qo_129_3, qp_129_3, qo_129_4, qp_129_4, qo_129_5, qp_129_5, qo_129_6, qp_129_6, qo_129_7, qp_129_7, qo_129_8, qp_129_8, qo_131_0, qo_131_1, qo_131_2, qo_131_3, qo_131_4, qo_131_5, qo_131_6, qp_131_6, qo_131_7, qo_131_8, qp_131_8, qo_131_9, qp_131_9, qo_131_10, qp_131_10, qo_152_0, qo_152_1, qo_155_0, qo_155_1, qo_155_2, qo_159_0, qo_159_1, qo_159_2, qo_159_3, qp_159_3, qo_159_4, qp_159_4, qf_site_0, qf_sitew_0, qf_site_1, qf_sitew_1, qf_site_2, qf_sitew_2, qf_site_3, qf_sitew_3, qf_site_4, qf_sitew_4, qf_site_5, qf_sitew_5, qf_site_6, qf_sitew_6, qf_site_7, qf_sitew_7, qf_site_8, qf_sitew_8, qf_site_9, qf_sitew_9, qf_site_10, qf_site_11, qf_plug_0, qf_plugw_0, qf_plug_1, qf_plugw_1, qf_plug_2, qf_plugw_2, qf_plug_3, qf_plugw_3, qf_plug_4, qf_plugw_4, qf_plug_5, qf_plugw_5, qf_car_0, qf_carw_0, qf_car_1, qf_carw_1, qf_car_2, qf_carw_2, qf_car_3, qf_carw_3, qf_car_4, qf_carw_4, qf_car_5, qf_carw_5, qf_car_6, qf_carw_6, qf_car_7, qf_carw_7, qf_car_8, qf_carw_8, qf_car_9, qf_carw_9, qf_car_10, qf_carw_10, qf_car_11, qf_carw_11, qf_car_12, qf_carw_12, qf_car_13, qf_carw_13, qf_car_14, qf_carw_14, qa_5, qa_7, qa_8, qa_9, qa_10, qa_12, qa_13, qa_14, qa_16, qa_17, qa_18, qa_130, qa_132, qa_133, qa_134, qa_135, qa_151, qa_153, qa_154, qa_156, qa_157, qa_158, qa_177, qa_queue, qa_splug, qa_arr, qa_chg, qa_best, qa_sco, qw_5, qw_7, qw_8, qw_9, qw_10, qw_12, qw_13, qw_14, qw_16, qw_17, qw_18, qw_130, qw_132, qw_133, qw_134, qw_135, qw_151, qw_153, qw_154, qw_156, qw_157, qw_158, qw_177, qw_queue, qw_splug, qw_arr, qw_chg, qw_best, qw_sco, qr_site, qr_plug, qr_car, qr_arr, qr_chg, qr_best, qr_sco, qs_site, qs_plug, qs_car, qc_0, qc_1, qc_6, qc_11, qc_15, qc_129, qc_131, qc_152, qc_155, qc_159, c_X7_goOneTick_2, b_X7_goOneTick_2, u_X7_goOneTick_2, k0, k1, k2]) (by
      rintro e g ⟨rfl, hg, fr⟩
      have k0 : g (19 + 3 * s) 8 = _ := Eq.trans (by rw [fr _ (by omega)]; try rfl) (hh.qn s (by omega))
      simp -implicitDefEqProofs (disch := omega) [zq_r1, ze_c, ze_li, zq_li1, ze_lr, zq_lr1, zq_lr2, ze_ll, zq_ll1, ze_u, zq_u1, ze_b, zq_b1, zq_b3, ze_fi, ze_fd, ze_fl, ze_fs, ze_gi, ze_gl, ze_gn, ze_gf, zq_gf1, ze_al, zq_al1, zq_al3, ze_aa, zq_aa1, zq_aa3, ze_ev0, ze_ev, zq_ev1, zq_ev3, ze_ca, zq_ca1, ze_xc, zq_xc1, zq_xc3, ze_ck, zq_ck1, ze_rc, zq_rc1, ze_c1, zq_c11, ze_c2, zq_c21, zq_c23, ze_and, zq_andt, zq_andf, ze_or, zq_ort, zq_orf, ze_not, zq_not1, ze_it, zq_itt, zq_itf, zq_itd, ze_skip, ze_brk, ze_cnt, ze_ret0, ze_seq, zq_seq0, zq_seq1, zq_seq2, zq_seq3, ze_si, zq_si1, ze_sr, zq_sr1, ze_inc, zq_inc1, ze_ok0, ze_okS, zq_oki, zq_okr, zq_oka, zq_okf, zq_h1, ze_pf, zq_pf1, zq_pf3, ze_pfo, zq_pfo1, zq_pfo21, zq_pfo31, zq_pfo41, ze_as, zq_as1, zq_as21, zq_as31, ze_aso, zq_aso1, zq_aso21, zq_aso31, zq_aso41, zq_aso51, ze_if, zq_ift, zq_iff, zq_ifd, ze_ret, zq_ret1, ze_pk0, ze_pk1, ze_sw, zq_sw1, ze_cps, zq_cps1, ze_one, zq_o1t, zq_o1f, zq_o20, zq_o22, zq_o21, zq_o23, zq_o30, zq_len1, zq_pad0, zq_padS, ze_sem, ze_fl0, ze_flI, ze_flR, ze_flA, ze_flL, zq_semi, zq_semv, zq_semb0, zq_semb1, List.getElem?_cons_zero, List.getElem?_cons_succ, List.set_cons_zero, List.set_cons_succ, List.length_cons, List.length_nil, List.cons_append, List.nil_append, q_outT, q_outF, q_inT, q_inF, qn_an, qn_ltt, qn_ltf, qn_let, qn_lef, qn_eqt, qn_eqf, qn_sub, nI_add, pk_mul, qn_div, qn_modN, qn_nn, qn_np, qn_pn, qn_nlt, qn_pln, qn_nle, qn_ple, qn_0, qn_1, qn_2, qn_3, qn_4, qn_5, qn_6, qn_7, qn_8, qn_9, qn_10, qn_11, qn_12, qn_13, qn_14, qn_15, qn_16, qn_19, qn_20, qn_21, qn_24, qn_27, qn_29, qn_30, qn_31, qn_32, qn_33, qn_39, qn_40, qn_42, qn_48, qn_50, qn_54, qn_57, qn_59, qn_60, qn_63, qn_72, qn_96, qn_97, qn_99, qn_100, qn_122, qn_128, qn_150, qn_192, qn_199, qn_200, qn_201, qn_236, qn_240, qn_300, qn_998, qn_999, qn_1000, qn_2000, qn_2230, qn_9999, qn_10000, qn_114602, qn_180392, qn_664272, qn_1000000, qn_3379448, qn_10256063, qv_s, qv_n, qo_0_0, qo_0_1, qo_0_2, qo_0_3, qo_0_4, qo_0_5, qo_0_6, qo_0_7, qp_0_7, qo_1_0, qo_1_1, qo_1_2, qo_1_3, qo_1_4, qo_1_5, qo_1_6, qo_1_7, qp_1_7, qo_1_8, qp_1_8, qo_1_9, qp_1_9, qo_1_10, qp_1_10, qo_1_11, qp_1_11, qo_1_12, qp_1_12, qo_1_13, qp_1_13, qo_6_0, qo_6_1, qo_6_2, qo_6_3, qo_6_4, qp_6_4, qo_6_5, qp_6_5, qo_11_0, qo_11_1, qo_11_2, qo_11_3, qp_11_3, qo_15_0, qo_15_1, qo_15_2, qo_15_3, qp_15_3, qo_129_0, qo_129_1, qp_129_1, qo_129_2, qp_129_2, qo_129_3, qp_129_3, qo_129_4, qp_129_4, qo_129_5, qp_129_5, qo_129_6, qp_129_6, qo_129_7, qp_129_7, qo_129_8, qp_129_8, qo_131_0, qo_131_1, qo_131_2, qo_131_3, qo_131_4, qo_131_5, qo_131_6, qp_131_6, qo_131_7, qo_131_8, qp_131_8, qo_131_9, qp_131_9, qo_131_10, qp_131_10, qo_152_0, qo_152_1, qo_155_0, qo_155_1, qo_155_2, qo_159_0, qo_159_1, qo_159_2, qo_159_3, qp_159_3, qo_159_4, qp_159_4, qf_site_0, qf_sitew_0, qf_site_1, qf_sitew_1, qf_site_2, qf_sitew_2, qf_site_3, qf_sitew_3, qf_site_4, qf_sitew_4, qf_site_5, qf_sitew_5, qf_site_6, qf_sitew_6, qf_site_7, qf_sitew_7, qf_site_8, qf_sitew_8, qf_site_9, qf_sitew_9, qf_site_10, qf_site_11, qf_plug_0, qf_plugw_0, qf_plug_1, qf_plugw_1, qf_plug_2, qf_plugw_2, qf_plug_3, qf_plugw_3, qf_plug_4, qf_plugw_4, qf_plug_5, qf_plugw_5, qf_car_0, qf_carw_0, qf_car_1, qf_carw_1, qf_car_2, qf_carw_2, qf_car_3, qf_carw_3, qf_car_4, qf_carw_4, qf_car_5, qf_carw_5, qf_car_6, qf_carw_6, qf_car_7, qf_carw_7, qf_car_8, qf_carw_8, qf_car_9, qf_carw_9, qf_car_10, qf_carw_10, qf_car_11, qf_carw_11, qf_car_12, qf_carw_12, qf_car_13, qf_carw_13, qf_car_14, qf_carw_14, qa_5, qa_7, qa_8, qa_9, qa_10, qa_12, qa_13, qa_14, qa_16, qa_17, qa_18, qa_130, qa_132, qa_133, qa_134, qa_135, qa_151, qa_153, qa_154, qa_156, qa_157, qa_158, qa_177, qa_queue, qa_splug, qa_arr, qa_chg, qa_best, qa_sco, qw_5, qw_7, qw_8, qw_9, qw_10, qw_12, qw_13, qw_14, qw_16, qw_17, qw_18, qw_130, qw_132, qw_133, qw_134, qw_135, qw_151, qw_153, qw_154, qw_156, qw_157, qw_158, qw_177, qw_queue, qw_splug, qw_arr, qw_chg, qw_best, qw_sco, qr_site, qr_plug, qr_car, qr_arr, qr_chg, qr_best, qr_sco, qs_site, qs_plug, qs_car, qc_0, qc_1, qc_6, qc_11, qc_15, qc_129, qc_131, qc_152, qc_155, qc_159, c_X7_goOneTick_2, b_X7_goOneTick_2, u_X7_goOneTick_2, k0]) (f := 1000) (e := [.ref 152, .ref 1, .int x2, .ref (19 + 3 * s), .int x4, .int (nI 0)]) (h := h) (by omega) ⟨rfl, hh, fun _ _ => rfl⟩
  obtain ⟨e1, h1, z1, rfl, hg, fr⟩ := l1
  rw [List.take_length] at hg
  exact ⟨h1, z1, hg, fr⟩
theorem qR_waits {h : zk_H} {W : qW} (hf : qWf W) (hh : qR (fun r => h (179 + r)) W) {s : Nat} (hs : s < W.nS) (x2 x3 : Int32) (x5 : Value) : ∃ h1, zk_loop (c_X12_tick_2 SHP) (b_X12_tick_2 SHP) (u_X12_tick_2 SHP) 1000 [.ref 178, .int (nI s), .int x2, .int x3, .int (nI 0), x5] h = some (0, .null, [.ref 178, .int (nI s), .int x2, .int x3, .int (nI (W.q s).length), x5], h1) ∧ qR (fun r => h1 (179 + r)) (qwaits s W) ∧ ∀ k, k ≠ 183 → h1 k = h k := by
  have hS := hf.hS
  have hC := hf.hC
  have hql := hf.qlen s
  have l1 := q_for (c := c_X12_tick_2 SHP) (b := b_X12_tick_2 SHP) (u := u_X12_tick_2 SHP) (P := fun i e g => e = [.ref 178, .int (nI s), .int x2, .int x3, .int (nI i), x5] ∧ qR (fun r => g (179 + r)) (((W.q s).take i).foldl qwt W) ∧ ∀ k, k ≠ 183 → g k = h k) (W.q s).length (by
      rintro i e g hi ⟨rfl, hg, fr⟩
      obtain ⟨c, hc⟩ : ∃ c, (W.q s)[i]? = some c := ⟨(W.q s)[i], List.getElem?_eq_getElem hi⟩
      have hcn := (hf.qOk s c (List.mem_of_getElem? hc)).1
      have hI := qwaits_ok (s := s) hf i
      rw [qfl_take _ _ hc]
      generalize ((W.q s).take i).foldl qwt W = V at hg hI ⊢
      obtain ⟨hfV, hst, h2⟩ := hI
      have k0 : g 180 (9 * s + 6) = _ := Eq.trans (by rw [fr 180 (by omega)]; try rfl) (hh.qn s hs)
      have k1 : g 181 (12 * s + i) = _ := Eq.trans (by rw [fr 181 (by omega)]; try rfl) (hh.q s hs i c hc)
      have k2 : g 183 (16 * c + 9) = _ := hg.waited c (by rw [hst.nC]; exact hcn)
      refine ⟨[.ref 178, .int (nI s), .int x2, .int x3, .int (nI (i + 1)), x5], zk_up g 183 (16 * c + 9) (nI (V.waited c + 1)), ?_, rfl, qRu_waited hg c _, fun k hk => by rw [qup_c (by omega)]; exact fr k hk⟩
      simp -implicitDefEqProofs (disch := omega) [zq_r1, ze_c, ze_li, zq_li1, ze_lr, zq_lr1, zq_lr2, ze_ll, zq_ll1, ze_u, zq_u1, ze_b, zq_b1, zq_b3, ze_fi, ze_fd, ze_fl, ze_fs, ze_gi, ze_gl, ze_gn, ze_gf, zq_gf1, ze_al, zq_al1, zq_al3, ze_aa, zq_aa1, zq_aa3, ze_ev0, ze_ev, zq_ev1, zq_ev3, ze_ca, zq_ca1, ze_xc, zq_xc1, zq_xc3, ze_ck, zq_ck1, ze_rc, zq_rc1, ze_c1, zq_c11, ze_c2, zq_c21, zq_c23, ze_and, zq_andt, zq_andf, ze_or, zq_ort, zq_orf, ze_not, zq_not1, ze_it, zq_itt, zq_itf, zq_itd, ze_skip, ze_brk, ze_cnt, ze_ret0, ze_seq, zq_seq0, zq_seq1, zq_seq2, zq_seq3, ze_si, zq_si1, ze_sr, zq_sr1, ze_inc, zq_inc1, ze_ok0, ze_okS, zq_oki, zq_okr, zq_oka, zq_okf, zq_h1, ze_pf, zq_pf1, zq_pf3, ze_pfo, zq_pfo1, zq_pfo21, zq_pfo31, zq_pfo41, ze_as, zq_as1, zq_as21, zq_as31, ze_aso, zq_aso1, zq_aso21, zq_aso31, zq_aso41, zq_aso51, ze_if, zq_ift, zq_iff, zq_ifd, ze_ret, zq_ret1, ze_pk0, ze_pk1, ze_sw, zq_sw1, ze_cps, zq_cps1, ze_one, zq_o1t, zq_o1f, zq_o20, zq_o22, zq_o21, zq_o23, zq_o30, zq_len1, zq_pad0, zq_padS, ze_sem, ze_fl0, ze_flI, ze_flR, ze_flA, ze_flL, zq_semi, zq_semv, zq_semb0, zq_semb1, List.getElem?_cons_zero, List.getElem?_cons_succ, List.set_cons_zero, List.set_cons_succ, List.length_cons, List.length_nil, List.cons_append, List.nil_append, q_outT, q_outF, q_inT, q_inF, qn_an, qn_ltt, qn_ltf, qn_let, qn_lef, qn_eqt, qn_eqf, qn_sub, nI_add, pk_mul, qn_div, qn_modN, qn_nn, qn_np, qn_pn, qn_nlt, qn_pln, qn_nle, qn_ple, qn_0, qn_1, qn_2, qn_3, qn_4, qn_5, qn_6, qn_7, qn_8, qn_9, qn_10, qn_11, qn_12, qn_13, qn_14, qn_15, qn_16, qn_19, qn_20, qn_21, qn_24, qn_27, qn_29, qn_30, qn_31, qn_32, qn_33, qn_39, qn_40, qn_42, qn_48, qn_50, qn_54, qn_57, qn_59, qn_60, qn_63, qn_72, qn_96, qn_97, qn_99, qn_100, qn_122, qn_128, qn_150, qn_192, qn_199, qn_200, qn_201, qn_236, qn_240, qn_300, qn_998, qn_999, qn_1000, qn_2000, qn_2230, qn_9999, qn_10000, qn_114602, qn_180392, qn_664272, qn_1000000, qn_3379448, qn_10256063, qv_s, qv_n, qo_178_0, qo_178_1, qo_178_2, qo_178_3, qo_178_4, qo_178_5, qo_178_6, qo_178_7, qo_178_8, qo_178_9, qo_178_10, qo_178_11, qo_178_12, qo_178_13, qo_178_14, qp_178_14, qo_178_15, qp_178_15, qo_178_16, qp_178_16, qo_178_17, qo_178_18, qp_178_18, qo_178_19, qp_178_19, qo_178_20, qp_178_20, qo_178_21, qp_178_21, qo_178_22, qp_178_22, qo_178_23, qp_178_23, qo_178_24, qo_178_25, qo_178_26, qo_178_27, qo_178_28, qo_178_29, qo_178_30, qp_178_30, qo_178_31, qo_178_32, qp_178_32, qa_179, qa_180, qa_181, qa_182, qa_183, qa_184, qa_185, qa_186, qa_187, qa_188, qa_189, qa_190, qa_191, qa_192, qa_193, qa_194, qa_195, qa_196, qa_197, qa_198, qa_199, qa_200, qw_179, qw_180, qw_181, qw_182, qw_183, qw_184, qw_185, qw_186, qw_187, qw_188, qw_189, qw_190, qw_191, qw_192, qw_193, qw_194, qw_195, qw_196, qw_197, qw_198, qw_199, qw_200, qc_178, q_getN, q_putN, q_moreN, c_X12_tick_2, b_X12_tick_2, u_X12_tick_2, k0, k1, k2]) (by
      rintro e g ⟨rfl, hg, fr⟩
      have k0 : g 180 (9 * s + 6) = _ := Eq.trans (by rw [fr 180 (by omega)]; try rfl) (hh.qn s hs)
      simp -implicitDefEqProofs (disch := omega) [zq_r1, ze_c, ze_li, zq_li1, ze_lr, zq_lr1, zq_lr2, ze_ll, zq_ll1, ze_u, zq_u1, ze_b, zq_b1, zq_b3, ze_fi, ze_fd, ze_fl, ze_fs, ze_gi, ze_gl, ze_gn, ze_gf, zq_gf1, ze_al, zq_al1, zq_al3, ze_aa, zq_aa1, zq_aa3, ze_ev0, ze_ev, zq_ev1, zq_ev3, ze_ca, zq_ca1, ze_xc, zq_xc1, zq_xc3, ze_ck, zq_ck1, ze_rc, zq_rc1, ze_c1, zq_c11, ze_c2, zq_c21, zq_c23, ze_and, zq_andt, zq_andf, ze_or, zq_ort, zq_orf, ze_not, zq_not1, ze_it, zq_itt, zq_itf, zq_itd, ze_skip, ze_brk, ze_cnt, ze_ret0, ze_seq, zq_seq0, zq_seq1, zq_seq2, zq_seq3, ze_si, zq_si1, ze_sr, zq_sr1, ze_inc, zq_inc1, ze_ok0, ze_okS, zq_oki, zq_okr, zq_oka, zq_okf, zq_h1, ze_pf, zq_pf1, zq_pf3, ze_pfo, zq_pfo1, zq_pfo21, zq_pfo31, zq_pfo41, ze_as, zq_as1, zq_as21, zq_as31, ze_aso, zq_aso1, zq_aso21, zq_aso31, zq_aso41, zq_aso51, ze_if, zq_ift, zq_iff, zq_ifd, ze_ret, zq_ret1, ze_pk0, ze_pk1, ze_sw, zq_sw1, ze_cps, zq_cps1, ze_one, zq_o1t, zq_o1f, zq_o20, zq_o22, zq_o21, zq_o23, zq_o30, zq_len1, zq_pad0, zq_padS, ze_sem, ze_fl0, ze_flI, ze_flR, ze_flA, ze_flL, zq_semi, zq_semv, zq_semb0, zq_semb1, List.getElem?_cons_zero, List.getElem?_cons_succ, List.set_cons_zero, List.set_cons_succ, List.length_cons, List.length_nil, List.cons_append, List.nil_append, q_outT, q_outF, q_inT, q_inF, qn_an, qn_ltt, qn_ltf, qn_let, qn_lef, qn_eqt, qn_eqf, qn_sub, nI_add, pk_mul, qn_div, qn_modN, qn_nn, qn_np, qn_pn, qn_nlt, qn_pln, qn_nle, qn_ple, qn_0, qn_1, qn_2, qn_3, qn_4, qn_5, qn_6, qn_7, qn_8, qn_9, qn_10, qn_11, qn_12, qn_13, qn_14, qn_15, qn_16, qn_19, qn_20, qn_21, qn_24, qn_27, qn_29, qn_30, qn_31, qn_32, qn_33, qn_39, qn_40, qn_42, qn_48, qn_50, qn_54, qn_57, qn_59, qn_60, qn_63, qn_72, qn_96, qn_97, qn_99, qn_100, qn_122, qn_128, qn_150, qn_192, qn_199, qn_200, qn_201, qn_236, qn_240, qn_300, qn_998, qn_999, qn_1000, qn_2000, qn_2230, qn_9999, qn_10000, qn_114602, qn_180392, qn_664272, qn_1000000, qn_3379448, qn_10256063, qv_s, qv_n, qo_178_0, qo_178_1, qo_178_2, qo_178_3, qo_178_4, qo_178_5, qo_178_6, qo_178_7, qo_178_8, qo_178_9, qo_178_10, qo_178_11, qo_178_12, qo_178_13, qo_178_14, qp_178_14, qo_178_15, qp_178_15, qo_178_16, qp_178_16, qo_178_17, qo_178_18, qp_178_18, qo_178_19, qp_178_19, qo_178_20, qp_178_20, qo_178_21, qp_178_21, qo_178_22, qp_178_22, qo_178_23, qp_178_23, qo_178_24, qo_178_25, qo_178_26, qo_178_27, qo_178_28, qo_178_29, qo_178_30, qp_178_30, qo_178_31, qo_178_32, qp_178_32, qa_179, qa_180, qa_181, qa_182, qa_183, qa_184, qa_185, qa_186, qa_187, qa_188, qa_189, qa_190, qa_191, qa_192, qa_193, qa_194, qa_195, qa_196, qa_197, qa_198, qa_199, qa_200, qw_179, qw_180, qw_181, qw_182, qw_183, qw_184, qw_185, qw_186, qw_187, qw_188, qw_189, qw_190, qw_191, qw_192, qw_193, qw_194, qw_195, qw_196, qw_197, qw_198, qw_199, qw_200, qc_178, q_getN, q_putN, q_moreN, c_X12_tick_2, b_X12_tick_2, u_X12_tick_2, k0]) (f := 1000) (e := [.ref 178, .int (nI s), .int x2, .int x3, .int (nI 0), x5]) (h := h) (by omega) ⟨rfl, hh, fun _ _ => rfl⟩
  obtain ⟨e1, h1, z1, rfl, hg, fr⟩ := l1
  rw [List.take_length] at hg
  exact ⟨h1, z1, hg, fr⟩
/-- what each plug of site s gets -/
def qmy (W : qW) (s : Nat) : Nat := ((W.pl s).filter (fun p => decide (0 < qask W p))).length
def qG (W : qW) (s : Nat) : Nat → Nat := if W.first s = 0 then qev (qask W) (W.pl s) (W.pow s) (qmy W s) else qfv (qask W) (qtm W) (W.pl s) (W.pow s)
def qaS (W : qW) (s p : Nat) : Nat := if decide (W.psite p = s) = true then qask W p else 0
theorem qaS_eq (W : qW) (s p : Nat) : qaS W s p = if W.psite p = s then qask W p else 0 := by
  unfold qaS; simp
theorem qaS_ev (W : qW) (s P m : Nat) : qev (qaS W s) (List.range W.nP) P m = qev (qask W) (W.pl s) P m := by
  exact qev_filter (qask W) (fun p => decide (W.psite p = s)) (List.range W.nP) P m
theorem qaS_fv (W : qW) (s P : Nat) (t : Nat → Nat) : qfv (qaS W s) t (List.range W.nP) P = qfv (qask W) t (W.pl s) P := by
  exact qfv_filter (qask W) t (fun p => decide (W.psite p = s)) (List.range W.nP) P
theorem qaS_my (W : qW) (s : Nat) : ((List.range W.nP).filter (fun p => decide (0 < qaS W s p))).length = qmy W s := by
  unfold qmy qW.pl
  rw [List.filter_filter]
  congr 1
  apply List.filter_congr
  intro p _
  rw [qaS_eq]
  by_cases h : W.psite p = s
  · simp [h]
  · simp [h]
theorem qG_le (W : qW) (s p : Nat) : qG W s p ≤ qaS W s p := by
  unfold qG
  split
  · rw [← qaS_ev]; exact qev_le _ _ _ _ _
  · rw [← qaS_fv]; exact qfv_le _ _ _ _ _
theorem qask_1000 {W : qW} (hf : qWf W) (p : Nat) : qask W p ≤ 1000 := by
  cases hpc : W.pcar p with
  | none => unfold qask; rw [hpc]; exact Nat.zero_le _
  | some c =>
    obtain ⟨a, b, d, e⟩ := qask_le hf hpc
    have := (hf.bat c (hf.carOk p c hpc).1).2
    omega
theorem qask_car {W : qW} {p : Nat} (h : 0 < qask W p) : ∃ c, W.pcar p = some c := by
  cases hpc : W.pcar p with
  | none => unfold qask at h; rw [hpc] at h; exact absurd h (by simp)
  | some c => exact ⟨c, rfl⟩
theorem qaS_le (W : qW) (s p : Nat) : qaS W s p ≤ qask W p := by
  rw [qaS_eq]; split <;> omega
/-! the stages of a tick at a site -/
def qT1 (s : Nat) (W : qW) : qW := qfold (qtake s) W s W.nP
def qT2 (s : Nat) (W : qW) : qW := qfold (qfail s) (qT1 s W) s (qT1 s W).nP
def qT3 (s : Nat) (W : qW) : qW := qfold qtry (qT2 s W) s (qT2 s W).nP
def qT4 (s : Nat) (W : qW) : qW := qchg (qG (qT3 s W) s) s (qT3 s W)
def qT5 (s : Nat) (W : qW) : qW := qfold (qend (qask (qT3 s W)) s) (qT4 s W) s (qT4 s W).nP
def qT6 (s : Nat) (W : qW) : qW := qwaits s (qT5 s W)
def qsm (s : Nat) (W : qW) : Nat := qsml (qG (qT3 s W) s) ((qT3 s W).pl s)
theorem qT1_ok {W : qW} {s : Nat} (hf : qWf W) (hs : s < W.nS) : qWf (qT1 s W) ∧ qsta W (qT1 s W) :=
  qfo_inv (I := fun V => qWf V ∧ qsta W V) (st := qtake s) (s := s) ⟨hf, qsta_rfl W⟩ (fun V p hp _ hI => qtake_inv hs hp hI) W.nP (Nat.le_refl _)
theorem qT2_ok {W : qW} {s : Nat} (hf : qWf W) (hs : s < W.nS) : qWf (qT2 s W) ∧ qsta W (qT2 s W) := by
  obtain ⟨h1, h2⟩ := qT1_ok hf hs
  have h3 := qfo_inv (I := fun V => qWf V ∧ qsta (qT1 s W) V) (st := qfail s) (s := s) ⟨h1, qsta_rfl _⟩ (fun V p hp _ hI => qfail_inv (by rw [h2.nS]; exact hs) hp hI) (qT1 s W).nP (Nat.le_refl _)
  exact ⟨h3.1, qsta_tr h2 h3.2⟩
theorem qT3_t {W : qW} {s : Nat} (hf : qWf W) (hs : s < W.nS) : qWf (qT3 s W) ∧ qonlyT (qT2 s W) (qT3 s W) := by
  obtain ⟨h1, h2⟩ := qT2_ok hf hs
  exact qfo_inv (I := fun V => qWf V ∧ qonlyT (qT2 s W) V) (st := qtry) (s := s) ⟨h1, rfl, rfl, rfl⟩ (fun V p hp _ hI => qtry_inv hp hI) (qT2 s W).nP (Nat.le_refl _)
theorem qT3_ok {W : qW} {s : Nat} (hf : qWf W) (hs : s < W.nS) : qWf (qT3 s W) ∧ qsta W (qT3 s W) :=
  ⟨(qT3_t hf hs).1, qsta_tr (qT2_ok hf hs).2 (qT3_t hf hs).2.sta⟩
theorem qG_ok {W : qW} (hf : qWf W) (s : Nat) : (∀ p, W.pcar p = none → qG W s p = 0) ∧ (∀ p, W.psite p ≠ s → qG W s p = 0) ∧ (∀ p, qG W s p ≤ 1000) ∧ (∀ p c, W.pcar p = some c → W.chg c + qG W s p ≤ W.want c) := by
  have h1 := qG_le W s
  have h2 := qaS_le W s
  refine ⟨fun p hp => ?_, fun p hp => ?_, fun p => ?_, fun p c hp => ?_⟩
  · have h3 : qask W p = 0 := by unfold qask; rw [hp]
    have := h1 p; have := h2 p; omega
  · have h3 := h1 p
    rw [qaS_eq, if_neg hp] at h3; omega
  · have := h1 p; have := h2 p; have := qask_1000 hf p; omega
  · obtain ⟨a, b, d, e⟩ := qask_le hf hp
    have := h1 p; have := h2 p; omega
theorem qT4_ok {W : qW} {s : Nat} (hf : qWf W) (hs : s < W.nS) : qWf (qT4 s W) ∧ qsta W (qT4 s W) ∧ (qT4 s W).2 = (qT3 s W).2 := by
  obtain ⟨h1, h2⟩ := qT3_ok hf hs
  exact ⟨qchg_wf h1 (by rw [h2.nS]; exact hs) (qG_ok h1 s).2.2.2, qsta_tr h2 (qchg_sta _ _ _), qchg_2 _ _ _⟩
theorem qT5_ok {W : qW} {s : Nat} (hf : qWf W) (hs : s < W.nS) : qWf (qT5 s W) ∧ qsta W (qT5 s W) := by
  obtain ⟨h1, h2, _⟩ := qT4_ok hf hs
  have h3 := qfo_inv (I := fun V => qWf V ∧ qsta (qT4 s W) V ∧ qsub (qT4 s W) V) (st := qend (qask (qT3 s W)) s) (s := s) ⟨h1, qsta_rfl _, fun _ _ h => h⟩ (fun V p hp _ hI => qend_inv hI) (qT4 s W).nP (Nat.le_refl _)
  exact ⟨h3.1, qsta_tr h2 h3.2.1⟩
theorem qT6_ok {W : qW} {s : Nat} (hf : qWf W) (hs : s < W.nS) : qWf (qT6 s W) ∧ qsta W (qT6 s W) := by
  obtain ⟨h1, h2⟩ := qT5_ok hf hs
  have h3 := qwaits_ok (s := s) h1 ((qT5 s W).q s).length
  rw [List.take_length] at h3
  exact ⟨h3.1, qsta_tr h2 h3.2.1⟩
/-! what the world has given is apart -/
theorem qv_away (W : qW) (x c : Nat) : qaway (W.up 0 6 x) c = (qaway W c).up 0 6 x := by
  unfold qaway
  have e1 : (W.up 0 6 x).wh c = W.wh c := rfl
  rw [e1]
  split
  · show ((W.upP (W.wh c - 200) none).up 0 6 x).up 29 c 0 = _
    rw [qW_comm _ (f := 0) (g := 29) (by omega)]
  · show ((W.upQ (W.wh c - 100) ((W.q (W.wh c - 100)).erase c)).up 0 6 x).up 29 c 0 = _
    rw [qW_comm _ (f := 0) (g := 29) (by omega)]
theorem qv_take (W : qW) (x s p : Nat) : qtake s (W.up 0 6 x) p = (qtake s W p).up 0 6 x := by
  unfold qtake
  have e1 : (W.up 0 6 x).pcar p = W.pcar p := rfl
  have e2 : qfirstc (W.up 0 6 x) s p = qfirstc W s p := rfl
  rw [e1, e2]
  split
  · split
    · rfl
    · rename_i c _
      unfold qtk1
      show (((((W.upQ s ((W.q s).erase c)).upP p (some c)).up 0 6 x).up 29 c (200 + p)).up 37 c (W.tried c ||| 2 ^ p)).up 38 c W.now = _
      rw [qW_comm _ (f := 0) (g := 29) (by omega), qW_comm _ (f := 0) (g := 37) (by omega), qW_comm _ (f := 0) (g := 38) (by omega)]
  · rfl
theorem qv_fail (W : qW) (x s p : Nat) : qfail s (W.up 0 6 x) p = (qfail s W p).up 0 6 x := by
  unfold qfail
  have e1 : (W.up 0 6 x).pcar p = W.pcar p := rfl
  have e2 : (W.up 0 6 x).pfail p = W.pfail p := rfl
  rw [e1]
  split
  · rfl
  · rename_i c _
    rw [e2]
    split
    · unfold qfl1
      show ((((W.upT (qadd W.tr (p, c, W.now, 1))).upP p none).up 0 6 x).up 29 c (100 + s)).upQ s (c :: W.q s) = _
      rw [qW_comm _ (f := 0) (g := 29) (by omega)]
      rfl
    · rfl
theorem qv_try (W : qW) (x p : Nat) : qtry (W.up 0 6 x) p = (qtry W p).up 0 6 x := by
  unfold qtry
  have e1 : (W.up 0 6 x).pcar p = W.pcar p := rfl
  rw [e1]
  split
  · rfl
  · rename_i c _
    have e2 : (W.up 0 6 x).plugAt c = W.plugAt c := rfl
    have e3 : (W.up 0 6 x).now = W.now := rfl
    rw [e2, e3]
    split
    · rfl
    · rfl
theorem qv_chR (G : Nat → Nat) (W : qW) (x p : Nat) : qchR G (W.up 0 6 x) p = (qchR G W p).up 0 6 x := by
  cases hpc : W.pcar p with
  | none => rw [qchR_no hpc, qchR_no (W := W.up 0 6 x) hpc]
  | some c =>
    rw [qchR_eq hpc, qchR_eq (W := W.up 0 6 x) hpc]
    split
    · show (((W.up 0 6 x).up 28 c (W.chg c + G p)).up 34 c (W.got c + G p)).up 36 c (W.pays c + G p * qpr W) = _
      rw [qW_comm _ (f := 0) (g := 28) (by omega), qW_comm _ (f := 0) (g := 34) (by omega), qW_comm _ (f := 0) (g := 36) (by omega)]
    · rfl
theorem qv_idl (W : qW) (x s c : Nat) : qidl (W.up 0 6 x) s c = (qidl W s c).up 0 6 x := by
  unfold qidl
  show (((W.up 0 6 x).up 32 c (W.idl c + 1)).up 33 c (W.idlAll c + 1)).up 36 c (W.pays c + if nI (W.after s) < nI (W.idl c + 1) then W.idle s else 0) = _
  rw [qW_comm _ (f := 0) (g := 32) (by omega), qW_comm _ (f := 0) (g := 33) (by omega), qW_comm _ (f := 0) (g := 36) (by omega)]
theorem qv_end (A : Nat → Nat) (W : qW) (x s p : Nat) : qend A s (W.up 0 6 x) p = (qend A s W p).up 0 6 x := by
  unfold qend
  have e1 : (W.up 0 6 x).pcar p = W.pcar p := rfl
  rw [e1]
  split
  · rfl
  · rename_i c _
    unfold qend1
    have e2 : (W.up 0 6 x).cap s = W.cap s := rfl
    have e3 : (W.up 0 6 x).bat c = W.bat c := rfl
    have e4 : (W.up 0 6 x).chg c = W.chg c := rfl
    have e5 : (W.up 0 6 x).want c = W.want c := rfl
    have e6 : qisw (W.up 0 6 x) s ((W.up 0 6 x).cab c) = qisw W s (W.cab c) := rfl
    rw [e2, e3, e4, e5, e6]
    split
    · exact qv_away W x c
    · split
      · have e7 : qidz (A p) s (W.up 0 6 x) c = (qidz (A p) s W c).up 0 6 x := by
          unfold qidz; split
          · exact qv_idl W x s c
          · rfl
        rw [e7]
        generalize qidz (A p) s W c = U
        unfold qpart
        have e8 : (U.up 0 6 x).stay c = U.stay c := rfl
        have e9 : (U.up 0 6 x).idl c = U.idl c := rfl
        rw [e8, e9]
        split
        · exact qv_away U x c
        · rfl
      · rfl
theorem qv_fold {st : qW → Nat → qW} {x : Nat} (h : ∀ V p, st (V.up 0 6 x) p = (st V p).up 0 6 x) (W : qW) (s : Nat) : ∀ n, qfold st (W.up 0 6 x) s n = (qfold st W s n).up 0 6 x
  | 0 => rfl
  | n + 1 => by
    unfold qfold
    rw [qv_fold h W s n]
    have e1 : (W.up 0 6 x).psite n = W.psite n := rfl
    rw [e1]
    split
    · exact h _ _
    · rfl
theorem qv_foldl {st : qW → Nat → qW} {x : Nat} (h : ∀ V p, st (V.up 0 6 x) p = (st V p).up 0 6 x) : ∀ (l : List Nat) (W : qW), l.foldl st (W.up 0 6 x) = (l.foldl st W).up 0 6 x
  | [], _ => rfl
  | p :: l, W => by rw [List.foldl_cons, h, qv_foldl h l, List.foldl_cons]
theorem qv_T1 (W : qW) (x s : Nat) : qT1 s (W.up 0 6 x) = (qT1 s W).up 0 6 x := qv_fold (fun V p => qv_take V x s p) W s W.nP
theorem qv_T2 (W : qW) (x s : Nat) : qT2 s (W.up 0 6 x) = (qT2 s W).up 0 6 x := by
  unfold qT2; rw [qv_T1]; exact qv_fold (fun V p => qv_fail V x s p) (qT1 s W) s (qT1 s W).nP
theorem qv_T3 (W : qW) (x s : Nat) : qT3 s (W.up 0 6 x) = (qT3 s W).up 0 6 x := by
  unfold qT3; rw [qv_T2]; exact qv_fold (fun V p => qv_try V x p) (qT2 s W) s (qT2 s W).nP
theorem qv_ask (W : qW) (x : Nat) : qask (W.up 0 6 x) = qask W := by funext p; rfl
theorem qv_G (W : qW) (x s : Nat) : qG (W.up 0 6 x) s = qG W s := by
  unfold qG qmy
  have e1 : qtm (W.up 0 6 x) = qtm W := by funext p; rfl
  have e2 : (W.up 0 6 x).pl s = W.pl s := rfl
  have e3 : (W.up 0 6 x).pow s = W.pow s := rfl
  have e4 : (W.up 0 6 x).first s = W.first s := rfl
  rw [qv_ask, e1, e2, e3, e4]
theorem qv_sm (W : qW) (x s : Nat) : qsm s (W.up 0 6 x) = qsm s W := by
  unfold qsm; rw [qv_T3, qv_G]; rfl
theorem qv_T4 (W : qW) (x s : Nat) : qT4 s (W.up 0 6 x) = (qT4 s W).up 0 6 x := by
  unfold qT4; rw [qv_T3, qv_G]
  unfold qchg
  show qW.up (((qT3 s W).pl s).foldl (qchR (qG (qT3 s W) s)) ((qT3 s W).up 0 6 x)) 14 s ((qT3 s W).sgiv s + qsml (qG (qT3 s W) s) ((qT3 s W).pl s)) = _
  rw [qv_foldl (fun V p => qv_chR _ V x p), qW_comm _ (f := 0) (g := 14) (by omega)]
theorem qv_T5 (W : qW) (x s : Nat) : qT5 s (W.up 0 6 x) = (qT5 s W).up 0 6 x := by
  unfold qT5; rw [qv_T3, qv_ask, qv_T4]; exact qv_fold (fun V p => qv_end _ V x s p) (qT4 s W) s (qT4 s W).nP
theorem qv_waits (W : qW) (x s : Nat) : qwaits s (W.up 0 6 x) = (qwaits s W).up 0 6 x := by
  unfold qwaits
  refine qv_foldl (fun V p => ?_) (W.q s) W
  unfold qwt
  rw [qW_comm _ (f := 0) (g := 35) (by omega)]
  rfl
theorem qv_T6 (W : qW) (x s : Nat) : qT6 s (W.up 0 6 x) = (qT6 s W).up 0 6 x := by
  unfold qT6; rw [qv_T5, qv_waits]
