/-! to and from queues -/
theorem qW_comm (W : qW) {f i x g j y : Nat} (e : f ≠ g ∨ i ≠ j) : (W.up f i x).up g j y = (W.up g j y).up f i x := by
  unfold qW.up
  refine Prod.ext ?_ rfl
  funext a b
  by_cases h1 : a = f ∧ b = i
  · by_cases h2 : a = g ∧ b = j
    · omega
    · simp [h1, h2]; intro z1 z2; omega
  · simp [h1]
theorem qW_idem (W : qW) {f i x y : Nat} : (W.up f i x).up f i y = W.up f i y := by
  unfold qW.up
  refine Prod.ext ?_ rfl
  funext a b
  by_cases h1 : a = f ∧ b = i
  · simp [h1]
  · simp [h1]
theorem qW_self (W : qW) {f i x : Nat} (e : W.1 f i = x) : W.up f i x = W := by
  unfold qW.up
  refine Prod.ext ?_ rfl
  funext a b
  by_cases h1 : a = f ∧ b = i
  · simp [h1, e]
  · simp [h1]
theorem qer_at {l : List Nat} (hl : l.Nodup) {k c : Nat} (hk : l[k]? = some c) : l.erase c = l.eraseIdx k := by
  rw [List.erase_eq_eraseIdx_of_idxOf]
  obtain ⟨h1, h2⟩ := List.getElem?_eq_some_iff.1 hk
  rw [← h2]; exact hl.idxOf_getElem k h1
theorem qer_len {l : List Nat} {k c : Nat} (hk : l[k]? = some c) : (l.erase c).length = l.length - 1 := List.length_erase_of_mem (List.mem_of_getElem? hk)
theorem qer_get {l : List Nat} (hl : l.Nodup) {k c : Nat} (hk : l[k]? = some c) {j x : Nat} (hj : (l.erase c)[j]? = some x) : (j < k ∧ l[j]? = some x) ∨ (k ≤ j ∧ j + 1 < l.length ∧ l[j + 1]? = some x) := by
  rw [qer_at hl hk, List.getElem?_eraseIdx] at hj
  split at hj
  · left; exact ⟨by assumption, hj⟩
  · right; exact ⟨by omega, (List.getElem?_eq_some_iff.1 hj).1, hj⟩
theorem qC_toL {h : zk_H} {W : qW} (hh : qC h W) {s c : Nat} (hs : s < 6) (hn : (W.q s).length < 12) : ∃ h1, f_X6_addLast SHP [.ref (19 + 3 * s), .int (nI c)] h = some (.null, h1) ∧ qC h1 (W.upQ s (W.q s ++ [c])) ∧ h1 (19 + 3 * s) 8 = nI ((W.q s).length + 1) ∧ ∀ k, k ≠ 19 + 3 * s → k ≠ 20 + 3 * s → h1 k = h k := by
  have e := hh.qn s hs
  refine ⟨_, qC_addLast hs e hn (nI c), qC_qU hh hs ?_ ?_ ?_, ?_, ?_⟩
  · intro a i ha; simp (disch := omega) only [qv_s, qv_n]
  · rw [List.length_append]; exact qv_s ⟨rfl, rfl⟩
  · intro k x hk
    rw [List.getElem?_append] at hk
    simp (disch := omega) only [qv_n]
    split at hk
    · rw [qv_n (by omega)]; exact hh.q s hs k x hk
    · have hi : k = (W.q s).length := by
        have := (List.getElem?_eq_some_iff.1 hk).1
        simp at this; omega
      subst hi
      simp at hk; subst hk
      exact qv_s ⟨rfl, rfl⟩
  · exact qv_s ⟨rfl, rfl⟩
  · intro k h1 h2; simp (disch := omega) only [qup_c]
theorem qC_toF {h : zk_H} {W : qW} (hh : qC h W) {s c : Nat} (hs : s < 6) (hn : (W.q s).length < 12) : ∃ h1, f_X6_addFirst SHP [.ref (19 + 3 * s), .int (nI c)] h = some (.null, h1) ∧ qC h1 (W.upQ s (c :: W.q s)) ∧ ∀ k, k ≠ 19 + 3 * s → k ≠ 20 + 3 * s → h1 k = h k := by
  have e := hh.qn s hs
  refine ⟨_, qC_addFirst hs e hn (nI c), qC_qU hh hs ?_ ?_ ?_, ?_⟩
  · intro a i ha; simp (disch := omega) only [qv_s, qv_n]; rw [if_neg (by omega)]
  · exact qv_s ⟨rfl, rfl⟩
  · intro k x hk
    simp (disch := omega) only [qv_n]
    cases k with
    | zero => simp at hk; subst hk; exact qv_s ⟨rfl, rfl⟩
    | succ k =>
      simp at hk
      have := (List.getElem?_eq_some_iff.1 hk).1
      rw [qv_n (by omega), if_pos (by omega)]
      exact hh.q s hs k x hk
  · intro k h1 h2; simp (disch := omega) only [qup_c]; funext j; rw [if_neg (by omega)]
theorem qC_rm {h : zk_H} {W : qW} (hf : qWf W) (hh : qC h W) {s k c : Nat} (hs : s < 6) (hk : (W.q s)[k]? = some c) : ∃ h1, f_X6_removeAt SHP [.ref (19 + 3 * s), .int (nI k)] h = some (.null, h1) ∧ qC h1 (W.upQ s ((W.q s).erase c)) ∧ ∀ k, k ≠ 19 + 3 * s → k ≠ 20 + 3 * s → h1 k = h k := by
  have e := hh.qn s hs
  have hl := hf.qlen s
  have hkl := (List.getElem?_eq_some_iff.1 hk).1
  refine ⟨_, qC_removeAt hs e hl hkl, qC_qU hh hs ?_ ?_ ?_, ?_⟩
  · intro a i ha; simp (disch := omega) only [qv_s, qv_n]; rw [if_neg (by omega)]
  · rw [qer_len hk]; exact qv_s ⟨rfl, rfl⟩
  · intro j x hj
    simp (disch := omega) only [qv_n]
    rcases qer_get (hf.qNo s) hk hj with ⟨h1, h2⟩ | ⟨h1, h3, h2⟩
    · rw [if_neg (by omega)]; exact hh.q s hs j x h2
    · rw [if_pos ⟨trivial, h1, h3⟩]; exact hh.q s hs (j + 1) x h2
  · intro k h1 h2; simp (disch := omega) only [qup_c]; funext j; rw [if_neg (by omega)]
theorem qC_place {h : zk_H} {W : qW} (hf : qWf W) (hh : qC h W) {s k c : Nat} (hs : s < 6) (hk : (W.q s)[k]? = some c) : f_X6_placeOf SHP [.ref (19 + 3 * s), .int (nI c)] h = some (.int (nI k), h) :=
  qC_placeOf hs (hh.qn s hs) (hf.qlen s) (hf.qNo s) (fun x hx => Nat.lt_of_lt_of_le (hf.qOk s x hx).1 hf.hC) (hh.q s hs) hk
theorem qR_toL {h : zk_H} {W : qW} (hs6 : W.nS ≤ 6) (hf : ∀ t, (W.q t).length ≤ 12) (hh : qR (fun r => h (179 + r)) W) {s c : Nat} (hs : s < W.nS) (hc : c < 12) (hn : (W.q s).length < 12) : ∃ h1, f_X12_toQueue SHP [.ref 178, .int (nI c), .int (nI s), .int (nI 0)] h = some (.null, h1) ∧ qR (fun r => h1 (179 + r)) ((W.upQ s (W.q s ++ [c])).up 29 c (100 + s)) ∧ h1 180 (9 * s + 6) = nI ((W.q s).length + 1) ∧ ∀ k, k < 179 ∨ 186 < k → h1 k = h k := by
  have e : h 180 (9 * s + 6) = _ := hh.qn s hs
  refine ⟨_, qR_toLast (by omega) hc e hn, qRu_wh (h := zk_up (zk_up h 181 (12 * s + (W.q s).length) (nI c)) 180 (9 * s + 6) (nI ((W.q s).length + 1))) (qR_qU hh hf ?_ ?_ ?_) c (100 + s), ?_, ?_⟩
  · intro a i ha; simp (disch := omega) only [qv_s, qv_n]
  · rw [List.length_append]; exact qv_s ⟨rfl, rfl⟩
  · intro k x hk
    rw [List.getElem?_append] at hk
    simp (disch := omega) only [qv_n]
    split at hk
    · rw [qv_n (by omega)]; exact hh.q s hs k x hk
    · have hi : k = (W.q s).length := by
        have := (List.getElem?_eq_some_iff.1 hk).1
        simp at this; omega
      subst hi
      simp at hk; subst hk
      exact qv_s ⟨rfl, rfl⟩
  · simp (disch := omega) only [qv_s, qv_n]
  · intro k h1; simp (disch := omega) only [qup_c]
theorem qR_toF {h : zk_H} {W : qW} (hs6 : W.nS ≤ 6) (hf : ∀ t, (W.q t).length ≤ 12) (hh : qR (fun r => h (179 + r)) W) {s c : Nat} (hs : s < W.nS) (hc : c < 12) (hn : (W.q s).length < 12) : ∃ h1, f_X12_toQueue SHP [.ref 178, .int (nI c), .int (nI s), .int (nI 1)] h = some (.null, h1) ∧ qR (fun r => h1 (179 + r)) ((W.upQ s (c :: W.q s)).up 29 c (100 + s)) ∧ ∀ k, k < 179 ∨ 186 < k → h1 k = h k := by
  have e : h 180 (9 * s + 6) = _ := hh.qn s hs
  refine ⟨_, qR_toFirst (by omega) hc e hn, qRu_wh (h := zk_up (zk_up (fun a j => if a = 181 ∧ 12 * s + 1 ≤ j ∧ j ≤ 12 * s + (W.q s).length then h a (j - 1) else h a j) 181 (12 * s) (nI c)) 180 (9 * s + 6) (nI ((W.q s).length + 1))) (qR_qU hh hf ?_ ?_ ?_) c (100 + s), ?_⟩
  · intro a i ha; simp (disch := omega) only [qv_s, qv_n]; rw [if_neg (by omega)]
  · exact qv_s ⟨rfl, rfl⟩
  · intro k x hk
    simp (disch := omega) only [qv_n]
    cases k with
    | zero => simp at hk; subst hk; exact qv_s ⟨rfl, rfl⟩
    | succ k =>
      simp at hk
      have := (List.getElem?_eq_some_iff.1 hk).1
      rw [qv_n (by omega), if_pos (by omega)]
      exact hh.q s hs k x hk
  · intro k h1; simp (disch := omega) only [qup_c]; funext j; rw [if_neg (by omega)]
theorem qR_rm {h : zk_H} {W : qW} (hf : qWf W) (hh : qR (fun r => h (179 + r)) W) {s c : Nat} (hc : c ∈ W.q s) : ∃ h1, f_X12_fromQueue SHP [.ref 178, .int (nI c)] h = some (.null, h1) ∧ qR (fun r => h1 (179 + r)) (W.upQ s ((W.q s).erase c)) ∧ ∀ k, k < 180 ∨ 181 < k → h1 k = h k := by
  obtain ⟨k, hk⟩ := List.getElem?_of_mem hc
  obtain ⟨hcn, hw⟩ := hf.qOk s c hc
  have hs : s < W.nS := by
    by_cases hz : s < W.nS
    · exact hz
    · have := (hf.freshS s (by omega)).2.2.2.2.2.2.2.2
      rw [this] at hc; cases hc
  have hs6 := hf.hS
  have hl := hf.qlen s
  have e : h 180 (9 * s + 6) = _ := hh.qn s hs
  have w5 : h 183 (16 * c + 5) = _ := hh.wh c hcn
  rw [hw] at w5
  have hkl := (List.getElem?_eq_some_iff.1 hk).1
  refine ⟨_, qR_from (by omega) e hl (hf.qNo s) (fun x hx => Nat.lt_of_lt_of_le (hf.qOk s x hx).1 hf.hC) w5 (hh.q s hs) hk, qR_qU hh hf.qlen ?_ ?_ ?_, ?_⟩
  · intro a i ha; simp (disch := omega) only [qv_s, qv_n]; rw [if_neg (by omega)]
  · rw [qer_len hk]; exact qv_s ⟨rfl, rfl⟩
  · intro j x hj
    simp (disch := omega) only [qv_n]
    rcases qer_get (hf.qNo s) hk hj with ⟨h1, h2⟩ | ⟨h1, h3, h2⟩
    · rw [if_neg (by omega)]; exact hh.q s hs j x h2
    · rw [if_pos ⟨trivial, by omega, by omega⟩]; exact hh.q s hs (j + 1) x h2
  · intro k h1; simp (disch := omega) only [qup_c]; funext j; rw [if_neg (by omega)]
/-- a car goes away -/
def qaway (W : qW) (c : Nat) : qW := if 200 ≤ W.wh c then (W.upP (W.wh c - 200) none).up 29 c 0 else (W.upQ (W.wh c - 100) ((W.q (W.wh c - 100)).erase c)).up 29 c 0
theorem qC_away {h : zk_H} {W : qW} (hf : qWf W) (hh : qC h W) {c : Nat} (hc : c < W.nC) (hw : W.wh c ≠ 0) : ∃ h1, f_X10_sendAway SHP [.ref 1, .int (nI c)] h = some (.null, h1) ∧ qC h1 (qaway W c) ∧ ∀ k, k < 19 ∨ 64 < k → h1 k = h k := by
  have hC := hf.hC
  have hP := hf.hP
  have hS := hf.hS
  have w5 := hh.wh c (by omega)
  rcases hf.whOk c hc with z | ⟨s, hs, z, hm⟩ | ⟨p, hp, z, hm⟩
  · exact absurd z hw
  · obtain ⟨k, hk⟩ := List.getElem?_of_mem hm
    obtain ⟨h1, e1, q1, fr⟩ := qC_rm hf hh (by omega) hk
    have hpl := qC_place hf hh (by omega) hk
    rw [z] at w5
    refine ⟨zk_up h1 (53 + c) 5 (nI 0), ?_, ?_, ?_⟩
    · simp -implicitDefEqProofs (disch := omega) [zq_r1, ze_c, ze_li, zq_li1, ze_lr, zq_lr1, zq_lr2, ze_ll, zq_ll1, ze_u, zq_u1, ze_b, zq_b1, zq_b3, ze_fi, ze_fd, ze_fl, ze_fs, ze_gi, ze_gl, ze_gn, ze_gf, zq_gf1, ze_al, zq_al1, zq_al3, ze_aa, zq_aa1, zq_aa3, ze_ev0, ze_ev, zq_ev1, zq_ev3, ze_ca, zq_ca1, ze_xc, zq_xc1, zq_xc3, ze_ck, zq_ck1, ze_rc, zq_rc1, ze_c1, zq_c11, ze_c2, zq_c21, zq_c23, ze_and, zq_andt, zq_andf, ze_or, zq_ort, zq_orf, ze_not, zq_not1, ze_it, zq_itt, zq_itf, zq_itd, ze_skip, ze_brk, ze_cnt, ze_ret0, ze_seq, zq_seq0, zq_seq1, zq_seq2, zq_seq3, ze_si, zq_si1, ze_sr, zq_sr1, ze_inc, zq_inc1, ze_ok0, ze_okS, zq_oki, zq_okr, zq_oka, zq_okf, zq_h1, ze_pf, zq_pf1, zq_pf3, ze_pfo, zq_pfo1, zq_pfo21, zq_pfo31, zq_pfo41, ze_as, zq_as1, zq_as21, zq_as31, ze_aso, zq_aso1, zq_aso21, zq_aso31, zq_aso41, zq_aso51, ze_if, zq_ift, zq_iff, zq_ifd, ze_ret, zq_ret1, ze_pk0, ze_pk1, ze_sw, zq_sw1, ze_cps, zq_cps1, ze_one, zq_o1t, zq_o1f, zq_o20, zq_o22, zq_o21, zq_o23, zq_o30, zq_len1, zq_pad0, zq_padS, ze_sem, ze_fl0, ze_flI, ze_flR, ze_flA, ze_flL, zq_semi, zq_semv, zq_semb0, zq_semb1, List.getElem?_cons_zero, List.getElem?_cons_succ, List.set_cons_zero, List.set_cons_succ, List.length_cons, List.length_nil, List.cons_append, List.nil_append, q_outT, q_outF, q_inT, q_inF, qn_an, qn_ltt, qn_ltf, qn_let, qn_lef, qn_eqt, qn_eqf, qn_sub, nI_add, pk_mul, qn_div, qn_modN, qn_nn, qn_np, qn_pn, qn_nlt, qn_pln, qn_nle, qn_ple, qn_0, qn_1, qn_2, qn_3, qn_4, qn_5, qn_6, qn_7, qn_8, qn_9, qn_10, qn_11, qn_12, qn_13, qn_14, qn_15, qn_16, qn_19, qn_20, qn_21, qn_24, qn_27, qn_29, qn_30, qn_31, qn_32, qn_33, qn_39, qn_40, qn_42, qn_48, qn_50, qn_54, qn_57, qn_59, qn_60, qn_63, qn_72, qn_96, qn_97, qn_99, qn_100, qn_122, qn_128, qn_150, qn_192, qn_199, qn_200, qn_201, qn_236, qn_240, qn_300, qn_998, qn_999, qn_1000, qn_2000, qn_2230, qn_9999, qn_10000, qn_114602, qn_180392, qn_664272, qn_1000000, qn_3379448, qn_10256063, qv_s, qv_n, qo_0_0, qo_0_1, qo_0_2, qo_0_3, qo_0_4, qo_0_5, qo_0_6, qo_0_7, qp_0_7, qo_1_0, qo_1_1, qo_1_2, qo_1_3, qo_1_4, qo_1_5, qo_1_6, qo_1_7, qp_1_7, qo_1_8, qp_1_8, qo_1_9, qp_1_9, qo_1_10, qp_1_10, qo_1_11, qp_1_11, qo_1_12, qp_1_12, qo_1_13, qp_1_13, qo_6_0, qo_6_1, qo_6_2, qo_6_3, qo_6_4, qp_6_4, qo_6_5, qp_6_5, qo_11_0, qo_11_1, qo_11_2, qo_11_3, qp_11_3, qo_15_0, qo_15_1, qo_15_2, qo_15_3, qp_15_3, qo_129_0, qo_129_1, qp_129_1, qo_129_2, qp_129_2, qo_129_3, qp_129_3, qo_129_4, qp_129_4, qo_129_5, qp_129_5, qo_129_6, qp_129_6, qo_129_7, qp_129_7, qo_129_8, qp_129_8, qo_131_0, qo_131_1, qo_131_2, qo_131_3, qo_131_4, qo_131_5, qo_131_6, qp_131_6, qo_131_7, qo_131_8, qp_131_8, qo_131_9, qp_131_9, qo_131_10, qp_131_10, qo_152_0, qo_152_1, qo_155_0, qo_155_1, qo_155_2, qo_159_0, qo_159_1, qo_159_2, qo_159_3, qp_159_3, qo_159_4, qp_159_4, qf_site_0, qf_sitew_0, qf_site_1, qf_sitew_1, qf_site_2, qf_sitew_2, qf_site_3, qf_sitew_3, qf_site_4, qf_sitew_4, qf_site_5, qf_sitew_5, qf_site_6, qf_sitew_6, qf_site_7, qf_sitew_7, qf_site_8, qf_sitew_8, qf_site_9, qf_sitew_9, qf_site_10, qf_site_11, qf_plug_0, qf_plugw_0, qf_plug_1, qf_plugw_1, qf_plug_2, qf_plugw_2, qf_plug_3, qf_plugw_3, qf_plug_4, qf_plugw_4, qf_plug_5, qf_plugw_5, qf_car_0, qf_carw_0, qf_car_1, qf_carw_1, qf_car_2, qf_carw_2, qf_car_3, qf_carw_3, qf_car_4, qf_carw_4, qf_car_5, qf_carw_5, qf_car_6, qf_carw_6, qf_car_7, qf_carw_7, qf_car_8, qf_carw_8, qf_car_9, qf_carw_9, qf_car_10, qf_carw_10, qf_car_11, qf_carw_11, qf_car_12, qf_carw_12, qf_car_13, qf_carw_13, qf_car_14, qf_carw_14, qa_5, qa_7, qa_8, qa_9, qa_10, qa_12, qa_13, qa_14, qa_16, qa_17, qa_18, qa_130, qa_132, qa_133, qa_134, qa_135, qa_151, qa_153, qa_154, qa_156, qa_157, qa_158, qa_177, qa_queue, qa_splug, qa_arr, qa_chg, qa_best, qa_sco, qw_5, qw_7, qw_8, qw_9, qw_10, qw_12, qw_13, qw_14, qw_16, qw_17, qw_18, qw_130, qw_132, qw_133, qw_134, qw_135, qw_151, qw_153, qw_154, qw_156, qw_157, qw_158, qw_177, qw_queue, qw_splug, qw_arr, qw_chg, qw_best, qw_sco, qr_site, qr_plug, qr_car, qr_arr, qr_chg, qr_best, qr_sco, qs_site, qs_plug, qs_car, qc_0, qc_1, qc_6, qc_11, qc_15, qc_129, qc_131, qc_152, qc_155, qc_159, f_X10_sendAway, b_X10_sendAway, w5, e1, hpl]
    · rw [qaway, if_neg (by omega), z, show 100 + s - 100 = s by omega]
      exact qCu_wh q1 c (by omega) 0
    · intro k hk; rw [qup_c (by omega)]; exact fr k (by omega) (by omega)
  · rw [z] at w5
    refine ⟨zk_up (zk_up h (37 + p) 3 (- nI 1)) (53 + c) 5 (nI 0), ?_, ?_, ?_⟩
    · simp -implicitDefEqProofs (disch := omega) [zq_r1, ze_c, ze_li, zq_li1, ze_lr, zq_lr1, zq_lr2, ze_ll, zq_ll1, ze_u, zq_u1, ze_b, zq_b1, zq_b3, ze_fi, ze_fd, ze_fl, ze_fs, ze_gi, ze_gl, ze_gn, ze_gf, zq_gf1, ze_al, zq_al1, zq_al3, ze_aa, zq_aa1, zq_aa3, ze_ev0, ze_ev, zq_ev1, zq_ev3, ze_ca, zq_ca1, ze_xc, zq_xc1, zq_xc3, ze_ck, zq_ck1, ze_rc, zq_rc1, ze_c1, zq_c11, ze_c2, zq_c21, zq_c23, ze_and, zq_andt, zq_andf, ze_or, zq_ort, zq_orf, ze_not, zq_not1, ze_it, zq_itt, zq_itf, zq_itd, ze_skip, ze_brk, ze_cnt, ze_ret0, ze_seq, zq_seq0, zq_seq1, zq_seq2, zq_seq3, ze_si, zq_si1, ze_sr, zq_sr1, ze_inc, zq_inc1, ze_ok0, ze_okS, zq_oki, zq_okr, zq_oka, zq_okf, zq_h1, ze_pf, zq_pf1, zq_pf3, ze_pfo, zq_pfo1, zq_pfo21, zq_pfo31, zq_pfo41, ze_as, zq_as1, zq_as21, zq_as31, ze_aso, zq_aso1, zq_aso21, zq_aso31, zq_aso41, zq_aso51, ze_if, zq_ift, zq_iff, zq_ifd, ze_ret, zq_ret1, ze_pk0, ze_pk1, ze_sw, zq_sw1, ze_cps, zq_cps1, ze_one, zq_o1t, zq_o1f, zq_o20, zq_o22, zq_o21, zq_o23, zq_o30, zq_len1, zq_pad0, zq_padS, ze_sem, ze_fl0, ze_flI, ze_flR, ze_flA, ze_flL, zq_semi, zq_semv, zq_semb0, zq_semb1, List.getElem?_cons_zero, List.getElem?_cons_succ, List.set_cons_zero, List.set_cons_succ, List.length_cons, List.length_nil, List.cons_append, List.nil_append, q_outT, q_outF, q_inT, q_inF, qn_an, qn_ltt, qn_ltf, qn_let, qn_lef, qn_eqt, qn_eqf, qn_sub, nI_add, pk_mul, qn_div, qn_modN, qn_nn, qn_np, qn_pn, qn_nlt, qn_pln, qn_nle, qn_ple, qn_0, qn_1, qn_2, qn_3, qn_4, qn_5, qn_6, qn_7, qn_8, qn_9, qn_10, qn_11, qn_12, qn_13, qn_14, qn_15, qn_16, qn_19, qn_20, qn_21, qn_24, qn_27, qn_29, qn_30, qn_31, qn_32, qn_33, qn_39, qn_40, qn_42, qn_48, qn_50, qn_54, qn_57, qn_59, qn_60, qn_63, qn_72, qn_96, qn_97, qn_99, qn_100, qn_122, qn_128, qn_150, qn_192, qn_199, qn_200, qn_201, qn_236, qn_240, qn_300, qn_998, qn_999, qn_1000, qn_2000, qn_2230, qn_9999, qn_10000, qn_114602, qn_180392, qn_664272, qn_1000000, qn_3379448, qn_10256063, qv_s, qv_n, qo_0_0, qo_0_1, qo_0_2, qo_0_3, qo_0_4, qo_0_5, qo_0_6, qo_0_7, qp_0_7, qo_1_0, qo_1_1, qo_1_2, qo_1_3, qo_1_4, qo_1_5, qo_1_6, qo_1_7, qp_1_7, qo_1_8, qp_1_8, qo_1_9, qp_1_9, qo_1_10, qp_1_10, qo_1_11, qp_1_11, qo_1_12, qp_1_12, qo_1_13, qp_1_13, qo_6_0, qo_6_1, qo_6_2, qo_6_3, qo_6_4, qp_6_4, qo_6_5, qp_6_5, qo_11_0, qo_11_1, qo_11_2, qo_11_3, qp_11_3, qo_15_0, qo_15_1, qo_15_2, qo_15_3, qp_15_3, qo_129_0, qo_129_1, qp_129_1, qo_129_2, qp_129_2, qo_129_3, qp_129_3, qo_129_4, qp_129_4, qo_129_5, qp_129_5, qo_129_6, qp_129_6, qo_129_7, qp_129_7, qo_129_8, qp_129_8, qo_131_0, qo_131_1, qo_131_2, qo_131_3, qo_131_4, qo_131_5, qo_131_6, qp_131_6, qo_131_7, qo_131_8, qp_131_8, qo_131_9, qp_131_9, qo_131_10, qp_131_10, qo_152_0, qo_152_1, qo_155_0, qo_155_1, qo_155_2, qo_159_0, qo_159_1, qo_159_2, qo_159_3, qp_159_3, qo_159_4, qp_159_4, qf_site_0, qf_sitew_0, qf_site_1, qf_sitew_1, qf_site_2, qf_sitew_2, qf_site_3, qf_sitew_3, qf_site_4, qf_sitew_4, qf_site_5, qf_sitew_5, qf_site_6, qf_sitew_6, qf_site_7, qf_sitew_7, qf_site_8, qf_sitew_8, qf_site_9, qf_sitew_9, qf_site_10, qf_site_11, qf_plug_0, qf_plugw_0, qf_plug_1, qf_plugw_1, qf_plug_2, qf_plugw_2, qf_plug_3, qf_plugw_3, qf_plug_4, qf_plugw_4, qf_plug_5, qf_plugw_5, qf_car_0, qf_carw_0, qf_car_1, qf_carw_1, qf_car_2, qf_carw_2, qf_car_3, qf_carw_3, qf_car_4, qf_carw_4, qf_car_5, qf_carw_5, qf_car_6, qf_carw_6, qf_car_7, qf_carw_7, qf_car_8, qf_carw_8, qf_car_9, qf_carw_9, qf_car_10, qf_carw_10, qf_car_11, qf_carw_11, qf_car_12, qf_carw_12, qf_car_13, qf_carw_13, qf_car_14, qf_carw_14, qa_5, qa_7, qa_8, qa_9, qa_10, qa_12, qa_13, qa_14, qa_16, qa_17, qa_18, qa_130, qa_132, qa_133, qa_134, qa_135, qa_151, qa_153, qa_154, qa_156, qa_157, qa_158, qa_177, qa_queue, qa_splug, qa_arr, qa_chg, qa_best, qa_sco, qw_5, qw_7, qw_8, qw_9, qw_10, qw_12, qw_13, qw_14, qw_16, qw_17, qw_18, qw_130, qw_132, qw_133, qw_134, qw_135, qw_151, qw_153, qw_154, qw_156, qw_157, qw_158, qw_177, qw_queue, qw_splug, qw_arr, qw_chg, qw_best, qw_sco, qr_site, qr_plug, qr_car, qr_arr, qr_chg, qr_best, qr_sco, qs_site, qs_plug, qs_car, qc_0, qc_1, qc_6, qc_11, qc_15, qc_129, qc_131, qc_152, qc_155, qc_159, f_X10_sendAway, b_X10_sendAway, w5]
    · rw [qaway, if_pos (by omega), z, show 200 + p - 200 = p by omega]
      refine qCu_wh (qC_pU hh (by omega) ?_ ?_) c (by omega) 0
      · intro a i ha; simp (disch := omega) only [qv_s, qv_n]
      · exact qv_s ⟨rfl, rfl⟩
    · intro k hk; simp (disch := omega) only [qup_c]
theorem qR_away {h : zk_H} {W : qW} (hf : qWf W) (hh : qR (fun r => h (179 + r)) W) {c : Nat} (hc : c < W.nC) (hw : W.wh c ≠ 0) : ∃ h1, f_X12_goAway SHP [.ref 178, .int (nI c)] h = some (.null, h1) ∧ qR (fun r => h1 (179 + r)) (qaway W c) ∧ (∀ k, k < 180 ∨ 183 < k → h1 k = h k) ∧ ∀ i, i % 16 ≠ 5 → h1 183 i = h 183 i := by
  have hC := hf.hC
  have hP := hf.hP
  have hS := hf.hS
  have w5 : h 183 (16 * c + 5) = _ := hh.wh c hc
  rcases hf.whOk c hc with z | ⟨s, hs, z, hm⟩ | ⟨p, hp, z, hm⟩
  · exact absurd z hw
  · obtain ⟨h1, e1, q1, fr⟩ := qR_rm hf hh hm
    rw [z] at w5
    refine ⟨zk_up h1 183 (16 * c + 5) (nI 0), ?_, ?_, ?_, ?_⟩
    · simp -implicitDefEqProofs (disch := omega) [zq_r1, ze_c, ze_li, zq_li1, ze_lr, zq_lr1, zq_lr2, ze_ll, zq_ll1, ze_u, zq_u1, ze_b, zq_b1, zq_b3, ze_fi, ze_fd, ze_fl, ze_fs, ze_gi, ze_gl, ze_gn, ze_gf, zq_gf1, ze_al, zq_al1, zq_al3, ze_aa, zq_aa1, zq_aa3, ze_ev0, ze_ev, zq_ev1, zq_ev3, ze_ca, zq_ca1, ze_xc, zq_xc1, zq_xc3, ze_ck, zq_ck1, ze_rc, zq_rc1, ze_c1, zq_c11, ze_c2, zq_c21, zq_c23, ze_and, zq_andt, zq_andf, ze_or, zq_ort, zq_orf, ze_not, zq_not1, ze_it, zq_itt, zq_itf, zq_itd, ze_skip, ze_brk, ze_cnt, ze_ret0, ze_seq, zq_seq0, zq_seq1, zq_seq2, zq_seq3, ze_si, zq_si1, ze_sr, zq_sr1, ze_inc, zq_inc1, ze_ok0, ze_okS, zq_oki, zq_okr, zq_oka, zq_okf, zq_h1, ze_pf, zq_pf1, zq_pf3, ze_pfo, zq_pfo1, zq_pfo21, zq_pfo31, zq_pfo41, ze_as, zq_as1, zq_as21, zq_as31, ze_aso, zq_aso1, zq_aso21, zq_aso31, zq_aso41, zq_aso51, ze_if, zq_ift, zq_iff, zq_ifd, ze_ret, zq_ret1, ze_pk0, ze_pk1, ze_sw, zq_sw1, ze_cps, zq_cps1, ze_one, zq_o1t, zq_o1f, zq_o20, zq_o22, zq_o21, zq_o23, zq_o30, zq_len1, zq_pad0, zq_padS, ze_sem, ze_fl0, ze_flI, ze_flR, ze_flA, ze_flL, zq_semi, zq_semv, zq_semb0, zq_semb1, List.getElem?_cons_zero, List.getElem?_cons_succ, List.set_cons_zero, List.set_cons_succ, List.length_cons, List.length_nil, List.cons_append, List.nil_append, q_outT, q_outF, q_inT, q_inF, qn_an, qn_ltt, qn_ltf, qn_let, qn_lef, qn_eqt, qn_eqf, qn_sub, nI_add, pk_mul, qn_div, qn_modN, qn_nn, qn_np, qn_pn, qn_nlt, qn_pln, qn_nle, qn_ple, qn_0, qn_1, qn_2, qn_3, qn_4, qn_5, qn_6, qn_7, qn_8, qn_9, qn_10, qn_11, qn_12, qn_13, qn_14, qn_15, qn_16, qn_19, qn_20, qn_21, qn_24, qn_27, qn_29, qn_30, qn_31, qn_32, qn_33, qn_39, qn_40, qn_42, qn_48, qn_50, qn_54, qn_57, qn_59, qn_60, qn_63, qn_72, qn_96, qn_97, qn_99, qn_100, qn_122, qn_128, qn_150, qn_192, qn_199, qn_200, qn_201, qn_236, qn_240, qn_300, qn_998, qn_999, qn_1000, qn_2000, qn_2230, qn_9999, qn_10000, qn_114602, qn_180392, qn_664272, qn_1000000, qn_3379448, qn_10256063, qv_s, qv_n, qo_178_0, qo_178_1, qo_178_2, qo_178_3, qo_178_4, qo_178_5, qo_178_6, qo_178_7, qo_178_8, qo_178_9, qo_178_10, qo_178_11, qo_178_12, qo_178_13, qo_178_14, qp_178_14, qo_178_15, qp_178_15, qo_178_16, qp_178_16, qo_178_17, qo_178_18, qp_178_18, qo_178_19, qp_178_19, qo_178_20, qp_178_20, qo_178_21, qp_178_21, qo_178_22, qp_178_22, qo_178_23, qp_178_23, qo_178_24, qo_178_25, qo_178_26, qo_178_27, qo_178_28, qo_178_29, qo_178_30, qp_178_30, qo_178_31, qo_178_32, qp_178_32, qa_179, qa_180, qa_181, qa_182, qa_183, qa_184, qa_185, qa_186, qa_187, qa_188, qa_189, qa_190, qa_191, qa_192, qa_193, qa_194, qa_195, qa_196, qa_197, qa_198, qa_199, qa_200, qw_179, qw_180, qw_181, qw_182, qw_183, qw_184, qw_185, qw_186, qw_187, qw_188, qw_189, qw_190, qw_191, qw_192, qw_193, qw_194, qw_195, qw_196, qw_197, qw_198, qw_199, qw_200, qc_178, q_getN, q_putN, q_moreN, f_X12_goAway, b_X12_goAway, w5, e1]
    · rw [qaway, if_neg (by omega), z, show 100 + s - 100 = s by omega]
      exact qRu_wh q1 c 0
    · intro k hk; rw [qup_c (by omega)]; exact fr k (by omega)
    · intro i hi; rw [qv_n (by omega), fr 183 (by omega)]
  · rw [z] at w5
    refine ⟨zk_up (zk_up h 182 (6 * p + 3) (- nI 1)) 183 (16 * c + 5) (nI 0), ?_, ?_, ?_, ?_⟩
    · simp -implicitDefEqProofs (disch := omega) [zq_r1, ze_c, ze_li, zq_li1, ze_lr, zq_lr1, zq_lr2, ze_ll, zq_ll1, ze_u, zq_u1, ze_b, zq_b1, zq_b3, ze_fi, ze_fd, ze_fl, ze_fs, ze_gi, ze_gl, ze_gn, ze_gf, zq_gf1, ze_al, zq_al1, zq_al3, ze_aa, zq_aa1, zq_aa3, ze_ev0, ze_ev, zq_ev1, zq_ev3, ze_ca, zq_ca1, ze_xc, zq_xc1, zq_xc3, ze_ck, zq_ck1, ze_rc, zq_rc1, ze_c1, zq_c11, ze_c2, zq_c21, zq_c23, ze_and, zq_andt, zq_andf, ze_or, zq_ort, zq_orf, ze_not, zq_not1, ze_it, zq_itt, zq_itf, zq_itd, ze_skip, ze_brk, ze_cnt, ze_ret0, ze_seq, zq_seq0, zq_seq1, zq_seq2, zq_seq3, ze_si, zq_si1, ze_sr, zq_sr1, ze_inc, zq_inc1, ze_ok0, ze_okS, zq_oki, zq_okr, zq_oka, zq_okf, zq_h1, ze_pf, zq_pf1, zq_pf3, ze_pfo, zq_pfo1, zq_pfo21, zq_pfo31, zq_pfo41, ze_as, zq_as1, zq_as21, zq_as31, ze_aso, zq_aso1, zq_aso21, zq_aso31, zq_aso41, zq_aso51, ze_if, zq_ift, zq_iff, zq_ifd, ze_ret, zq_ret1, ze_pk0, ze_pk1, ze_sw, zq_sw1, ze_cps, zq_cps1, ze_one, zq_o1t, zq_o1f, zq_o20, zq_o22, zq_o21, zq_o23, zq_o30, zq_len1, zq_pad0, zq_padS, ze_sem, ze_fl0, ze_flI, ze_flR, ze_flA, ze_flL, zq_semi, zq_semv, zq_semb0, zq_semb1, List.getElem?_cons_zero, List.getElem?_cons_succ, List.set_cons_zero, List.set_cons_succ, List.length_cons, List.length_nil, List.cons_append, List.nil_append, q_outT, q_outF, q_inT, q_inF, qn_an, qn_ltt, qn_ltf, qn_let, qn_lef, qn_eqt, qn_eqf, qn_sub, nI_add, pk_mul, qn_div, qn_modN, qn_nn, qn_np, qn_pn, qn_nlt, qn_pln, qn_nle, qn_ple, qn_0, qn_1, qn_2, qn_3, qn_4, qn_5, qn_6, qn_7, qn_8, qn_9, qn_10, qn_11, qn_12, qn_13, qn_14, qn_15, qn_16, qn_19, qn_20, qn_21, qn_24, qn_27, qn_29, qn_30, qn_31, qn_32, qn_33, qn_39, qn_40, qn_42, qn_48, qn_50, qn_54, qn_57, qn_59, qn_60, qn_63, qn_72, qn_96, qn_97, qn_99, qn_100, qn_122, qn_128, qn_150, qn_192, qn_199, qn_200, qn_201, qn_236, qn_240, qn_300, qn_998, qn_999, qn_1000, qn_2000, qn_2230, qn_9999, qn_10000, qn_114602, qn_180392, qn_664272, qn_1000000, qn_3379448, qn_10256063, qv_s, qv_n, qo_178_0, qo_178_1, qo_178_2, qo_178_3, qo_178_4, qo_178_5, qo_178_6, qo_178_7, qo_178_8, qo_178_9, qo_178_10, qo_178_11, qo_178_12, qo_178_13, qo_178_14, qp_178_14, qo_178_15, qp_178_15, qo_178_16, qp_178_16, qo_178_17, qo_178_18, qp_178_18, qo_178_19, qp_178_19, qo_178_20, qp_178_20, qo_178_21, qp_178_21, qo_178_22, qp_178_22, qo_178_23, qp_178_23, qo_178_24, qo_178_25, qo_178_26, qo_178_27, qo_178_28, qo_178_29, qo_178_30, qp_178_30, qo_178_31, qo_178_32, qp_178_32, qa_179, qa_180, qa_181, qa_182, qa_183, qa_184, qa_185, qa_186, qa_187, qa_188, qa_189, qa_190, qa_191, qa_192, qa_193, qa_194, qa_195, qa_196, qa_197, qa_198, qa_199, qa_200, qw_179, qw_180, qw_181, qw_182, qw_183, qw_184, qw_185, qw_186, qw_187, qw_188, qw_189, qw_190, qw_191, qw_192, qw_193, qw_194, qw_195, qw_196, qw_197, qw_198, qw_199, qw_200, qc_178, q_getN, q_putN, q_moreN, f_X12_goAway, b_X12_goAway, w5]
    · rw [qaway, if_pos (by omega), z, show 200 + p - 200 = p by omega]
      refine qRu_wh (h := zk_up h 182 (6 * p + 3) (- nI 1)) (qR_pU hh ?_ ?_) c 0
      · intro a i ha; simp (disch := omega) only [qv_s, qv_n]
      · exact qv_s ⟨rfl, rfl⟩
    · intro k hk; simp (disch := omega) only [qup_c]
    · intro i hi; simp (disch := omega) only [qv_s, qv_n]
