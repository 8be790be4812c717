/-! what cars at plugs ask for, the reference -/
theorem qR_w15 {h g : zk_H} {W : qW} (hh : qR (fun r => h (179 + r)) W)  (e : ∀ a i, (179 ≤ a ∧ a < 187 ∧ (a = 183 → i % 16 ≠ 15)) → g a i = h a i)  : qR (fun r => g (179 + r)) (W) := by
  apply qR.mk
  · exact (e _ _ (by omega)).trans hh.now
  · exact (e _ _ (by omega)).trans hh.nS
  · exact (e _ _ (by omega)).trans hh.nP
  · exact (e _ _ (by omega)).trans hh.nC
  · exact (e _ _ (by omega)).trans hh.trn
  · exact (e _ _ (by omega)).trans hh.bAn
  · exact (e _ _ (by omega)).trans hh.bBn
  · exact (e _ _ (by omega)).trans hh.cold
  · exact (e _ _ (by omega)).trans hh.drift
  · exact (e _ _ (by omega)).trans hh.given
  · intro s y; exact (e _ _ (by omega)).trans (hh.price s y)
  · intro s y; exact (e _ _ (by omega)).trans (hh.km s y)
  · intro s y; exact (e _ _ (by omega)).trans (hh.pow s y)
  · intro s y; exact (e _ _ (by omega)).trans (hh.first s y)
  · intro s y; exact (e _ _ (by omega)).trans (hh.cap s y)
  · intro s y; exact (e _ _ (by omega)).trans (hh.idle s y)
  · intro s y; exact (e _ _ (by omega)).trans (hh.after s y)
  · intro s y; exact (e _ _ (by omega)).trans (hh.qn s y)
  · intro s y; exact (e _ _ (by omega)).trans (hh.wait s y)
  · intro s y; exact (e _ _ (by omega)).trans (hh.sgiv s y)
  · intro s y k c y2; exact (e _ _ (by omega)).trans (hh.q s y k c y2)
  · intro s y; exact (e _ _ (by omega)).trans (hh.psite s y)
  · intro s y; exact (e _ _ (by omega)).trans (hh.pmost s y)
  · intro s y; exact (e _ _ (by omega)).trans (hh.pcab s y)
  · intro s y; exact (e _ _ (by omega)).trans (hh.pcar s y)
  · intro s y; exact (e _ _ (by omega)).trans (hh.pfail s y)
  · intro s y; exact (e _ _ (by omega)).trans (hh.psays s y)
  · intro s y; exact (e _ _ (by omega)).trans (hh.bat s y)
  · intro s y; exact (e _ _ (by omega)).trans (hh.use s y)
  · intro s y; exact (e _ _ (by omega)).trans (hh.rate s y)
  · intro s y; exact (e _ _ (by omega)).trans (hh.cab s y)
  · intro s y; exact (e _ _ (by omega)).trans (hh.chg s y)
  · intro s y; exact (e _ _ (by omega)).trans (hh.wh s y)
  · intro s y; exact (e _ _ (by omega)).trans (hh.want s y)
  · intro s y; exact (e _ _ (by omega)).trans (hh.stay s y)
  · intro s y; exact (e _ _ (by omega)).trans (hh.got s y)
  · intro s y; exact (e _ _ (by omega)).trans (hh.waited s y)
  · intro s y; exact (e _ _ (by omega)).trans (hh.idlAll s y)
  · intro s y; exact (e _ _ (by omega)).trans (hh.pays s y)
  · intro s y; exact (e _ _ (by omega)).trans (hh.tried s y)
  · intro s y; exact (e _ _ (by omega)).trans (hh.idl s y)
  · intro s y; exact (e _ _ (by omega)).trans (hh.plugAt s y)
  · intro i x y; exact ⟨(e _ _ (by omega)).trans (hh.tr i x y).1, (e _ _ (by omega)).trans (hh.tr i x y).2.1, (e _ _ (by omega)).trans (hh.tr i x y).2.2.1, (e _ _ (by omega)).trans (hh.tr i x y).2.2.2⟩
  · intro i x y; exact ⟨(e _ _ (by omega)).trans (hh.bA i x y).1, (e _ _ (by omega)).trans (hh.bA i x y).2.1, (e _ _ (by omega)).trans (hh.bA i x y).2.2⟩
  · intro i x y; exact ⟨(e _ _ (by omega)).trans (hh.bB i x y).1, (e _ _ (by omega)).trans (hh.bB i x y).2.1, (e _ _ (by omega)).trans (hh.bB i x y).2.2⟩

theorem qcar_inj {W : qW} (hf : qWf W) {p q c : Nat} (h1 : W.pcar p = some c) (h2 : W.pcar q = some c) : p = q := by
  have a := (hf.carOk p c h1).2
  have b := (hf.carOk q c h2).2
  omega
theorem qR_ask {h : zk_H} {W : qW} (hf : qWf W) (hh : qR (fun r => h (179 + r)) W) {s : Nat} (hs : s < W.nS) : ∃ h1, f_X12_askAll SHP [.ref 178, .int (nI s)] h = some (.int (nI ((W.pl s).filter (fun p => decide (0 < qask W p))).length), h1) ∧ qR (fun r => h1 (179 + r)) (qfold qtry W s W.nP) ∧ (∀ q, q < W.nP → h1 194 q = nI (if W.psite q = s then qask W q else 0) ∧ h1 195 q = nI 0) ∧ (∀ q c, q < W.nP → W.psite q = s → W.pcar q = some c → h1 183 (16 * c + 15) = nI (if qask W q = 0 then 1 else 0)) ∧ ∀ k, (k < 179 ∨ 186 < k) → k ≠ 194 → k ≠ 195 → h1 k = h k := by
  have hS := hf.hS
  have hP := hf.hP
  have hC := hf.hC
  have l1 := q_for (c := c_X12_askAll_1 SHP) (b := b_X12_askAll_1 SHP) (u := u_X12_askAll_1 SHP) (P := fun p e g => (∃ u v w, e = [.ref 178, .int (nI s), .int (nI (((List.range p).filter (fun p => decide (W.psite p = s))).filter (fun p => decide (0 < qask W p))).length), .int (nI p), u, v, w]) ∧ qR (fun r => g (179 + r)) (qfold qtry W s p) ∧ (∀ q, q < p → g 194 q = nI (if W.psite q = s then qask W q else 0) ∧ g 195 q = nI 0) ∧ (∀ q c, q < p → W.psite q = s → W.pcar q = some c → g 183 (16 * c + 15) = nI (if qask W q = 0 then 1 else 0)) ∧ ∀ k, (k < 179 ∨ 186 < k) → k ≠ 194 → k ≠ 195 → g k = h k) W.nP (by
      rintro p e g hp ⟨⟨u, v, w, rfl⟩, hg, ha, hw, fr⟩
      have hI := qfo_inv (I := fun V => qWf V ∧ qonlyT W V) (st := qtry) (s := s) ⟨hf, rfl, rfl, rfl⟩ (fun V p hp _ hI => qtry_inv hp hI) p (by omega)
      simp only [qfold]
      have hcnt : (((List.range (p + 1)).filter (fun p => decide (W.psite p = s))).filter (fun p => decide (0 < qask W p))).length = (((List.range p).filter (fun p => decide (W.psite p = s))).filter (fun p => decide (0 < qask W p))).length + if W.psite p = s ∧ 0 < qask W p then 1 else 0 := by
        rw [List.range_succ, List.filter_append, List.filter_append, List.length_append]
        by_cases hz : W.psite p = s
        · by_cases hz2 : 0 < qask W p <;> simp [hz, hz2]
        · simp [hz]
      rw [hcnt]
      generalize (((List.range p).filter (fun p => decide (W.psite p = s))).filter (fun p => decide (0 < qask W p))).length = cn
      generalize qfold qtry W s p = V at hg hI ⊢
      obtain ⟨hfV, hoT⟩ := hI
      have hst := hoT.sta
      have hask := hoT.ask p
      have hpV : p < V.nP := by rw [hst.nP]; exact hp
      have hSV := hfV.hS
      have hnow := hfV.now
      have k0 : g 179 2 = _ := hg.nP
      rw [hst.nP] at k0
      have kn : g 179 0 = _ := hg.now
      have k1 : g 182 (6 * p) = _ := hg.psite p hpV
      have hps := hfV.psite p hpV
      have k2 : g 182 (6 * p + 3) = _ := hg.pcar p hpV
      have hpcW : V.pcar p = W.pcar p := by unfold qW.pcar; rw [hoT.2.2]
      by_cases hps2 : W.psite p = s
      · rw [if_pos hps2]
        have hps3 : V.psite p = s := by rw [hst.psite]; exact hps2
        rw [hps3] at k1
        unfold qtry
        cases hpc : V.pcar p with
        | none =>
          rw [hpc] at k2
          have hz : qask W p = 0 := by rw [← hask]; unfold qask; rw [hpc]
          refine ⟨[.ref 178, .int (nI s), .int (nI cn), .int (nI (p + 1)), .int (- nI 1), v, w], zk_up (zk_up g 194 p (nI 0)) 195 p (nI 0), ?_, ⟨.int (- nI 1), v, w, by simp [hz]⟩, ?_, ?_, ?_, ?_⟩
          · simp -implicitDefEqProofs (disch := omega) [zq_r1, ze_c, ze_li, zq_li1, ze_lr, zq_lr1, zq_lr2, ze_ll, zq_ll1, ze_u, zq_u1, ze_b, zq_b1, zq_b3, ze_fi, ze_fd, ze_fl, ze_fs, ze_gi, ze_gl, ze_gn, ze_gf, zq_gf1, ze_al, zq_al1, zq_al3, ze_aa, zq_aa1, zq_aa3, ze_ev0, ze_ev, zq_ev1, zq_ev3, ze_ca, zq_ca1, ze_xc, zq_xc1, zq_xc3, ze_ck, zq_ck1, ze_rc, zq_rc1, ze_c1, zq_c11, ze_c2, zq_c21, zq_c23, ze_and, zq_andt, zq_andf, ze_or, zq_ort, zq_orf, ze_not, zq_not1, ze_it, zq_itt, zq_itf, zq_itd, ze_skip, ze_brk, ze_cnt, ze_ret0, ze_seq, zq_seq0, zq_seq1, zq_seq2, zq_seq3, ze_si, zq_si1, ze_sr, zq_sr1, ze_inc, zq_inc1, ze_ok0, ze_okS, zq_oki, zq_okr, zq_oka, zq_okf, zq_h1, ze_pf, zq_pf1, zq_pf3, ze_pfo, zq_pfo1, zq_pfo21, zq_pfo31, zq_pfo41, ze_as, zq_as1, zq_as21, zq_as31, ze_aso, zq_aso1, zq_aso21, zq_aso31, zq_aso41, zq_aso51, ze_if, zq_ift, zq_iff, zq_ifd, ze_ret, zq_ret1, ze_pk0, ze_pk1, ze_sw, zq_sw1, ze_cps, zq_cps1, ze_one, zq_o1t, zq_o1f, zq_o20, zq_o22, zq_o21, zq_o23, zq_o30, zq_len1, zq_pad0, zq_padS, ze_sem, ze_fl0, ze_flI, ze_flR, ze_flA, ze_flL, zq_semi, zq_semv, zq_semb0, zq_semb1, List.getElem?_cons_zero, List.getElem?_cons_succ, List.set_cons_zero, List.set_cons_succ, List.length_cons, List.length_nil, List.cons_append, List.nil_append, q_outT, q_outF, q_inT, q_inF, qn_an, qn_ltt, qn_ltf, qn_let, qn_lef, qn_eqt, qn_eqf, qn_sub, nI_add, pk_mul, qn_div, qn_modN, qn_nn, qn_np, qn_pn, qn_nlt, qn_pln, qn_nle, qn_ple, qn_0, qn_1, qn_2, qn_3, qn_4, qn_5, qn_6, qn_7, qn_8, qn_9, qn_10, qn_11, qn_12, qn_13, qn_14, qn_15, qn_16, qn_19, qn_20, qn_21, qn_24, qn_27, qn_29, qn_30, qn_31, qn_32, qn_33, qn_39, qn_40, qn_42, qn_48, qn_50, qn_54, qn_57, qn_59, qn_60, qn_63, qn_72, qn_96, qn_97, qn_99, qn_100, qn_122, qn_128, qn_150, qn_192, qn_199, qn_200, qn_201, qn_236, qn_240, qn_300, qn_998, qn_999, qn_1000, qn_2000, qn_2230, qn_9999, qn_10000, qn_114602, qn_180392, qn_664272, qn_1000000, qn_3379448, qn_10256063, qv_s, qv_n, qo_178_0, qo_178_1, qo_178_2, qo_178_3, qo_178_4, qo_178_5, qo_178_6, qo_178_7, qo_178_8, qo_178_9, qo_178_10, qo_178_11, qo_178_12, qo_178_13, qo_178_14, qp_178_14, qo_178_15, qp_178_15, qo_178_16, qp_178_16, qo_178_17, qo_178_18, qp_178_18, qo_178_19, qp_178_19, qo_178_20, qp_178_20, qo_178_21, qp_178_21, qo_178_22, qp_178_22, qo_178_23, qp_178_23, qo_178_24, qo_178_25, qo_178_26, qo_178_27, qo_178_28, qo_178_29, qo_178_30, qp_178_30, qo_178_31, qo_178_32, qp_178_32, qa_179, qa_180, qa_181, qa_182, qa_183, qa_184, qa_185, qa_186, qa_187, qa_188, qa_189, qa_190, qa_191, qa_192, qa_193, qa_194, qa_195, qa_196, qa_197, qa_198, qa_199, qa_200, qw_179, qw_180, qw_181, qw_182, qw_183, qw_184, qw_185, qw_186, qw_187, qw_188, qw_189, qw_190, qw_191, qw_192, qw_193, qw_194, qw_195, qw_196, qw_197, qw_198, qw_199, qw_200, qc_178, q_getN, q_putN, q_moreN, c_X12_askAll_1, b_X12_askAll_1, u_X12_askAll_1, k0, k1, k2, qoc]
          · exact qR_of hg (fun k hk => by show zk_up (zk_up g 194 p (nI 0)) 195 p (nI 0) (179 + k) = _; rw [qup_c (by omega), qup_c (by omega)])
          · intro q hq
            by_cases hqp : q = p
            · subst hqp; rw [if_pos hps2, hz]; simp (disch := omega) only [↓qv_n, ↓qv_s]; exact ⟨trivial, trivial⟩
            · simp (disch := omega) only [↓qv_n]; exact ha q (by omega)
          · intro q c hq hqs hqc
            have hqp : q ≠ p := by intro z; rw [z, ← hpcW, hpc] at hqc; cases hqc
            simp (disch := omega) only [↓qv_n]; exact hw q c (by omega) hqs hqc
          · intro k h1 h2 h3; rw [qup_c h3, qup_c h2]; exact fr k h1 h2 h3
        | some c =>
          rw [hpc] at k2
          have hcw := hfV.carOk p c hpc
          have hCV := hfV.hC
          have hc12 : c < 12 := by omega
          obtain ⟨a1, a2, a3, a4⟩ := qask_le hfV hpc
          have hbat := (hfV.bat c hcw.1).2
          have hrate := (hfV.rate c hcw.1).2
          have hcold := hfV.cold
          have hpm := (hfV.pmost p hpV).2
          have hpa := hfV.plugAt c
          have k5 : g 183 (16 * c + 14) = _ := hg.plugAt c hcw.1
          have k6 : g 183 (16 * c + 4) = _ := hg.chg c hcw.1
          have k7 : g 183 (16 * c + 6) = _ := hg.want c hcw.1
          have hgA : qR (fun r => zk_up (zk_up g 194 p (nI 0)) 195 p (nI 0) (179 + r)) V := qR_of hg (fun k hk => by show zk_up (zk_up g 194 p (nI 0)) 195 p (nI 0) (179 + k) = _; rw [qup_c (by omega), qup_c (by omega)])
          have haskV : qask V p = if V.chg c < V.want c then (if qgn (V.bat c) (V.rate c) V.cold (V.pmost p) (V.chg c) < V.want c - V.chg c then qgn (V.bat c) (V.rate c) V.cold (V.pmost p) (V.chg c) else V.want c - V.chg c) else 0 := by
            unfold qask; rw [hpc]
          have hgn : qgn (V.bat c) (V.rate c) V.cold (V.pmost p) (V.chg c) ≤ 200 := by
            by_cases hz : V.chg c < V.bat c
            · have := (qgn_pos (r := V.rate c) (k := V.cold) (m := V.pmost p) hz).2; omega
            · unfold qgn
              simp only [show V.bat c - V.chg c = 0 by omega]
              simp
          have kgain : ∀ (G : zk_H) (U : qW), qR (fun r => G (179 + r)) U → U.1 = V.1 → f_X12_gainOf SHP [.ref 178, .int (nI c), .int (nI p), .int (nI (V.chg c))] G = some (.int (nI (qgn (V.bat c) (V.rate c) V.cold (V.pmost p) (V.chg c))), G) := by
            intro G U hG hU
            have b0 : U.nC = V.nC := by unfold qW.nC; rw [hU]
            have b00 : U.nP = V.nP := by unfold qW.nP; rw [hU]
            have c1 : G 183 (16 * c) = nI (U.bat c) := hG.bat c (by rw [b0]; exact hcw.1)
            have c2 : G 183 (16 * c + 2) = nI (U.rate c) := hG.rate c (by rw [b0]; exact hcw.1)
            have c3 : G 179 7 = nI U.cold := hG.cold
            have c4 : G 182 (6 * p + 1) = nI (U.pmost p) := hG.pmost p (by rw [b00]; exact hpV)
            rw [q_gR hc12 (by omega), c1, c2, c3, c4]
            have b1 : U.bat c = V.bat c := by unfold qW.bat; rw [hU]
            have b2 : U.rate c = V.rate c := by unfold qW.rate; rw [hU]
            have b3 : U.cold = V.cold := by unfold qW.cold; rw [hU]
            have b4 : U.pmost p = V.pmost p := by unfold qW.pmost; rw [hU]
            rw [b1, b2, b3, b4, qgm_n hbat hrate hcold hpm (by omega)]
          have step : ∀ (G : zk_H) (U : qW), qR (fun r => G (179 + r)) U → (∀ k, k ≠ 179 → k ≠ 185 → G k = zk_up (zk_up g 194 p (nI 0)) 195 p (nI 0) k) → (zk_one (c_X12_askAll_1 SHP) (b_X12_askAll_1 SHP) (u_X12_askAll_1 SHP) [.ref 178, .int (nI s), .int (nI cn), .int (nI p), u, v, w] g = some (.inr ([.ref 178, .int (nI s), .int (nI (cn + if 0 < qask V p then 1 else 0)), .int (nI (p + 1)), .int (nI c), .int (nI (V.want c - V.chg c)), .int (nI (qgn (V.bat c) (V.rate c) V.cold (V.pmost p) (V.chg c)))], zk_up (zk_up G 183 (16 * c + 15) (nI (if qask V p = 0 then 1 else 0))) 194 p (nI (qask V p))))) → ∃ e' h', zk_one (c_X12_askAll_1 SHP) (b_X12_askAll_1 SHP) (u_X12_askAll_1 SHP) [.ref 178, .int (nI s), .int (nI cn), .int (nI p), u, v, w] g = some (.inr (e', h')) ∧ (∃ u v w, e' = [.ref 178, .int (nI s), .int (nI (cn + if W.psite p = s ∧ 0 < qask W p then 1 else 0)), .int (nI (p + 1)), u, v, w]) ∧ qR (fun r => h' (179 + r)) U ∧ (∀ q, q < p + 1 → h' 194 q = nI (if W.psite q = s then qask W q else 0) ∧ h' 195 q = nI 0) ∧ (∀ q c, q < p + 1 → W.psite q = s → W.pcar q = some c → h' 183 (16 * c + 15) = nI (if qask W q = 0 then 1 else 0)) ∧ ∀ k, (k < 179 ∨ 186 < k) → k ≠ 194 → k ≠ 195 → h' k = h k := by
            intro G U hG hfr hz
            refine ⟨_, _, hz, ⟨.int (nI c), .int (nI (V.want c - V.chg c)), .int (nI (qgn (V.bat c) (V.rate c) V.cold (V.pmost p) (V.chg c))), by rw [hask]; simp only [hps2, true_and]⟩, ?_, ?_, ?_, ?_⟩
            · refine qR_w15 hG ?_
              intro a i ha2; rw [qv_n (by omega), qv_n (by omega)]
            · intro q hq
              by_cases hqp : q = p
              · subst hqp
                rw [if_pos hps2, hask]
                refine ⟨qv_s ⟨rfl, rfl⟩, ?_⟩
                rw [qv_n (by omega), qv_n (by omega), hfr 195 (by omega) (by omega)]; exact qv_s ⟨rfl, rfl⟩
              · rw [qv_n (by omega), qv_n (by omega), qv_n (by omega), qv_n (by omega), hfr 194 (by omega) (by omega), hfr 195 (by omega) (by omega)]
                simp (disch := omega) only [↓qv_n]
                exact ha q (by omega)
            · intro q d hq hqs hqd
              by_cases hqp : q = p
              · subst hqp
                rw [← hpcW, hpc] at hqd
                cases hqd
                rw [qv_n (by omega), hask]; exact qv_s ⟨rfl, rfl⟩
              · have hdc : d ≠ c := by
                  intro z
                  rw [z] at hqd
                  exact hqp (qcar_inj hf hqd (by rw [← hpcW]; exact hpc))
                rw [qv_n (by omega), qv_n (by omega), hfr 183 (by omega) (by omega)]
                simp (disch := omega) only [↓qv_n]
                exact hw q d (by omega) hqs hqd
            · intro k h1 h2 h3
              rw [qup_c h2, qup_c (by omega), hfr k (by omega) (by omega), qup_c h3, qup_c h2]; exact fr k h1 h2 h3
          simp only
          have hgp : V.chg c < V.want c → 1 ≤ qgn (V.bat c) (V.rate c) V.cold (V.pmost p) (V.chg c) := fun z => (qgn_pos (b := V.bat c) (r := V.rate c) (k := V.cold) (m := V.pmost p) (c := V.chg c) (by omega)).1
          by_cases hpl : V.plugAt c = V.now
          · rw [if_pos hpl]
            obtain ⟨g1, e1, q1, f1, f1'⟩ := qR_add hfV hgA p c 0 (by omega)
            refine step g1 _ q1 f1 ?_
            have r6 : g1 183 (16 * c + 4) = nI (V.chg c) := by rw [f1 _ (by omega) (by omega)]; simp (disch := omega) only [↓qv_n]; exact k6
            have r7 : g1 183 (16 * c + 6) = nI (V.want c) := by rw [f1 _ (by omega) (by omega)]; simp (disch := omega) only [↓qv_n]; exact k7
            have kg := kgain g1 _ q1 rfl
            rw [haskV]
            by_cases hlt : V.chg c < V.want c
            · have hgp := hgp hlt
              simp only [if_pos hlt]
              by_cases hgl : qgn (V.bat c) (V.rate c) V.cold (V.pmost p) (V.chg c) < V.want c - V.chg c
              · have hz0 : ¬ qgn (V.bat c) (V.rate c) V.cold (V.pmost p) (V.chg c) = 0 := by omega
                simp only [if_pos hgl, if_neg hz0, if_pos (show 0 < qgn (V.bat c) (V.rate c) V.cold (V.pmost p) (V.chg c) from hgp)]
                simp -implicitDefEqProofs (disch := omega) [zq_r1, ze_c, ze_li, zq_li1, ze_lr, zq_lr1, zq_lr2, ze_ll, zq_ll1, ze_u, zq_u1, ze_b, zq_b1, zq_b3, ze_fi, ze_fd, ze_fl, ze_fs, ze_gi, ze_gl, ze_gn, ze_gf, zq_gf1, ze_al, zq_al1, zq_al3, ze_aa, zq_aa1, zq_aa3, ze_ev0, ze_ev, zq_ev1, zq_ev3, ze_ca, zq_ca1, ze_xc, zq_xc1, zq_xc3, ze_ck, zq_ck1, ze_rc, zq_rc1, ze_c1, zq_c11, ze_c2, zq_c21, zq_c23, ze_and, zq_andt, zq_andf, ze_or, zq_ort, zq_orf, ze_not, zq_not1, ze_it, zq_itt, zq_itf, zq_itd, ze_skip, ze_brk, ze_cnt, ze_ret0, ze_seq, zq_seq0, zq_seq1, zq_seq2, zq_seq3, ze_si, zq_si1, ze_sr, zq_sr1, ze_inc, zq_inc1, ze_ok0, ze_okS, zq_oki, zq_okr, zq_oka, zq_okf, zq_h1, ze_pf, zq_pf1, zq_pf3, ze_pfo, zq_pfo1, zq_pfo21, zq_pfo31, zq_pfo41, ze_as, zq_as1, zq_as21, zq_as31, ze_aso, zq_aso1, zq_aso21, zq_aso31, zq_aso41, zq_aso51, ze_if, zq_ift, zq_iff, zq_ifd, ze_ret, zq_ret1, ze_pk0, ze_pk1, ze_sw, zq_sw1, ze_cps, zq_cps1, ze_one, zq_o1t, zq_o1f, zq_o20, zq_o22, zq_o21, zq_o23, zq_o30, zq_len1, zq_pad0, zq_padS, ze_sem, ze_fl0, ze_flI, ze_flR, ze_flA, ze_flL, zq_semi, zq_semv, zq_semb0, zq_semb1, List.getElem?_cons_zero, List.getElem?_cons_succ, List.set_cons_zero, List.set_cons_succ, List.length_cons, List.length_nil, List.cons_append, List.nil_append, q_outT, q_outF, q_inT, q_inF, qn_an, qn_ltt, qn_ltf, qn_let, qn_lef, qn_eqt, qn_eqf, qn_sub, nI_add, pk_mul, qn_div, qn_modN, qn_nn, qn_np, qn_pn, qn_nlt, qn_pln, qn_nle, qn_ple, qn_0, qn_1, qn_2, qn_3, qn_4, qn_5, qn_6, qn_7, qn_8, qn_9, qn_10, qn_11, qn_12, qn_13, qn_14, qn_15, qn_16, qn_19, qn_20, qn_21, qn_24, qn_27, qn_29, qn_30, qn_31, qn_32, qn_33, qn_39, qn_40, qn_42, qn_48, qn_50, qn_54, qn_57, qn_59, qn_60, qn_63, qn_72, qn_96, qn_97, qn_99, qn_100, qn_122, qn_128, qn_150, qn_192, qn_199, qn_200, qn_201, qn_236, qn_240, qn_300, qn_998, qn_999, qn_1000, qn_2000, qn_2230, qn_9999, qn_10000, qn_114602, qn_180392, qn_664272, qn_1000000, qn_3379448, qn_10256063, qv_s, qv_n, qo_178_0, qo_178_1, qo_178_2, qo_178_3, qo_178_4, qo_178_5, qo_178_6, qo_178_7, qo_178_8, qo_178_9, qo_178_10, qo_178_11, qo_178_12, qo_178_13, qo_178_14, qp_178_14, qo_178_15, qp_178_15, qo_178_16, qp_178_16, qo_178_17, qo_178_18, qp_178_18, qo_178_19, qp_178_19, qo_178_20, qp_178_20, qo_178_21, qp_178_21, qo_178_22, qp_178_22, qo_178_23, qp_178_23, qo_178_24, qo_178_25, qo_178_26, qo_178_27, qo_178_28, qo_178_29, qo_178_30, qp_178_30, qo_178_31, qo_178_32, qp_178_32, qa_179, qa_180, qa_181, qa_182, qa_183, qa_184, qa_185, qa_186, qa_187, qa_188, qa_189, qa_190, qa_191, qa_192, qa_193, qa_194, qa_195, qa_196, qa_197, qa_198, qa_199, qa_200, qw_179, qw_180, qw_181, qw_182, qw_183, qw_184, qw_185, qw_186, qw_187, qw_188, qw_189, qw_190, qw_191, qw_192, qw_193, qw_194, qw_195, qw_196, qw_197, qw_198, qw_199, qw_200, qc_178, q_getN, q_putN, q_moreN, c_X12_askAll_1, b_X12_askAll_1, u_X12_askAll_1, k0, k1, k2, kn, k5, hpl, qoc, e1, r6, r7, kg]
              · have hz0 : ¬ V.want c - V.chg c = 0 := by omega
                simp only [if_neg hgl, if_neg hz0, if_pos (show 0 < V.want c - V.chg c by omega)]
                simp -implicitDefEqProofs (disch := omega) [zq_r1, ze_c, ze_li, zq_li1, ze_lr, zq_lr1, zq_lr2, ze_ll, zq_ll1, ze_u, zq_u1, ze_b, zq_b1, zq_b3, ze_fi, ze_fd, ze_fl, ze_fs, ze_gi, ze_gl, ze_gn, ze_gf, zq_gf1, ze_al, zq_al1, zq_al3, ze_aa, zq_aa1, zq_aa3, ze_ev0, ze_ev, zq_ev1, zq_ev3, ze_ca, zq_ca1, ze_xc, zq_xc1, zq_xc3, ze_ck, zq_ck1, ze_rc, zq_rc1, ze_c1, zq_c11, ze_c2, zq_c21, zq_c23, ze_and, zq_andt, zq_andf, ze_or, zq_ort, zq_orf, ze_not, zq_not1, ze_it, zq_itt, zq_itf, zq_itd, ze_skip, ze_brk, ze_cnt, ze_ret0, ze_seq, zq_seq0, zq_seq1, zq_seq2, zq_seq3, ze_si, zq_si1, ze_sr, zq_sr1, ze_inc, zq_inc1, ze_ok0, ze_okS, zq_oki, zq_okr, zq_oka, zq_okf, zq_h1, ze_pf, zq_pf1, zq_pf3, ze_pfo, zq_pfo1, zq_pfo21, zq_pfo31, zq_pfo41, ze_as, zq_as1, zq_as21, zq_as31, ze_aso, zq_aso1, zq_aso21, zq_aso31, zq_aso41, zq_aso51, ze_if, zq_ift, zq_iff, zq_ifd, ze_ret, zq_ret1, ze_pk0, ze_pk1, ze_sw, zq_sw1, ze_cps, zq_cps1, ze_one, zq_o1t, zq_o1f, zq_o20, zq_o22, zq_o21, zq_o23, zq_o30, zq_len1, zq_pad0, zq_padS, ze_sem, ze_fl0, ze_flI, ze_flR, ze_flA, ze_flL, zq_semi, zq_semv, zq_semb0, zq_semb1, List.getElem?_cons_zero, List.getElem?_cons_succ, List.set_cons_zero, List.set_cons_succ, List.length_cons, List.length_nil, List.cons_append, List.nil_append, q_outT, q_outF, q_inT, q_inF, qn_an, qn_ltt, qn_ltf, qn_let, qn_lef, qn_eqt, qn_eqf, qn_sub, nI_add, pk_mul, qn_div, qn_modN, qn_nn, qn_np, qn_pn, qn_nlt, qn_pln, qn_nle, qn_ple, qn_0, qn_1, qn_2, qn_3, qn_4, qn_5, qn_6, qn_7, qn_8, qn_9, qn_10, qn_11, qn_12, qn_13, qn_14, qn_15, qn_16, qn_19, qn_20, qn_21, qn_24, qn_27, qn_29, qn_30, qn_31, qn_32, qn_33, qn_39, qn_40, qn_42, qn_48, qn_50, qn_54, qn_57, qn_59, qn_60, qn_63, qn_72, qn_96, qn_97, qn_99, qn_100, qn_122, qn_128, qn_150, qn_192, qn_199, qn_200, qn_201, qn_236, qn_240, qn_300, qn_998, qn_999, qn_1000, qn_2000, qn_2230, qn_9999, qn_10000, qn_114602, qn_180392, qn_664272, qn_1000000, qn_3379448, qn_10256063, qv_s, qv_n, qo_178_0, qo_178_1, qo_178_2, qo_178_3, qo_178_4, qo_178_5, qo_178_6, qo_178_7, qo_178_8, qo_178_9, qo_178_10, qo_178_11, qo_178_12, qo_178_13, qo_178_14, qp_178_14, qo_178_15, qp_178_15, qo_178_16, qp_178_16, qo_178_17, qo_178_18, qp_178_18, qo_178_19, qp_178_19, qo_178_20, qp_178_20, qo_178_21, qp_178_21, qo_178_22, qp_178_22, qo_178_23, qp_178_23, qo_178_24, qo_178_25, qo_178_26, qo_178_27, qo_178_28, qo_178_29, qo_178_30, qp_178_30, qo_178_31, qo_178_32, qp_178_32, qa_179, qa_180, qa_181, qa_182, qa_183, qa_184, qa_185, qa_186, qa_187, qa_188, qa_189, qa_190, qa_191, qa_192, qa_193, qa_194, qa_195, qa_196, qa_197, qa_198, qa_199, qa_200, qw_179, qw_180, qw_181, qw_182, qw_183, qw_184, qw_185, qw_186, qw_187, qw_188, qw_189, qw_190, qw_191, qw_192, qw_193, qw_194, qw_195, qw_196, qw_197, qw_198, qw_199, qw_200, qc_178, q_getN, q_putN, q_moreN, c_X12_askAll_1, b_X12_askAll_1, u_X12_askAll_1, k0, k1, k2, kn, k5, hpl, qoc, e1, r6, r7, kg]
            · have hz0 : V.want c - V.chg c = 0 := by omega
              simp only [if_neg hlt, hz0]
              simp -implicitDefEqProofs (disch := omega) [zq_r1, ze_c, ze_li, zq_li1, ze_lr, zq_lr1, zq_lr2, ze_ll, zq_ll1, ze_u, zq_u1, ze_b, zq_b1, zq_b3, ze_fi, ze_fd, ze_fl, ze_fs, ze_gi, ze_gl, ze_gn, ze_gf, zq_gf1, ze_al, zq_al1, zq_al3, ze_aa, zq_aa1, zq_aa3, ze_ev0, ze_ev, zq_ev1, zq_ev3, ze_ca, zq_ca1, ze_xc, zq_xc1, zq_xc3, ze_ck, zq_ck1, ze_rc, zq_rc1, ze_c1, zq_c11, ze_c2, zq_c21, zq_c23, ze_and, zq_andt, zq_andf, ze_or, zq_ort, zq_orf, ze_not, zq_not1, ze_it, zq_itt, zq_itf, zq_itd, ze_skip, ze_brk, ze_cnt, ze_ret0, ze_seq, zq_seq0, zq_seq1, zq_seq2, zq_seq3, ze_si, zq_si1, ze_sr, zq_sr1, ze_inc, zq_inc1, ze_ok0, ze_okS, zq_oki, zq_okr, zq_oka, zq_okf, zq_h1, ze_pf, zq_pf1, zq_pf3, ze_pfo, zq_pfo1, zq_pfo21, zq_pfo31, zq_pfo41, ze_as, zq_as1, zq_as21, zq_as31, ze_aso, zq_aso1, zq_aso21, zq_aso31, zq_aso41, zq_aso51, ze_if, zq_ift, zq_iff, zq_ifd, ze_ret, zq_ret1, ze_pk0, ze_pk1, ze_sw, zq_sw1, ze_cps, zq_cps1, ze_one, zq_o1t, zq_o1f, zq_o20, zq_o22, zq_o21, zq_o23, zq_o30, zq_len1, zq_pad0, zq_padS, ze_sem, ze_fl0, ze_flI, ze_flR, ze_flA, ze_flL, zq_semi, zq_semv, zq_semb0, zq_semb1, List.getElem?_cons_zero, List.getElem?_cons_succ, List.set_cons_zero, List.set_cons_succ, List.length_cons, List.length_nil, List.cons_append, List.nil_append, q_outT, q_outF, q_inT, q_inF, qn_an, qn_ltt, qn_ltf, qn_let, qn_lef, qn_eqt, qn_eqf, qn_sub, nI_add, pk_mul, qn_div, qn_modN, qn_nn, qn_np, qn_pn, qn_nlt, qn_pln, qn_nle, qn_ple, qn_0, qn_1, qn_2, qn_3, qn_4, qn_5, qn_6, qn_7, qn_8, qn_9, qn_10, qn_11, qn_12, qn_13, qn_14, qn_15, qn_16, qn_19, qn_20, qn_21, qn_24, qn_27, qn_29, qn_30, qn_31, qn_32, qn_33, qn_39, qn_40, qn_42, qn_48, qn_50, qn_54, qn_57, qn_59, qn_60, qn_63, qn_72, qn_96, qn_97, qn_99, qn_100, qn_122, qn_128, qn_150, qn_192, qn_199, qn_200, qn_201, qn_236, qn_240, qn_300, qn_998, qn_999, qn_1000, qn_2000, qn_2230, qn_9999, qn_10000, qn_114602, qn_180392, qn_664272, qn_1000000, qn_3379448, qn_10256063, qv_s, qv_n, qo_178_0, qo_178_1, qo_178_2, qo_178_3, qo_178_4, qo_178_5, qo_178_6, qo_178_7, qo_178_8, qo_178_9, qo_178_10, qo_178_11, qo_178_12, qo_178_13, qo_178_14, qp_178_14, qo_178_15, qp_178_15, qo_178_16, qp_178_16, qo_178_17, qo_178_18, qp_178_18, qo_178_19, qp_178_19, qo_178_20, qp_178_20, qo_178_21, qp_178_21, qo_178_22, qp_178_22, qo_178_23, qp_178_23, qo_178_24, qo_178_25, qo_178_26, qo_178_27, qo_178_28, qo_178_29, qo_178_30, qp_178_30, qo_178_31, qo_178_32, qp_178_32, qa_179, qa_180, qa_181, qa_182, qa_183, qa_184, qa_185, qa_186, qa_187, qa_188, qa_189, qa_190, qa_191, qa_192, qa_193, qa_194, qa_195, qa_196, qa_197, qa_198, qa_199, qa_200, qw_179, qw_180, qw_181, qw_182, qw_183, qw_184, qw_185, qw_186, qw_187, qw_188, qw_189, qw_190, qw_191, qw_192, qw_193, qw_194, qw_195, qw_196, qw_197, qw_198, qw_199, qw_200, qc_178, q_getN, q_putN, q_moreN, c_X12_askAll_1, b_X12_askAll_1, u_X12_askAll_1, k0, k1, k2, kn, k5, hpl, qoc, e1, r6, r7, kg, hz0]
          · rw [if_neg hpl]
            refine step _ V hgA (fun _ _ _ => rfl) ?_
            have kg := kgain _ V hgA rfl
            rw [haskV]
            by_cases hlt : V.chg c < V.want c
            · have hgp := hgp hlt
              simp only [if_pos hlt]
              by_cases hgl : qgn (V.bat c) (V.rate c) V.cold (V.pmost p) (V.chg c) < V.want c - V.chg c
              · have hz0 : ¬ qgn (V.bat c) (V.rate c) V.cold (V.pmost p) (V.chg c) = 0 := by omega
                simp only [if_pos hgl, if_neg hz0, if_pos (show 0 < qgn (V.bat c) (V.rate c) V.cold (V.pmost p) (V.chg c) from hgp)]
                simp -implicitDefEqProofs (disch := omega) [zq_r1, ze_c, ze_li, zq_li1, ze_lr, zq_lr1, zq_lr2, ze_ll, zq_ll1, ze_u, zq_u1, ze_b, zq_b1, zq_b3, ze_fi, ze_fd, ze_fl, ze_fs, ze_gi, ze_gl, ze_gn, ze_gf, zq_gf1, ze_al, zq_al1, zq_al3, ze_aa, zq_aa1, zq_aa3, ze_ev0, ze_ev, zq_ev1, zq_ev3, ze_ca, zq_ca1, ze_xc, zq_xc1, zq_xc3, ze_ck, zq_ck1, ze_rc, zq_rc1, ze_c1, zq_c11, ze_c2, zq_c21, zq_c23, ze_and, zq_andt, zq_andf, ze_or, zq_ort, zq_orf, ze_not, zq_not1, ze_it, zq_itt, zq_itf, zq_itd, ze_skip, ze_brk, ze_cnt, ze_ret0, ze_seq, zq_seq0, zq_seq1, zq_seq2, zq_seq3, ze_si, zq_si1, ze_sr, zq_sr1, ze_inc, zq_inc1, ze_ok0, ze_okS, zq_oki, zq_okr, zq_oka, zq_okf, zq_h1, ze_pf, zq_pf1, zq_pf3, ze_pfo, zq_pfo1, zq_pfo21, zq_pfo31, zq_pfo41, ze_as, zq_as1, zq_as21, zq_as31, ze_aso, zq_aso1, zq_aso21, zq_aso31, zq_aso41, zq_aso51, ze_if, zq_ift, zq_iff, zq_ifd, ze_ret, zq_ret1, ze_pk0, ze_pk1, ze_sw, zq_sw1, ze_cps, zq_cps1, ze_one, zq_o1t, zq_o1f, zq_o20, zq_o22, zq_o21, zq_o23, zq_o30, zq_len1, zq_pad0, zq_padS, ze_sem, ze_fl0, ze_flI, ze_flR, ze_flA, ze_flL, zq_semi, zq_semv, zq_semb0, zq_semb1, List.getElem?_cons_zero, List.getElem?_cons_succ, List.set_cons_zero, List.set_cons_succ, List.length_cons, List.length_nil, List.cons_append, List.nil_append, q_outT, q_outF, q_inT, q_inF, qn_an, qn_ltt, qn_ltf, qn_let, qn_lef, qn_eqt, qn_eqf, qn_sub, nI_add, pk_mul, qn_div, qn_modN, qn_nn, qn_np, qn_pn, qn_nlt, qn_pln, qn_nle, qn_ple, qn_0, qn_1, qn_2, qn_3, qn_4, qn_5, qn_6, qn_7, qn_8, qn_9, qn_10, qn_11, qn_12, qn_13, qn_14, qn_15, qn_16, qn_19, qn_20, qn_21, qn_24, qn_27, qn_29, qn_30, qn_31, qn_32, qn_33, qn_39, qn_40, qn_42, qn_48, qn_50, qn_54, qn_57, qn_59, qn_60, qn_63, qn_72, qn_96, qn_97, qn_99, qn_100, qn_122, qn_128, qn_150, qn_192, qn_199, qn_200, qn_201, qn_236, qn_240, qn_300, qn_998, qn_999, qn_1000, qn_2000, qn_2230, qn_9999, qn_10000, qn_114602, qn_180392, qn_664272, qn_1000000, qn_3379448, qn_10256063, qv_s, qv_n, qo_178_0, qo_178_1, qo_178_2, qo_178_3, qo_178_4, qo_178_5, qo_178_6, qo_178_7, qo_178_8, qo_178_9, qo_178_10, qo_178_11, qo_178_12, qo_178_13, qo_178_14, qp_178_14, qo_178_15, qp_178_15, qo_178_16, qp_178_16, qo_178_17, qo_178_18, qp_178_18, qo_178_19, qp_178_19, qo_178_20, qp_178_20, qo_178_21, qp_178_21, qo_178_22, qp_178_22, qo_178_23, qp_178_23, qo_178_24, qo_178_25, qo_178_26, qo_178_27, qo_178_28, qo_178_29, qo_178_30, qp_178_30, qo_178_31, qo_178_32, qp_178_32, qa_179, qa_180, qa_181, qa_182, qa_183, qa_184, qa_185, qa_186, qa_187, qa_188, qa_189, qa_190, qa_191, qa_192, qa_193, qa_194, qa_195, qa_196, qa_197, qa_198, qa_199, qa_200, qw_179, qw_180, qw_181, qw_182, qw_183, qw_184, qw_185, qw_186, qw_187, qw_188, qw_189, qw_190, qw_191, qw_192, qw_193, qw_194, qw_195, qw_196, qw_197, qw_198, qw_199, qw_200, qc_178, q_getN, q_putN, q_moreN, c_X12_askAll_1, b_X12_askAll_1, u_X12_askAll_1, k0, k1, k2, kn, k5, k6, k7, hpl, qoc, kg]
              · have hz0 : ¬ V.want c - V.chg c = 0 := by omega
                simp only [if_neg hgl, if_neg hz0, if_pos (show 0 < V.want c - V.chg c by omega)]
                simp -implicitDefEqProofs (disch := omega) [zq_r1, ze_c, ze_li, zq_li1, ze_lr, zq_lr1, zq_lr2, ze_ll, zq_ll1, ze_u, zq_u1, ze_b, zq_b1, zq_b3, ze_fi, ze_fd, ze_fl, ze_fs, ze_gi, ze_gl, ze_gn, ze_gf, zq_gf1, ze_al, zq_al1, zq_al3, ze_aa, zq_aa1, zq_aa3, ze_ev0, ze_ev, zq_ev1, zq_ev3, ze_ca, zq_ca1, ze_xc, zq_xc1, zq_xc3, ze_ck, zq_ck1, ze_rc, zq_rc1, ze_c1, zq_c11, ze_c2, zq_c21, zq_c23, ze_and, zq_andt, zq_andf, ze_or, zq_ort, zq_orf, ze_not, zq_not1, ze_it, zq_itt, zq_itf, zq_itd, ze_skip, ze_brk, ze_cnt, ze_ret0, ze_seq, zq_seq0, zq_seq1, zq_seq2, zq_seq3, ze_si, zq_si1, ze_sr, zq_sr1, ze_inc, zq_inc1, ze_ok0, ze_okS, zq_oki, zq_okr, zq_oka, zq_okf, zq_h1, ze_pf, zq_pf1, zq_pf3, ze_pfo, zq_pfo1, zq_pfo21, zq_pfo31, zq_pfo41, ze_as, zq_as1, zq_as21, zq_as31, ze_aso, zq_aso1, zq_aso21, zq_aso31, zq_aso41, zq_aso51, ze_if, zq_ift, zq_iff, zq_ifd, ze_ret, zq_ret1, ze_pk0, ze_pk1, ze_sw, zq_sw1, ze_cps, zq_cps1, ze_one, zq_o1t, zq_o1f, zq_o20, zq_o22, zq_o21, zq_o23, zq_o30, zq_len1, zq_pad0, zq_padS, ze_sem, ze_fl0, ze_flI, ze_flR, ze_flA, ze_flL, zq_semi, zq_semv, zq_semb0, zq_semb1, List.getElem?_cons_zero, List.getElem?_cons_succ, List.set_cons_zero, List.set_cons_succ, List.length_cons, List.length_nil, List.cons_append, List.nil_append, q_outT, q_outF, q_inT, q_inF, qn_an, qn_ltt, qn_ltf, qn_let, qn_lef, qn_eqt, qn_eqf, qn_sub, nI_add, pk_mul, qn_div, qn_modN, qn_nn, qn_np, qn_pn, qn_nlt, qn_pln, qn_nle, qn_ple, qn_0, qn_1, qn_2, qn_3, qn_4, qn_5, qn_6, qn_7, qn_8, qn_9, qn_10, qn_11, qn_12, qn_13, qn_14, qn_15, qn_16, qn_19, qn_20, qn_21, qn_24, qn_27, qn_29, qn_30, qn_31, qn_32, qn_33, qn_39, qn_40, qn_42, qn_48, qn_50, qn_54, qn_57, qn_59, qn_60, qn_63, qn_72, qn_96, qn_97, qn_99, qn_100, qn_122, qn_128, qn_150, qn_192, qn_199, qn_200, qn_201, qn_236, qn_240, qn_300, qn_998, qn_999, qn_1000, qn_2000, qn_2230, qn_9999, qn_10000, qn_114602, qn_180392, qn_664272, qn_1000000, qn_3379448, qn_10256063, qv_s, qv_n, qo_178_0, qo_178_1, qo_178_2, qo_178_3, qo_178_4, qo_178_5, qo_178_6, qo_178_7, qo_178_8, qo_178_9, qo_178_10, qo_178_11, qo_178_12, qo_178_13, qo_178_14, qp_178_14, qo_178_15, qp_178_15, qo_178_16, qp_178_16, qo_178_17, qo_178_18, qp_178_18, qo_178_19, qp_178_19, qo_178_20, qp_178_20, qo_178_21, qp_178_21, qo_178_22, qp_178_22, qo_178_23, qp_178_23, qo_178_24, qo_178_25, qo_178_26, qo_178_27, qo_178_28, qo_178_29, qo_178_30, qp_178_30, qo_178_31, qo_178_32, qp_178_32, qa_179, qa_180, qa_181, qa_182, qa_183, qa_184, qa_185, qa_186, qa_187, qa_188, qa_189, qa_190, qa_191, qa_192, qa_193, qa_194, qa_195, qa_196, qa_197, qa_198, qa_199, qa_200, qw_179, qw_180, qw_181, qw_182, qw_183, qw_184, qw_185, qw_186, qw_187, qw_188, qw_189, qw_190, qw_191, qw_192, qw_193, qw_194, qw_195, qw_196, qw_197, qw_198, qw_199, qw_200, qc_178, q_getN, q_putN, q_moreN, c_X12_askAll_1, b_X12_askAll_1, u_X12_askAll_1, k0, k1, k2, kn, k5, k6, k7, hpl, qoc, kg]
            · have hz0 : V.want c - V.chg c = 0 := by omega
              simp only [if_neg hlt, hz0]
              simp -implicitDefEqProofs (disch := omega) [zq_r1, ze_c, ze_li, zq_li1, ze_lr, zq_lr1, zq_lr2, ze_ll, zq_ll1, ze_u, zq_u1, ze_b, zq_b1, zq_b3, ze_fi, ze_fd, ze_fl, ze_fs, ze_gi, ze_gl, ze_gn, ze_gf, zq_gf1, ze_al, zq_al1, zq_al3, ze_aa, zq_aa1, zq_aa3, ze_ev0, ze_ev, zq_ev1, zq_ev3, ze_ca, zq_ca1, ze_xc, zq_xc1, zq_xc3, ze_ck, zq_ck1, ze_rc, zq_rc1, ze_c1, zq_c11, ze_c2, zq_c21, zq_c23, ze_and, zq_andt, zq_andf, ze_or, zq_ort, zq_orf, ze_not, zq_not1, ze_it, zq_itt, zq_itf, zq_itd, ze_skip, ze_brk, ze_cnt, ze_ret0, ze_seq, zq_seq0, zq_seq1, zq_seq2, zq_seq3, ze_si, zq_si1, ze_sr, zq_sr1, ze_inc, zq_inc1, ze_ok0, ze_okS, zq_oki, zq_okr, zq_oka, zq_okf, zq_h1, ze_pf, zq_pf1, zq_pf3, ze_pfo, zq_pfo1, zq_pfo21, zq_pfo31, zq_pfo41, ze_as, zq_as1, zq_as21, zq_as31, ze_aso, zq_aso1, zq_aso21, zq_aso31, zq_aso41, zq_aso51, ze_if, zq_ift, zq_iff, zq_ifd, ze_ret, zq_ret1, ze_pk0, ze_pk1, ze_sw, zq_sw1, ze_cps, zq_cps1, ze_one, zq_o1t, zq_o1f, zq_o20, zq_o22, zq_o21, zq_o23, zq_o30, zq_len1, zq_pad0, zq_padS, ze_sem, ze_fl0, ze_flI, ze_flR, ze_flA, ze_flL, zq_semi, zq_semv, zq_semb0, zq_semb1, List.getElem?_cons_zero, List.getElem?_cons_succ, List.set_cons_zero, List.set_cons_succ, List.length_cons, List.length_nil, List.cons_append, List.nil_append, q_outT, q_outF, q_inT, q_inF, qn_an, qn_ltt, qn_ltf, qn_let, qn_lef, qn_eqt, qn_eqf, qn_sub, nI_add, pk_mul, qn_div, qn_modN, qn_nn, qn_np, qn_pn, qn_nlt, qn_pln, qn_nle, qn_ple, qn_0, qn_1, qn_2, qn_3, qn_4, qn_5, qn_6, qn_7, qn_8, qn_9, qn_10, qn_11, qn_12, qn_13, qn_14, qn_15, qn_16, qn_19, qn_20, qn_21, qn_24, qn_27, qn_29, qn_30, qn_31, qn_32, qn_33, qn_39, qn_40, qn_42, qn_48, qn_50, qn_54, qn_57, qn_59, qn_60, qn_63, qn_72, qn_96, qn_97, qn_99, qn_100, qn_122, qn_128, qn_150, qn_192, qn_199, qn_200, qn_201, qn_236, qn_240, qn_300, qn_998, qn_999, qn_1000, qn_2000, qn_2230, qn_9999, qn_10000, qn_114602, qn_180392, qn_664272, qn_1000000, qn_3379448, qn_10256063, qv_s, qv_n, qo_178_0, qo_178_1, qo_178_2, qo_178_3, qo_178_4, qo_178_5, qo_178_6, qo_178_7, qo_178_8, qo_178_9, qo_178_10, qo_178_11, qo_178_12, qo_178_13, qo_178_14, qp_178_14, qo_178_15, qp_178_15, qo_178_16, qp_178_16, qo_178_17, qo_178_18, qp_178_18, qo_178_19, qp_178_19, qo_178_20, qp_178_20, qo_178_21, qp_178_21, qo_178_22, qp_178_22, qo_178_23, qp_178_23, qo_178_24, qo_178_25, qo_178_26, qo_178_27, qo_178_28, qo_178_29, qo_178_30, qp_178_30, qo_178_31, qo_178_32, qp_178_32, qa_179, qa_180, qa_181, qa_182, qa_183, qa_184, qa_185, qa_186, qa_187, qa_188, qa_189, qa_190, qa_191, qa_192, qa_193, qa_194, qa_195, qa_196, qa_197, qa_198, qa_199, qa_200, qw_179, qw_180, qw_181, qw_182, qw_183, qw_184, qw_185, qw_186, qw_187, qw_188, qw_189, qw_190, qw_191, qw_192, qw_193, qw_194, qw_195, qw_196, qw_197, qw_198, qw_199, qw_200, qc_178, q_getN, q_putN, q_moreN, c_X12_askAll_1, b_X12_askAll_1, u_X12_askAll_1, k0, k1, k2, kn, k5, k6, k7, hpl, qoc, kg, hz0]
      · rw [if_neg hps2]
        have hps3 : ¬ V.psite p = s := by rw [hst.psite]; exact hps2
        refine ⟨[.ref 178, .int (nI s), .int (nI cn), .int (nI (p + 1)), .int (qoc (V.pcar p)), v, w], zk_up (zk_up g 194 p (nI 0)) 195 p (nI 0), ?_, ⟨.int (qoc (V.pcar p)), v, w, by simp [hps2]⟩, ?_, ?_, ?_, ?_⟩
        · simp -implicitDefEqProofs (disch := omega) [zq_r1, ze_c, ze_li, zq_li1, ze_lr, zq_lr1, zq_lr2, ze_ll, zq_ll1, ze_u, zq_u1, ze_b, zq_b1, zq_b3, ze_fi, ze_fd, ze_fl, ze_fs, ze_gi, ze_gl, ze_gn, ze_gf, zq_gf1, ze_al, zq_al1, zq_al3, ze_aa, zq_aa1, zq_aa3, ze_ev0, ze_ev, zq_ev1, zq_ev3, ze_ca, zq_ca1, ze_xc, zq_xc1, zq_xc3, ze_ck, zq_ck1, ze_rc, zq_rc1, ze_c1, zq_c11, ze_c2, zq_c21, zq_c23, ze_and, zq_andt, zq_andf, ze_or, zq_ort, zq_orf, ze_not, zq_not1, ze_it, zq_itt, zq_itf, zq_itd, ze_skip, ze_brk, ze_cnt, ze_ret0, ze_seq, zq_seq0, zq_seq1, zq_seq2, zq_seq3, ze_si, zq_si1, ze_sr, zq_sr1, ze_inc, zq_inc1, ze_ok0, ze_okS, zq_oki, zq_okr, zq_oka, zq_okf, zq_h1, ze_pf, zq_pf1, zq_pf3, ze_pfo, zq_pfo1, zq_pfo21, zq_pfo31, zq_pfo41, ze_as, zq_as1, zq_as21, zq_as31, ze_aso, zq_aso1, zq_aso21, zq_aso31, zq_aso41, zq_aso51, ze_if, zq_ift, zq_iff, zq_ifd, ze_ret, zq_ret1, ze_pk0, ze_pk1, ze_sw, zq_sw1, ze_cps, zq_cps1, ze_one, zq_o1t, zq_o1f, zq_o20, zq_o22, zq_o21, zq_o23, zq_o30, zq_len1, zq_pad0, zq_padS, ze_sem, ze_fl0, ze_flI, ze_flR, ze_flA, ze_flL, zq_semi, zq_semv, zq_semb0, zq_semb1, List.getElem?_cons_zero, List.getElem?_cons_succ, List.set_cons_zero, List.set_cons_succ, List.length_cons, List.length_nil, List.cons_append, List.nil_append, q_outT, q_outF, q_inT, q_inF, qn_an, qn_ltt, qn_ltf, qn_let, qn_lef, qn_eqt, qn_eqf, qn_sub, nI_add, pk_mul, qn_div, qn_modN, qn_nn, qn_np, qn_pn, qn_nlt, qn_pln, qn_nle, qn_ple, qn_0, qn_1, qn_2, qn_3, qn_4, qn_5, qn_6, qn_7, qn_8, qn_9, qn_10, qn_11, qn_12, qn_13, qn_14, qn_15, qn_16, qn_19, qn_20, qn_21, qn_24, qn_27, qn_29, qn_30, qn_31, qn_32, qn_33, qn_39, qn_40, qn_42, qn_48, qn_50, qn_54, qn_57, qn_59, qn_60, qn_63, qn_72, qn_96, qn_97, qn_99, qn_100, qn_122, qn_128, qn_150, qn_192, qn_199, qn_200, qn_201, qn_236, qn_240, qn_300, qn_998, qn_999, qn_1000, qn_2000, qn_2230, qn_9999, qn_10000, qn_114602, qn_180392, qn_664272, qn_1000000, qn_3379448, qn_10256063, qv_s, qv_n, qo_178_0, qo_178_1, qo_178_2, qo_178_3, qo_178_4, qo_178_5, qo_178_6, qo_178_7, qo_178_8, qo_178_9, qo_178_10, qo_178_11, qo_178_12, qo_178_13, qo_178_14, qp_178_14, qo_178_15, qp_178_15, qo_178_16, qp_178_16, qo_178_17, qo_178_18, qp_178_18, qo_178_19, qp_178_19, qo_178_20, qp_178_20, qo_178_21, qp_178_21, qo_178_22, qp_178_22, qo_178_23, qp_178_23, qo_178_24, qo_178_25, qo_178_26, qo_178_27, qo_178_28, qo_178_29, qo_178_30, qp_178_30, qo_178_31, qo_178_32, qp_178_32, qa_179, qa_180, qa_181, qa_182, qa_183, qa_184, qa_185, qa_186, qa_187, qa_188, qa_189, qa_190, qa_191, qa_192, qa_193, qa_194, qa_195, qa_196, qa_197, qa_198, qa_199, qa_200, qw_179, qw_180, qw_181, qw_182, qw_183, qw_184, qw_185, qw_186, qw_187, qw_188, qw_189, qw_190, qw_191, qw_192, qw_193, qw_194, qw_195, qw_196, qw_197, qw_198, qw_199, qw_200, qc_178, q_getN, q_putN, q_moreN, c_X12_askAll_1, b_X12_askAll_1, u_X12_askAll_1, k0, k1, k2]
        · exact qR_of hg (fun k hk => by show zk_up (zk_up g 194 p (nI 0)) 195 p (nI 0) (179 + k) = _; rw [qup_c (by omega), qup_c (by omega)])
        · intro q hq
          by_cases hqp : q = p
          · subst hqp; rw [if_neg hps2]; simp (disch := omega) only [↓qv_n, ↓qv_s]; exact ⟨trivial, trivial⟩
          · simp (disch := omega) only [↓qv_n]; exact ha q (by omega)
        · intro q c hq hqs hqc
          have hqp : q ≠ p := by intro z; rw [z] at hqs; exact hps2 hqs
          simp (disch := omega) only [↓qv_n]; exact hw q c (by omega) hqs hqc
        · intro k h1 h2 h3; rw [qup_c h3, qup_c h2]; exact fr k h1 h2 h3) (by
      rintro e g ⟨⟨u, v, w, rfl⟩, hg, ha, hw, fr⟩
      have hI := qfo_inv (I := fun V => qWf V ∧ qonlyT W V) (st := qtry) (s := s) ⟨hf, rfl, rfl, rfl⟩ (fun V p hp _ hI => qtry_inv hp hI) W.nP (Nat.le_refl _)
      have k0 : g 179 2 = _ := hg.nP
      rw [hI.2.sta.nP] at k0
      simp -implicitDefEqProofs (disch := omega) [zq_r1, ze_c, ze_li, zq_li1, ze_lr, zq_lr1, zq_lr2, ze_ll, zq_ll1, ze_u, zq_u1, ze_b, zq_b1, zq_b3, ze_fi, ze_fd, ze_fl, ze_fs, ze_gi, ze_gl, ze_gn, ze_gf, zq_gf1, ze_al, zq_al1, zq_al3, ze_aa, zq_aa1, zq_aa3, ze_ev0, ze_ev, zq_ev1, zq_ev3, ze_ca, zq_ca1, ze_xc, zq_xc1, zq_xc3, ze_ck, zq_ck1, ze_rc, zq_rc1, ze_c1, zq_c11, ze_c2, zq_c21, zq_c23, ze_and, zq_andt, zq_andf, ze_or, zq_ort, zq_orf, ze_not, zq_not1, ze_it, zq_itt, zq_itf, zq_itd, ze_skip, ze_brk, ze_cnt, ze_ret0, ze_seq, zq_seq0, zq_seq1, zq_seq2, zq_seq3, ze_si, zq_si1, ze_sr, zq_sr1, ze_inc, zq_inc1, ze_ok0, ze_okS, zq_oki, zq_okr, zq_oka, zq_okf, zq_h1, ze_pf, zq_pf1, zq_pf3, ze_pfo, zq_pfo1, zq_pfo21, zq_pfo31, zq_pfo41, ze_as, zq_as1, zq_as21, zq_as31, ze_aso, zq_aso1, zq_aso21, zq_aso31, zq_aso41, zq_aso51, ze_if, zq_ift, zq_iff, zq_ifd, ze_ret, zq_ret1, ze_pk0, ze_pk1, ze_sw, zq_sw1, ze_cps, zq_cps1, ze_one, zq_o1t, zq_o1f, zq_o20, zq_o22, zq_o21, zq_o23, zq_o30, zq_len1, zq_pad0, zq_padS, ze_sem, ze_fl0, ze_flI, ze_flR, ze_flA, ze_flL, zq_semi, zq_semv, zq_semb0, zq_semb1, List.getElem?_cons_zero, List.getElem?_cons_succ, List.set_cons_zero, List.set_cons_succ, List.length_cons, List.length_nil, List.cons_append, List.nil_append, q_outT, q_outF, q_inT, q_inF, qn_an, qn_ltt, qn_ltf, qn_let, qn_lef, qn_eqt, qn_eqf, qn_sub, nI_add, pk_mul, qn_div, qn_modN, qn_nn, qn_np, qn_pn, qn_nlt, qn_pln, qn_nle, qn_ple, qn_0, qn_1, qn_2, qn_3, qn_4, qn_5, qn_6, qn_7, qn_8, qn_9, qn_10, qn_11, qn_12, qn_13, qn_14, qn_15, qn_16, qn_19, qn_20, qn_21, qn_24, qn_27, qn_29, qn_30, qn_31, qn_32, qn_33, qn_39, qn_40, qn_42, qn_48, qn_50, qn_54, qn_57, qn_59, qn_60, qn_63, qn_72, qn_96, qn_97, qn_99, qn_100, qn_122, qn_128, qn_150, qn_192, qn_199, qn_200, qn_201, qn_236, qn_240, qn_300, qn_998, qn_999, qn_1000, qn_2000, qn_2230, qn_9999, qn_10000, qn_114602, qn_180392, qn_664272, qn_1000000, qn_3379448, qn_10256063, qv_s, qv_n, qo_178_0, qo_178_1, qo_178_2, qo_178_3, qo_178_4, qo_178_5, qo_178_6, qo_178_7, qo_178_8, qo_178_9, qo_178_10, qo_178_11, qo_178_12, qo_178_13, qo_178_14, qp_178_14, qo_178_15, qp_178_15, qo_178_16, qp_178_16, qo_178_17, qo_178_18, qp_178_18, qo_178_19, qp_178_19, qo_178_20, qp_178_20, qo_178_21, qp_178_21, qo_178_22, qp_178_22, qo_178_23, qp_178_23, qo_178_24, qo_178_25, qo_178_26, qo_178_27, qo_178_28, qo_178_29, qo_178_30, qp_178_30, qo_178_31, qo_178_32, qp_178_32, qa_179, qa_180, qa_181, qa_182, qa_183, qa_184, qa_185, qa_186, qa_187, qa_188, qa_189, qa_190, qa_191, qa_192, qa_193, qa_194, qa_195, qa_196, qa_197, qa_198, qa_199, qa_200, qw_179, qw_180, qw_181, qw_182, qw_183, qw_184, qw_185, qw_186, qw_187, qw_188, qw_189, qw_190, qw_191, qw_192, qw_193, qw_194, qw_195, qw_196, qw_197, qw_198, qw_199, qw_200, qc_178, q_getN, q_putN, q_moreN, c_X12_askAll_1, b_X12_askAll_1, u_X12_askAll_1, k0]) (f := 1000) (e := [.ref 178, .int (nI s), .int (nI 0), .int (nI 0), .float 0, .float 0, .float 0]) (h := h) (by omega) ⟨⟨_, _, _, rfl⟩, hh, fun q hq => by omega, fun q c hq => by omega, fun _ _ _ _ => rfl⟩
  obtain ⟨e1, h1, z1, ⟨u, v, w, rfl⟩, hg, ha, hw, fr⟩ := l1
  refine ⟨h1, ?_, hg, ha, hw, fr⟩
  simp -implicitDefEqProofs (disch := omega) [zq_r1, ze_c, ze_li, zq_li1, ze_lr, zq_lr1, zq_lr2, ze_ll, zq_ll1, ze_u, zq_u1, ze_b, zq_b1, zq_b3, ze_fi, ze_fd, ze_fl, ze_fs, ze_gi, ze_gl, ze_gn, ze_gf, zq_gf1, ze_al, zq_al1, zq_al3, ze_aa, zq_aa1, zq_aa3, ze_ev0, ze_ev, zq_ev1, zq_ev3, ze_ca, zq_ca1, ze_xc, zq_xc1, zq_xc3, ze_ck, zq_ck1, ze_rc, zq_rc1, ze_c1, zq_c11, ze_c2, zq_c21, zq_c23, ze_and, zq_andt, zq_andf, ze_or, zq_ort, zq_orf, ze_not, zq_not1, ze_it, zq_itt, zq_itf, zq_itd, ze_skip, ze_brk, ze_cnt, ze_ret0, ze_seq, zq_seq0, zq_seq1, zq_seq2, zq_seq3, ze_si, zq_si1, ze_sr, zq_sr1, ze_inc, zq_inc1, ze_ok0, ze_okS, zq_oki, zq_okr, zq_oka, zq_okf, zq_h1, ze_pf, zq_pf1, zq_pf3, ze_pfo, zq_pfo1, zq_pfo21, zq_pfo31, zq_pfo41, ze_as, zq_as1, zq_as21, zq_as31, ze_aso, zq_aso1, zq_aso21, zq_aso31, zq_aso41, zq_aso51, ze_if, zq_ift, zq_iff, zq_ifd, ze_ret, zq_ret1, ze_pk0, ze_pk1, ze_sw, zq_sw1, ze_cps, zq_cps1, ze_one, zq_o1t, zq_o1f, zq_o20, zq_o22, zq_o21, zq_o23, zq_o30, zq_len1, zq_pad0, zq_padS, ze_sem, ze_fl0, ze_flI, ze_flR, ze_flA, ze_flL, zq_semi, zq_semv, zq_semb0, zq_semb1, List.getElem?_cons_zero, List.getElem?_cons_succ, List.set_cons_zero, List.set_cons_succ, List.length_cons, List.length_nil, List.cons_append, List.nil_append, q_outT, q_outF, q_inT, q_inF, qn_an, qn_ltt, qn_ltf, qn_let, qn_lef, qn_eqt, qn_eqf, qn_sub, nI_add, pk_mul, qn_div, qn_modN, qn_nn, qn_np, qn_pn, qn_nlt, qn_pln, qn_nle, qn_ple, qn_0, qn_1, qn_2, qn_3, qn_4, qn_5, qn_6, qn_7, qn_8, qn_9, qn_10, qn_11, qn_12, qn_13, qn_14, qn_15, qn_16, qn_19, qn_20, qn_21, qn_24, qn_27, qn_29, qn_30, qn_31, qn_32, qn_33, qn_39, qn_40, qn_42, qn_48, qn_50, qn_54, qn_57, qn_59, qn_60, qn_63, qn_72, qn_96, qn_97, qn_99, qn_100, qn_122, qn_128, qn_150, qn_192, qn_199, qn_200, qn_201, qn_236, qn_240, qn_300, qn_998, qn_999, qn_1000, qn_2000, qn_2230, qn_9999, qn_10000, qn_114602, qn_180392, qn_664272, qn_1000000, qn_3379448, qn_10256063, qv_s, qv_n, qo_178_0, qo_178_1, qo_178_2, qo_178_3, qo_178_4, qo_178_5, qo_178_6, qo_178_7, qo_178_8, qo_178_9, qo_178_10, qo_178_11, qo_178_12, qo_178_13, qo_178_14, qp_178_14, qo_178_15, qp_178_15, qo_178_16, qp_178_16, qo_178_17, qo_178_18, qp_178_18, qo_178_19, qp_178_19, qo_178_20, qp_178_20, qo_178_21, qp_178_21, qo_178_22, qp_178_22, qo_178_23, qp_178_23, qo_178_24, qo_178_25, qo_178_26, qo_178_27, qo_178_28, qo_178_29, qo_178_30, qp_178_30, qo_178_31, qo_178_32, qp_178_32, qa_179, qa_180, qa_181, qa_182, qa_183, qa_184, qa_185, qa_186, qa_187, qa_188, qa_189, qa_190, qa_191, qa_192, qa_193, qa_194, qa_195, qa_196, qa_197, qa_198, qa_199, qa_200, qw_179, qw_180, qw_181, qw_182, qw_183, qw_184, qw_185, qw_186, qw_187, qw_188, qw_189, qw_190, qw_191, qw_192, qw_193, qw_194, qw_195, qw_196, qw_197, qw_198, qw_199, qw_200, qc_178, q_getN, q_putN, q_moreN, f_X12_askAll, b_X12_askAll, z1]
  show _ = nI (List.length (List.filter (fun p => decide (0 < qask W p)) ((List.range W.nP).filter (fun p => decide (W.psite p = s)))))
  rw [List.filter_filter]
