-- trips: the reference follows one, and the method
set_option maxRecDepth 4000
set_option maxHeartbeats 400000
/-- the charge before leg k is driven -/
def qvz (W : qW) (c a b : Nat) : Nat → Nat
  | 0 => W.chg c
  | k + 1 => qch (qvG W c a b k) (qvt W c a b k (qvx W c a b k)) (qvx W c a b k)
theorem qvx_z {W : qW} {c a b : Nat} (k : Nat) : qvx W c a b k = qvz W c a b k - qvC W c a b k := by
  cases k with
  | zero => rfl
  | succ k => exact qvx_s k
theorem qR_stay {h : zk_H} {W : qW} (hf : qWf W) (hh : qR (fun r => h (179 + r)) W) {c a b : Nat} (hc : c < W.nC) (hw : qwyR W c a b h) {k x : Nat} (hk : k < qvn W a b) (hx : x ≤ W.bat c) (x2 x3 x4 : Int32) : zk_loop (c_X12_trip_2 SHP) (b_X12_trip_2 SHP) (u_X12_trip_2 SHP) 1000 [.ref 178, .int (nI c), .int x2, .int x3, .int x4, .int (nI x), .int (nI (k + 1)), .int (nI (qvt W c a b k x)), .int (nI 0)] h = some (0, .null, [.ref 178, .int (nI c), .int x2, .int x3, .int x4, .int (nI (qch (qvG W c a b k) (qvt W c a b k x) x)), .int (nI (k + 1)), .int (nI (qvt W c a b k x)), .int (nI (qvt W c a b k x))], h) := by
  have hC := hf.hC
  have hP := hf.hP
  have hbat := (hf.bat c hc).2
  have hn6 := qvn_6 (a := a) (b := b) hf
  obtain ⟨s, hs⟩ : ∃ s, (qvL W a b)[k]? = some s := ⟨(qvL W a b)[k], List.getElem?_eq_getElem hk⟩
  have kp := (hw.1.2.2 k s hs).2
  have hgb : ∀ y, y ≤ W.bat c → y + qvG W c a b k y ≤ W.bat c := fun y hy => qvG_b k y hy
  have ht : qvt W c a b k x ≤ W.bat c := qsy_b hgb hx
  have hst : ∀ j, j < qvt W c a b k x → f_X12_gainOf SHP [.ref 178, .int (nI c), .int (h 192 (k + 1)), .int (nI (qch (qvG W c a b k) j x))] h = some (.int (nI (qvG W c a b k (qch (qvG W c a b k) j x))), h) := by
    intro j hj
    cases hpp : qvp W c s with
    | none =>
      exfalso
      have hg0 : qvG W c a b k x = 0 := by
        rw [qvG_k hs, if_neg]
        have : qms W c s = 0 := by
          show qmost W (qvp W c s) = 0
          rw [hpp]; rfl
        omega
      have h0 : qvt W c a b k x = 0 := by
        unfold qvt qsy
        rw [if_neg]
        unfold qoa
        rw [if_neg (by omega)]
        omega
      omega
    | some p =>
      have hpn : p < W.nP := (qsrv_ok hpp).1
      have hpm := hf.pmost p hpn
      have hms : qms W c s = W.pmost p := by
        show qmost W (qvp W c s) = _
        rw [hpp]; rfl
      rw [kp, hpp, qvG_k hs, hms, if_pos (by omega)]
      exact qR_gain hf hh hc hpn (qch_le hgb j x hx)
  generalize qvt W c a b k x = t at ht hst ⊢
  refine q_forG t (fun j => [.ref 178, .int (nI c), .int x2, .int x3, .int x4, .int (nI (qch (qvG W c a b k) j x)), .int (nI (k + 1)), .int (nI t), .int (nI j)]) (fun _ => h) ?_ ?_ rfl rfl rfl rfl (by omega)
  · intro j hj
    have e1 := hst j hj
    have hl := qch_le hgb j x hx
    have hl2 := hgb _ hl
    have e2 := qch_s (qvG W c a b k) j x
    show zk_one (c_X12_trip_2 SHP) (b_X12_trip_2 SHP) (u_X12_trip_2 SHP) [.ref 178, .int (nI c), .int x2, .int x3, .int x4, .int (nI (qch (qvG W c a b k) j x)), .int (nI (k + 1)), .int (nI t), .int (nI j)] h = some (.inr ([.ref 178, .int (nI c), .int x2, .int x3, .int x4, .int (nI (qch (qvG W c a b k) (j + 1) x)), .int (nI (k + 1)), .int (nI t), .int (nI (j + 1))], h))
    rw [e2]
    generalize qch (qvG W c a b k) j x = y at e1 hl hl2 ⊢
    generalize qvG W c a b k y = gy at e1 hl2 ⊢
    simp -implicitDefEqProofs (disch := omega) [zq_r1, ze_c, ze_li, zq_li1, ze_lr, zq_lr1, zq_lr2, ze_ll, zq_ll1, ze_u, zq_u1, ze_b, zq_b1, zq_b3, ze_fi, ze_fd, ze_fl, ze_fs, ze_gi, ze_gl, ze_gn, ze_gf, zq_gf1, ze_al, zq_al1, zq_al3, ze_aa, zq_aa1, zq_aa3, ze_ev0, ze_ev, zq_ev1, zq_ev3, ze_ca, zq_ca1, ze_xc, zq_xc1, zq_xc3, ze_ck, zq_ck1, ze_rc, zq_rc1, ze_c1, zq_c11, ze_c2, zq_c21, zq_c23, ze_and, zq_andt, zq_andf, ze_or, zq_ort, zq_orf, ze_not, zq_not1, ze_it, zq_itt, zq_itf, zq_itd, ze_skip, ze_brk, ze_cnt, ze_ret0, ze_seq, zq_seq0, zq_seq1, zq_seq2, zq_seq3, ze_si, zq_si1, ze_sr, zq_sr1, ze_inc, zq_inc1, ze_ok0, ze_okS, zq_oki, zq_okr, zq_oka, zq_okf, zq_h1, ze_pf, zq_pf1, zq_pf3, ze_pfo, zq_pfo1, zq_pfo21, zq_pfo31, zq_pfo41, ze_as, zq_as1, zq_as21, zq_as31, ze_aso, zq_aso1, zq_aso21, zq_aso31, zq_aso41, zq_aso51, ze_if, zq_ift, zq_iff, zq_ifd, ze_ret, zq_ret1, ze_pk0, ze_pk1, ze_sw, zq_sw1, ze_cps, zq_cps1, ze_one, zq_o1t, zq_o1f, zq_o20, zq_o22, zq_o21, zq_o23, zq_o30, zq_len1, zq_pad0, zq_padS, ze_sem, ze_fl0, ze_flI, ze_flR, ze_flA, ze_flL, zq_semi, zq_semv, zq_semb0, zq_semb1, List.getElem?_cons_zero, List.getElem?_cons_succ, List.set_cons_zero, List.set_cons_succ, List.length_cons, List.length_nil, List.cons_append, List.nil_append, q_outT, q_outF, q_inT, q_inF, qn_an, qn_ltt, qn_ltf, qn_let, qn_lef, qn_eqt, qn_eqf, qn_sub, nI_add, pk_mul, qn_div, qn_modN, qn_nn, qn_np, qn_pn, qn_nlt, qn_pln, qn_nle, qn_ple, qn_0, qn_1, qn_2, qn_3, qn_4, qn_5, qn_6, qn_7, qn_8, qn_9, qn_10, qn_11, qn_12, qn_13, qn_14, qn_15, qn_16, qn_19, qn_20, qn_21, qn_24, qn_27, qn_29, qn_30, qn_31, qn_32, qn_33, qn_39, qn_40, qn_42, qn_48, qn_50, qn_54, qn_57, qn_59, qn_60, qn_63, qn_72, qn_96, qn_97, qn_99, qn_100, qn_122, qn_128, qn_150, qn_192, qn_199, qn_200, qn_201, qn_236, qn_240, qn_300, qn_998, qn_999, qn_1000, qn_2000, qn_2230, qn_9999, qn_10000, qn_114602, qn_180392, qn_664272, qn_1000000, qn_3379448, qn_10256063, qv_s, qv_n, qo_178_0, qo_178_1, qo_178_2, qo_178_3, qo_178_4, qo_178_5, qo_178_6, qo_178_7, qo_178_8, qo_178_9, qo_178_10, qo_178_11, qo_178_12, qo_178_13, qo_178_14, qp_178_14, qo_178_15, qp_178_15, qo_178_16, qp_178_16, qo_178_17, qo_178_18, qp_178_18, qo_178_19, qp_178_19, qo_178_20, qp_178_20, qo_178_21, qp_178_21, qo_178_22, qp_178_22, qo_178_23, qp_178_23, qo_178_24, qo_178_25, qo_178_26, qo_178_27, qo_178_28, qo_178_29, qo_178_30, qp_178_30, qo_178_31, qo_178_32, qp_178_32, qa_179, qa_180, qa_181, qa_182, qa_183, qa_184, qa_185, qa_186, qa_187, qa_188, qa_189, qa_190, qa_191, qa_192, qa_193, qa_194, qa_195, qa_196, qa_197, qa_198, qa_199, qa_200, qw_179, qw_180, qw_181, qw_182, qw_183, qw_184, qw_185, qw_186, qw_187, qw_188, qw_189, qw_190, qw_191, qw_192, qw_193, qw_194, qw_195, qw_196, qw_197, qw_198, qw_199, qw_200, qc_178, q_getN, q_putN, q_moreN, c_X12_trip_2, b_X12_trip_2, u_X12_trip_2, e1]
  · show zk_one (c_X12_trip_2 SHP) (b_X12_trip_2 SHP) (u_X12_trip_2 SHP) [.ref 178, .int (nI c), .int x2, .int x3, .int x4, .int (nI (qch (qvG W c a b k) t x)), .int (nI (k + 1)), .int (nI t), .int (nI t)] h = some (.inl (0, .null, [.ref 178, .int (nI c), .int x2, .int x3, .int x4, .int (nI (qch (qvG W c a b k) t x)), .int (nI (k + 1)), .int (nI t), .int (nI t)], h))
    generalize qch (qvG W c a b k) t x = y
    simp -implicitDefEqProofs (disch := omega) [zq_r1, ze_c, ze_li, zq_li1, ze_lr, zq_lr1, zq_lr2, ze_ll, zq_ll1, ze_u, zq_u1, ze_b, zq_b1, zq_b3, ze_fi, ze_fd, ze_fl, ze_fs, ze_gi, ze_gl, ze_gn, ze_gf, zq_gf1, ze_al, zq_al1, zq_al3, ze_aa, zq_aa1, zq_aa3, ze_ev0, ze_ev, zq_ev1, zq_ev3, ze_ca, zq_ca1, ze_xc, zq_xc1, zq_xc3, ze_ck, zq_ck1, ze_rc, zq_rc1, ze_c1, zq_c11, ze_c2, zq_c21, zq_c23, ze_and, zq_andt, zq_andf, ze_or, zq_ort, zq_orf, ze_not, zq_not1, ze_it, zq_itt, zq_itf, zq_itd, ze_skip, ze_brk, ze_cnt, ze_ret0, ze_seq, zq_seq0, zq_seq1, zq_seq2, zq_seq3, ze_si, zq_si1, ze_sr, zq_sr1, ze_inc, zq_inc1, ze_ok0, ze_okS, zq_oki, zq_okr, zq_oka, zq_okf, zq_h1, ze_pf, zq_pf1, zq_pf3, ze_pfo, zq_pfo1, zq_pfo21, zq_pfo31, zq_pfo41, ze_as, zq_as1, zq_as21, zq_as31, ze_aso, zq_aso1, zq_aso21, zq_aso31, zq_aso41, zq_aso51, ze_if, zq_ift, zq_iff, zq_ifd, ze_ret, zq_ret1, ze_pk0, ze_pk1, ze_sw, zq_sw1, ze_cps, zq_cps1, ze_one, zq_o1t, zq_o1f, zq_o20, zq_o22, zq_o21, zq_o23, zq_o30, zq_len1, zq_pad0, zq_padS, ze_sem, ze_fl0, ze_flI, ze_flR, ze_flA, ze_flL, zq_semi, zq_semv, zq_semb0, zq_semb1, List.getElem?_cons_zero, List.getElem?_cons_succ, List.set_cons_zero, List.set_cons_succ, List.length_cons, List.length_nil, List.cons_append, List.nil_append, q_outT, q_outF, q_inT, q_inF, qn_an, qn_ltt, qn_ltf, qn_let, qn_lef, qn_eqt, qn_eqf, qn_sub, nI_add, pk_mul, qn_div, qn_modN, qn_nn, qn_np, qn_pn, qn_nlt, qn_pln, qn_nle, qn_ple, qn_0, qn_1, qn_2, qn_3, qn_4, qn_5, qn_6, qn_7, qn_8, qn_9, qn_10, qn_11, qn_12, qn_13, qn_14, qn_15, qn_16, qn_19, qn_20, qn_21, qn_24, qn_27, qn_29, qn_30, qn_31, qn_32, qn_33, qn_39, qn_40, qn_42, qn_48, qn_50, qn_54, qn_57, qn_59, qn_60, qn_63, qn_72, qn_96, qn_97, qn_99, qn_100, qn_122, qn_128, qn_150, qn_192, qn_199, qn_200, qn_201, qn_236, qn_240, qn_300, qn_998, qn_999, qn_1000, qn_2000, qn_2230, qn_9999, qn_10000, qn_114602, qn_180392, qn_664272, qn_1000000, qn_3379448, qn_10256063, qv_s, qv_n, qo_178_0, qo_178_1, qo_178_2, qo_178_3, qo_178_4, qo_178_5, qo_178_6, qo_178_7, qo_178_8, qo_178_9, qo_178_10, qo_178_11, qo_178_12, qo_178_13, qo_178_14, qp_178_14, qo_178_15, qp_178_15, qo_178_16, qp_178_16, qo_178_17, qo_178_18, qp_178_18, qo_178_19, qp_178_19, qo_178_20, qp_178_20, qo_178_21, qp_178_21, qo_178_22, qp_178_22, qo_178_23, qp_178_23, qo_178_24, qo_178_25, qo_178_26, qo_178_27, qo_178_28, qo_178_29, qo_178_30, qp_178_30, qo_178_31, qo_178_32, qp_178_32, qa_179, qa_180, qa_181, qa_182, qa_183, qa_184, qa_185, qa_186, qa_187, qa_188, qa_189, qa_190, qa_191, qa_192, qa_193, qa_194, qa_195, qa_196, qa_197, qa_198, qa_199, qa_200, qw_179, qw_180, qw_181, qw_182, qw_183, qw_184, qw_185, qw_186, qw_187, qw_188, qw_189, qw_190, qw_191, qw_192, qw_193, qw_194, qw_195, qw_196, qw_197, qw_198, qw_199, qw_200, qc_178, q_getN, q_putN, q_moreN, c_X12_trip_2, b_X12_trip_2, u_X12_trip_2]
/-- a leg of the reference's -/
theorem qR_leg {h : zk_H} {W : qW} (hf : qWf W) (hh : qR (fun r => h (179 + r)) W) {c a b : Nat} (hc : c < W.nC) (hab : a ≤ b) (hb : b ≤ 999) (hw : qwyR W c a b h) {k : Nat} (hk : k ≤ qvn W a b) : ∃ y0 y1, h 190 k = nI y0 ∧ h 190 (k + 1) = nI y1 ∧ y0 ≤ y1 ∧ y1 ≤ 999 ∧ f_X12_chargeFor SHP [.ref 178, .int (nI c), .int (nI (y1 - y0))] h = some (.int (nI (qvC W c a b k)), h) := by
  have w0 := qwyR_i hw (i := k) (by omega)
  have w1 := qwyR_i hw (i := k + 1) (by omega)
  have hmn := qwy_mono hf hab (i := k) W.nS (Nat.le_refl _) hk
  have hmn : qwy W a b (qvL W a b) k ≤ qwy W a b (qvL W a b) (k + 1) := hmn
  have hin : qwy W a b (qvL W a b) (k + 1) ≤ b := qwy_in hab
  have hlen : qwy W a b (qvL W a b) (k + 1) - qwy W a b (qvL W a b) k ≤ 999 := by omega
  have e1 := q_cfor hf hh hc (nI (qwy W a b (qvL W a b) (k + 1) - qwy W a b (qvL W a b) k))
  rw [qcd_m hf hc hlen] at e1
  exact ⟨_, _, w0, w1, hmn, by omega, e1⟩
def qfolQ (W : qW) (c a b w : Nat) (h : zk_H) (q : Nat × Value × List Value × zk_H) : Prop := (∃ (k s : Nat) (e : List Value), (qvL W a b)[k]? = some s ∧ w = 10 + s ∧ q = (3, .int (nI (qvt W c a b k (qvx W c a b k))), e, h)) ∨ ((∀ (k s : Nat), (qvL W a b)[k]? = some s → w ≠ 10 + s) ∧ ∃ u v, q = (0, .null, [.ref 178, .int (nI c), .int (nI a), .int (nI b), .int (nI w), .int (nI (qvz W c a b (qvn W a b))), .int (nI (qvn W a b + 1)), u, v], h))
/-- what is true of the trip that there is -/
theorem qv_path {W : qW} (hf : qWf W) {c a b : Nat} (hc : c < W.nC) (hle : qvC W c a b 0 ≤ W.chg c) (hfe : qvA W c a b 0 (W.chg c - qvC W c a b 0) < 1000000) {k : Nat} (hk : k ≤ qvn W a b) : qvx W c a b k ≤ W.bat c ∧ qvA W c a b k (qvx W c a b k) < 1000000 ∧ qvz W c a b k ≤ W.bat c ∧ qvC W c a b k ≤ qvz W c a b k ∧ (k < qvn W a b → qvt W c a b k (qvx W c a b k) ≤ W.bat c) := by
  have hbat := (hf.bat c hc).2
  have hchg := hf.chg c hc
  have hpath := qxk_ok (n := qvn W a b) (g := qvG W c a b) (LT := qvT W a b) (LC := qvC W c a b) (w := qvw W a b) (b := W.bat c) (x0 := W.chg c - qvC W c a b 0) hbat (fun k x hx => qvG_b k x hx) (by omega) hfe
  obtain ⟨x1, x2, x3⟩ := hpath k hk
  refine ⟨x1, x2, ?_, ?_, fun h => (x3 h).2.2⟩
  · cases k with
    | zero => exact hchg
    | succ k =>
      obtain ⟨y1, y2, y3⟩ := hpath k (by omega)
      exact (y3 (by omega)).2.1
  · cases k with
    | zero => exact hle
    | succ k =>
      obtain ⟨y1, y2, y3⟩ := hpath k (by omega)
      exact (y3 (by omega)).1
theorem qR_folT {h : zk_H} {W : qW} (hf : qWf W) (hh : qR (fun r => h (179 + r)) W) {c a b : Nat} (hc : c < W.nC) (hab : a ≤ b) (hb : b ≤ 999) (hw : qwyR W c a b h) (hB : ∀ k, k < qvn W a b → qrwB h k (W.bat c) (qvB W c a b k)) (hle : qvC W c a b 0 ≤ W.chg c) (hfe : qvA W c a b 0 (W.chg c - qvC W c a b 0) < 1000000) {w : Nat} (hw31 : w ≤ 30) : ∃ q, zk_loop (c_X12_trip_1 SHP) (b_X12_trip_1 SHP) (u_X12_trip_1 SHP) 1000 [.ref 178, .int (nI c), .int (nI a), .int (nI b), .int (nI w), .int (nI (W.chg c)), .int (nI 1), .float 0, .float 0] h = some q ∧ qfolQ W c a b w h q := by
  have hC := hf.hC
  have hS := hf.hS
  have hbat := (hf.bat c hc).2
  have hn6 := qvn_6 (a := a) (b := b) hf
  have k14 : h 178 14 = nI (qvn W a b) := hw.1.1
  refine q_whl (c := c_X12_trip_1 SHP) (b := b_X12_trip_1 SHP) (u := u_X12_trip_1 SHP) (P := fun m e g => g = h ∧ ∃ k u v, k + m = qvn W a b ∧ (∀ (j s : Nat), j < k → (qvL W a b)[j]? = some s → w ≠ 10 + s) ∧ e = [.ref 178, .int (nI c), .int (nI a), .int (nI b), .int (nI w), .int (nI (qvz W c a b k)), .int (nI (k + 1)), u, v]) (Q := qfolQ W c a b w h) ?_ 1000 (qvn W a b) _ h (by omega) ⟨rfl, 0, _, _, by omega, fun j s hj => by omega, rfl⟩
  rintro m e g ⟨rfl, k, u, v, hkm, hno, rfl⟩
  cases m with
  | zero =>
    left
    have hkn : k = qvn W a b := by omega
    subst hkn
    refine ⟨(0, .null, [.ref 178, .int (nI c), .int (nI a), .int (nI b), .int (nI w), .int (nI (qvz W c a b (qvn W a b))), .int (nI (qvn W a b + 1)), u, v], g), ?_, Or.inr ⟨fun j s hj => hno j s (List.getElem?_eq_some_iff.1 hj).1 hj, u, v, rfl⟩⟩
    generalize qvz W c a b (qvn W a b) = z
    simp -implicitDefEqProofs (disch := omega) [zq_r1, ze_c, ze_li, zq_li1, ze_lr, zq_lr1, zq_lr2, ze_ll, zq_ll1, ze_u, zq_u1, ze_b, zq_b1, zq_b3, ze_fi, ze_fd, ze_fl, ze_fs, ze_gi, ze_gl, ze_gn, ze_gf, zq_gf1, ze_al, zq_al1, zq_al3, ze_aa, zq_aa1, zq_aa3, ze_ev0, ze_ev, zq_ev1, zq_ev3, ze_ca, zq_ca1, ze_xc, zq_xc1, zq_xc3, ze_ck, zq_ck1, ze_rc, zq_rc1, ze_c1, zq_c11, ze_c2, zq_c21, zq_c23, ze_and, zq_andt, zq_andf, ze_or, zq_ort, zq_orf, ze_not, zq_not1, ze_it, zq_itt, zq_itf, zq_itd, ze_skip, ze_brk, ze_cnt, ze_ret0, ze_seq, zq_seq0, zq_seq1, zq_seq2, zq_seq3, ze_si, zq_si1, ze_sr, zq_sr1, ze_inc, zq_inc1, ze_ok0, ze_okS, zq_oki, zq_okr, zq_oka, zq_okf, zq_h1, ze_pf, zq_pf1, zq_pf3, ze_pfo, zq_pfo1, zq_pfo21, zq_pfo31, zq_pfo41, ze_as, zq_as1, zq_as21, zq_as31, ze_aso, zq_aso1, zq_aso21, zq_aso31, zq_aso41, zq_aso51, ze_if, zq_ift, zq_iff, zq_ifd, ze_ret, zq_ret1, ze_pk0, ze_pk1, ze_sw, zq_sw1, ze_cps, zq_cps1, ze_one, zq_o1t, zq_o1f, zq_o20, zq_o22, zq_o21, zq_o23, zq_o30, zq_len1, zq_pad0, zq_padS, ze_sem, ze_fl0, ze_flI, ze_flR, ze_flA, ze_flL, zq_semi, zq_semv, zq_semb0, zq_semb1, List.getElem?_cons_zero, List.getElem?_cons_succ, List.set_cons_zero, List.set_cons_succ, List.length_cons, List.length_nil, List.cons_append, List.nil_append, q_outT, q_outF, q_inT, q_inF, qn_an, qn_ltt, qn_ltf, qn_let, qn_lef, qn_eqt, qn_eqf, qn_sub, nI_add, pk_mul, qn_div, qn_modN, qn_nn, qn_np, qn_pn, qn_nlt, qn_pln, qn_nle, qn_ple, qn_0, qn_1, qn_2, qn_3, qn_4, qn_5, qn_6, qn_7, qn_8, qn_9, qn_10, qn_11, qn_12, qn_13, qn_14, qn_15, qn_16, qn_19, qn_20, qn_21, qn_24, qn_27, qn_29, qn_30, qn_31, qn_32, qn_33, qn_39, qn_40, qn_42, qn_48, qn_50, qn_54, qn_57, qn_59, qn_60, qn_63, qn_72, qn_96, qn_97, qn_99, qn_100, qn_122, qn_128, qn_150, qn_192, qn_199, qn_200, qn_201, qn_236, qn_240, qn_300, qn_998, qn_999, qn_1000, qn_2000, qn_2230, qn_9999, qn_10000, qn_114602, qn_180392, qn_664272, qn_1000000, qn_3379448, qn_10256063, qv_s, qv_n, qo_178_0, qo_178_1, qo_178_2, qo_178_3, qo_178_4, qo_178_5, qo_178_6, qo_178_7, qo_178_8, qo_178_9, qo_178_10, qo_178_11, qo_178_12, qo_178_13, qo_178_14, qp_178_14, qo_178_15, qp_178_15, qo_178_16, qp_178_16, qo_178_17, qo_178_18, qp_178_18, qo_178_19, qp_178_19, qo_178_20, qp_178_20, qo_178_21, qp_178_21, qo_178_22, qp_178_22, qo_178_23, qp_178_23, qo_178_24, qo_178_25, qo_178_26, qo_178_27, qo_178_28, qo_178_29, qo_178_30, qp_178_30, qo_178_31, qo_178_32, qp_178_32, qa_179, qa_180, qa_181, qa_182, qa_183, qa_184, qa_185, qa_186, qa_187, qa_188, qa_189, qa_190, qa_191, qa_192, qa_193, qa_194, qa_195, qa_196, qa_197, qa_198, qa_199, qa_200, qw_179, qw_180, qw_181, qw_182, qw_183, qw_184, qw_185, qw_186, qw_187, qw_188, qw_189, qw_190, qw_191, qw_192, qw_193, qw_194, qw_195, qw_196, qw_197, qw_198, qw_199, qw_200, qc_178, q_getN, q_putN, q_moreN, c_X12_trip_1, b_X12_trip_1, u_X12_trip_1, k14]
  | succ m =>
    have hk : k < qvn W a b := by omega
    obtain ⟨s, hs⟩ : ∃ s, (qvL W a b)[k]? = some s := ⟨(qvL W a b)[k], List.getElem?_eq_getElem hk⟩
    have hsn := (qpls_mem (List.mem_of_getElem? hs)).1
    obtain ⟨y0, y1, w0, w1, hy1, hy2, e1⟩ := qR_leg hf hh hc hab hb hw (k := k) (by omega)
    obtain ⟨p1, p2, p3, p4, p5⟩ := qv_path hf hc hle hfe (k := k) (by omega)
    have p5 := p5 hk
    have b3 := (hB k hk (qvx W c a b k) p1).2.2
    rw [(qv_lev hf hc hab hb (k := k) (by omega) p1).2 hk p2] at b3
    have ks := (hw.1.2.2 k s hs).1
    have z3 := qR_stay hf hh hc hw hk p1 (nI a) (nI b) (nI w)
    have hcb := qvC_b hf hc hab hb k
    have ez : qvz W c a b (k + 1) = qch (qvG W c a b k) (qvt W c a b k (qvx W c a b k)) (qvx W c a b k) := rfl
    have ex := qvx_z (W := W) (c := c) (a := a) (b := b) k
    by_cases hws : w = 10 + s
    · left
      refine ⟨(3, .int (nI (qvt W c a b k (qvx W c a b k))), [.ref 178, .int (nI c), .int (nI a), .int (nI b), .int (nI w), .int (nI (qvx W c a b k)), .int (nI (k + 1)), .int (nI (qvt W c a b k (qvx W c a b k))), v], g), ?_, Or.inl ⟨k, s, _, hs, hws, rfl⟩⟩
      clear z3 ez
      generalize qvt W c a b k (qvx W c a b k) = t at b3 p5 ⊢
      generalize qvx W c a b k = x at b3 p1 ex ⊢
      generalize qvz W c a b k = z at p3 p4 ex ⊢
      subst ex
      simp -implicitDefEqProofs (disch := omega) [zq_r1, ze_c, ze_li, zq_li1, ze_lr, zq_lr1, zq_lr2, ze_ll, zq_ll1, ze_u, zq_u1, ze_b, zq_b1, zq_b3, ze_fi, ze_fd, ze_fl, ze_fs, ze_gi, ze_gl, ze_gn, ze_gf, zq_gf1, ze_al, zq_al1, zq_al3, ze_aa, zq_aa1, zq_aa3, ze_ev0, ze_ev, zq_ev1, zq_ev3, ze_ca, zq_ca1, ze_xc, zq_xc1, zq_xc3, ze_ck, zq_ck1, ze_rc, zq_rc1, ze_c1, zq_c11, ze_c2, zq_c21, zq_c23, ze_and, zq_andt, zq_andf, ze_or, zq_ort, zq_orf, ze_not, zq_not1, ze_it, zq_itt, zq_itf, zq_itd, ze_skip, ze_brk, ze_cnt, ze_ret0, ze_seq, zq_seq0, zq_seq1, zq_seq2, zq_seq3, ze_si, zq_si1, ze_sr, zq_sr1, ze_inc, zq_inc1, ze_ok0, ze_okS, zq_oki, zq_okr, zq_oka, zq_okf, zq_h1, ze_pf, zq_pf1, zq_pf3, ze_pfo, zq_pfo1, zq_pfo21, zq_pfo31, zq_pfo41, ze_as, zq_as1, zq_as21, zq_as31, ze_aso, zq_aso1, zq_aso21, zq_aso31, zq_aso41, zq_aso51, ze_if, zq_ift, zq_iff, zq_ifd, ze_ret, zq_ret1, ze_pk0, ze_pk1, ze_sw, zq_sw1, ze_cps, zq_cps1, ze_one, zq_o1t, zq_o1f, zq_o20, zq_o22, zq_o21, zq_o23, zq_o30, zq_len1, zq_pad0, zq_padS, ze_sem, ze_fl0, ze_flI, ze_flR, ze_flA, ze_flL, zq_semi, zq_semv, zq_semb0, zq_semb1, List.getElem?_cons_zero, List.getElem?_cons_succ, List.set_cons_zero, List.set_cons_succ, List.length_cons, List.length_nil, List.cons_append, List.nil_append, q_outT, q_outF, q_inT, q_inF, qn_an, qn_ltt, qn_ltf, qn_let, qn_lef, qn_eqt, qn_eqf, qn_sub, nI_add, pk_mul, qn_div, qn_modN, qn_nn, qn_np, qn_pn, qn_nlt, qn_pln, qn_nle, qn_ple, qn_0, qn_1, qn_2, qn_3, qn_4, qn_5, qn_6, qn_7, qn_8, qn_9, qn_10, qn_11, qn_12, qn_13, qn_14, qn_15, qn_16, qn_19, qn_20, qn_21, qn_24, qn_27, qn_29, qn_30, qn_31, qn_32, qn_33, qn_39, qn_40, qn_42, qn_48, qn_50, qn_54, qn_57, qn_59, qn_60, qn_63, qn_72, qn_96, qn_97, qn_99, qn_100, qn_122, qn_128, qn_150, qn_192, qn_199, qn_200, qn_201, qn_236, qn_240, qn_300, qn_998, qn_999, qn_1000, qn_2000, qn_2230, qn_9999, qn_10000, qn_114602, qn_180392, qn_664272, qn_1000000, qn_3379448, qn_10256063, qv_s, qv_n, qo_178_0, qo_178_1, qo_178_2, qo_178_3, qo_178_4, qo_178_5, qo_178_6, qo_178_7, qo_178_8, qo_178_9, qo_178_10, qo_178_11, qo_178_12, qo_178_13, qo_178_14, qp_178_14, qo_178_15, qp_178_15, qo_178_16, qp_178_16, qo_178_17, qo_178_18, qp_178_18, qo_178_19, qp_178_19, qo_178_20, qp_178_20, qo_178_21, qp_178_21, qo_178_22, qp_178_22, qo_178_23, qp_178_23, qo_178_24, qo_178_25, qo_178_26, qo_178_27, qo_178_28, qo_178_29, qo_178_30, qp_178_30, qo_178_31, qo_178_32, qp_178_32, qa_179, qa_180, qa_181, qa_182, qa_183, qa_184, qa_185, qa_186, qa_187, qa_188, qa_189, qa_190, qa_191, qa_192, qa_193, qa_194, qa_195, qa_196, qa_197, qa_198, qa_199, qa_200, qw_179, qw_180, qw_181, qw_182, qw_183, qw_184, qw_185, qw_186, qw_187, qw_188, qw_189, qw_190, qw_191, qw_192, qw_193, qw_194, qw_195, qw_196, qw_197, qw_198, qw_199, qw_200, qc_178, q_getN, q_putN, q_moreN, c_X12_trip_1, b_X12_trip_1, u_X12_trip_1, k14, w0, w1, e1, b3, ks]
    · right
      refine ⟨[.ref 178, .int (nI c), .int (nI a), .int (nI b), .int (nI w), .int (nI (qvz W c a b (k + 1))), .int (nI (k + 1 + 1)), .int (nI (qvt W c a b k (qvx W c a b k))), .int (nI (qvt W c a b k (qvx W c a b k)))], g, m, ?_, by omega, rfl, k + 1, _, _, by omega, ?_, rfl⟩
      · rw [ez]
        generalize qch (qvG W c a b k) (qvt W c a b k (qvx W c a b k)) (qvx W c a b k) = y at z3 ⊢
        clear ez
        generalize qvt W c a b k (qvx W c a b k) = t at b3 p5 z3 ⊢
        generalize qvx W c a b k = x at b3 p1 ex z3
        generalize qvz W c a b k = z at p3 p4 ex ⊢
        subst ex
        simp -implicitDefEqProofs (disch := omega) [zq_r1, ze_c, ze_li, zq_li1, ze_lr, zq_lr1, zq_lr2, ze_ll, zq_ll1, ze_u, zq_u1, ze_b, zq_b1, zq_b3, ze_fi, ze_fd, ze_fl, ze_fs, ze_gi, ze_gl, ze_gn, ze_gf, zq_gf1, ze_al, zq_al1, zq_al3, ze_aa, zq_aa1, zq_aa3, ze_ev0, ze_ev, zq_ev1, zq_ev3, ze_ca, zq_ca1, ze_xc, zq_xc1, zq_xc3, ze_ck, zq_ck1, ze_rc, zq_rc1, ze_c1, zq_c11, ze_c2, zq_c21, zq_c23, ze_and, zq_andt, zq_andf, ze_or, zq_ort, zq_orf, ze_not, zq_not1, ze_it, zq_itt, zq_itf, zq_itd, ze_skip, ze_brk, ze_cnt, ze_ret0, ze_seq, zq_seq0, zq_seq1, zq_seq2, zq_seq3, ze_si, zq_si1, ze_sr, zq_sr1, ze_inc, zq_inc1, ze_ok0, ze_okS, zq_oki, zq_okr, zq_oka, zq_okf, zq_h1, ze_pf, zq_pf1, zq_pf3, ze_pfo, zq_pfo1, zq_pfo21, zq_pfo31, zq_pfo41, ze_as, zq_as1, zq_as21, zq_as31, ze_aso, zq_aso1, zq_aso21, zq_aso31, zq_aso41, zq_aso51, ze_if, zq_ift, zq_iff, zq_ifd, ze_ret, zq_ret1, ze_pk0, ze_pk1, ze_sw, zq_sw1, ze_cps, zq_cps1, ze_one, zq_o1t, zq_o1f, zq_o20, zq_o22, zq_o21, zq_o23, zq_o30, zq_len1, zq_pad0, zq_padS, ze_sem, ze_fl0, ze_flI, ze_flR, ze_flA, ze_flL, zq_semi, zq_semv, zq_semb0, zq_semb1, List.getElem?_cons_zero, List.getElem?_cons_succ, List.set_cons_zero, List.set_cons_succ, List.length_cons, List.length_nil, List.cons_append, List.nil_append, q_outT, q_outF, q_inT, q_inF, qn_an, qn_ltt, qn_ltf, qn_let, qn_lef, qn_eqt, qn_eqf, qn_sub, nI_add, pk_mul, qn_div, qn_modN, qn_nn, qn_np, qn_pn, qn_nlt, qn_pln, qn_nle, qn_ple, qn_0, qn_1, qn_2, qn_3, qn_4, qn_5, qn_6, qn_7, qn_8, qn_9, qn_10, qn_11, qn_12, qn_13, qn_14, qn_15, qn_16, qn_19, qn_20, qn_21, qn_24, qn_27, qn_29, qn_30, qn_31, qn_32, qn_33, qn_39, qn_40, qn_42, qn_48, qn_50, qn_54, qn_57, qn_59, qn_60, qn_63, qn_72, qn_96, qn_97, qn_99, qn_100, qn_122, qn_128, qn_150, qn_192, qn_199, qn_200, qn_201, qn_236, qn_240, qn_300, qn_998, qn_999, qn_1000, qn_2000, qn_2230, qn_9999, qn_10000, qn_114602, qn_180392, qn_664272, qn_1000000, qn_3379448, qn_10256063, qv_s, qv_n, qo_178_0, qo_178_1, qo_178_2, qo_178_3, qo_178_4, qo_178_5, qo_178_6, qo_178_7, qo_178_8, qo_178_9, qo_178_10, qo_178_11, qo_178_12, qo_178_13, qo_178_14, qp_178_14, qo_178_15, qp_178_15, qo_178_16, qp_178_16, qo_178_17, qo_178_18, qp_178_18, qo_178_19, qp_178_19, qo_178_20, qp_178_20, qo_178_21, qp_178_21, qo_178_22, qp_178_22, qo_178_23, qp_178_23, qo_178_24, qo_178_25, qo_178_26, qo_178_27, qo_178_28, qo_178_29, qo_178_30, qp_178_30, qo_178_31, qo_178_32, qp_178_32, qa_179, qa_180, qa_181, qa_182, qa_183, qa_184, qa_185, qa_186, qa_187, qa_188, qa_189, qa_190, qa_191, qa_192, qa_193, qa_194, qa_195, qa_196, qa_197, qa_198, qa_199, qa_200, qw_179, qw_180, qw_181, qw_182, qw_183, qw_184, qw_185, qw_186, qw_187, qw_188, qw_189, qw_190, qw_191, qw_192, qw_193, qw_194, qw_195, qw_196, qw_197, qw_198, qw_199, qw_200, qc_178, q_getN, q_putN, q_moreN, c_X12_trip_1, b_X12_trip_1, u_X12_trip_1, k14, w0, w1, e1, b3, ks, z3]
      · intro j s' hj hs'
        by_cases hjk : j = k
        · subst hjk
          rw [hs] at hs'; cases hs'
          exact hws
        · exact hno j s' (by omega) hs'
theorem qx_os (x : Int32) {W : qW} (hf : qWf W) : (¬ nI 10 ≤ x) ∨ (nI 10 ≤ x ∧ ∃ o, (o = 0 ∨ o = 1) ∧ ∀ h, qC h W → f_X10_hasSite SHP [.ref 1, .int (x - nI 10)] h = some (.int (nI o), h)) := by
  by_cases hx : nI 10 ≤ x
  · right
    refine ⟨hx, ?_⟩
    rcases qx_site (x - nI 10) hf with ⟨s, hs, e⟩ | ⟨n1, _⟩
    · refine ⟨1, Or.inr rfl, fun h hh => ?_⟩
      rw [e]; exact qh_Site hf hh hs
    · exact ⟨0, Or.inl rfl, n1⟩
  · exact Or.inl hx
