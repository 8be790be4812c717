/-! read -/
def qrd (W : qW) (s : Nat) (r : qRl) : qW := (((W.up 15 s (r.1.getD 0)).up 16 s (r.2.1.getD 100)).up 17 s (r.2.2.1.getD 0)).up 18 s (r.2.2.2.getD 100)
theorem qR_low {h g : zk_H} {W : qW} (hh : qR (fun r => h (179 + r)) W) (hS6 : W.nS ≤ 6) (e : ∀ a i, (179 ≤ a ∧ a < 187 ∧ (a = 180 → i < 54)) → g a i = h a i)  : qR (fun r => g (179 + r)) (W) := by
  apply qR.mk
  · exact (e _ _ (by omega)).trans hh.now
  · exact (e _ _ (by omega)).trans hh.nS
  · exact (e _ _ (by omega)).trans hh.nP
  · exact (e _ _ (by omega)).trans hh.nC
  · exact (e _ _ (by omega)).trans hh.trn
  · exact (e _ _ (by omega)).trans hh.bAn
  · exact (e _ _ (by omega)).trans hh.bBn
  · exact (e _ _ (by omega)).trans hh.cold
  · exact (e _ _ (by omega)).trans hh.drift
  · exact (e _ _ (by omega)).trans hh.given
  · intro s y; exact (e _ _ (by omega)).trans (hh.price s y)
  · intro s y; exact (e _ _ (by omega)).trans (hh.km s y)
  · intro s y; exact (e _ _ (by omega)).trans (hh.pow s y)
  · intro s y; exact (e _ _ (by omega)).trans (hh.first s y)
  · intro s y; exact (e _ _ (by omega)).trans (hh.cap s y)
  · intro s y; exact (e _ _ (by omega)).trans (hh.idle s y)
  · intro s y; exact (e _ _ (by omega)).trans (hh.after s y)
  · intro s y; exact (e _ _ (by omega)).trans (hh.qn s y)
  · intro s y; exact (e _ _ (by omega)).trans (hh.wait s y)
  · intro s y; exact (e _ _ (by omega)).trans (hh.sgiv s y)
  · intro s y k c y2; exact (e _ _ (by omega)).trans (hh.q s y k c y2)
  · intro s y; exact (e _ _ (by omega)).trans (hh.psite s y)
  · intro s y; exact (e _ _ (by omega)).trans (hh.pmost s y)
  · intro s y; exact (e _ _ (by omega)).trans (hh.pcab s y)
  · intro s y; exact (e _ _ (by omega)).trans (hh.pcar s y)
  · intro s y; exact (e _ _ (by omega)).trans (hh.pfail s y)
  · intro s y; exact (e _ _ (by omega)).trans (hh.psays s y)
  · intro s y; exact (e _ _ (by omega)).trans (hh.bat s y)
  · intro s y; exact (e _ _ (by omega)).trans (hh.use s y)
  · intro s y; exact (e _ _ (by omega)).trans (hh.rate s y)
  · intro s y; exact (e _ _ (by omega)).trans (hh.cab s y)
  · intro s y; exact (e _ _ (by omega)).trans (hh.chg s y)
  · intro s y; exact (e _ _ (by omega)).trans (hh.wh s y)
  · intro s y; exact (e _ _ (by omega)).trans (hh.want s y)
  · intro s y; exact (e _ _ (by omega)).trans (hh.stay s y)
  · intro s y; exact (e _ _ (by omega)).trans (hh.got s y)
  · intro s y; exact (e _ _ (by omega)).trans (hh.waited s y)
  · intro s y; exact (e _ _ (by omega)).trans (hh.idlAll s y)
  · intro s y; exact (e _ _ (by omega)).trans (hh.pays s y)
  · intro s y; exact (e _ _ (by omega)).trans (hh.tried s y)
  · intro s y; exact (e _ _ (by omega)).trans (hh.idl s y)
  · intro s y; exact (e _ _ (by omega)).trans (hh.plugAt s y)
  · intro i x y; exact ⟨(e _ _ (by omega)).trans (hh.tr i x y).1, (e _ _ (by omega)).trans (hh.tr i x y).2.1, (e _ _ (by omega)).trans (hh.tr i x y).2.2.1, (e _ _ (by omega)).trans (hh.tr i x y).2.2.2⟩
  · intro i x y; exact ⟨(e _ _ (by omega)).trans (hh.bA i x y).1, (e _ _ (by omega)).trans (hh.bA i x y).2.1, (e _ _ (by omega)).trans (hh.bA i x y).2.2⟩
  · intro i x y; exact ⟨(e _ _ (by omega)).trans (hh.bB i x y).1, (e _ _ (by omega)).trans (hh.bB i x y).2.1, (e _ _ (by omega)).trans (hh.bB i x y).2.2⟩

theorem qR_rules {h g : zk_H} {W : qW} (hh : qR (fun r => h (179 + r)) W) (hS6 : W.nS ≤ 6) {s : Nat} {r : qRl} (e : ∀ a i, (179 ≤ a ∧ a < 187 ∧ (a = 180 → i < 54 ∧ (i < 9 * s + 2 ∨ 9 * s + 6 ≤ i))) → g a i = h a i) (f2 : g 180 (9 * s + 2) = nI (r.1.getD 0)) (f3 : g 180 (9 * s + 3) = nI (r.2.1.getD 100)) (f4 : g 180 (9 * s + 4) = nI (r.2.2.1.getD 0)) (f5 : g 180 (9 * s + 5) = nI (r.2.2.2.getD 100)) : qR (fun r => g (179 + r)) (qrd W s r) := by
  have hz : (qrd W s r).nS ≤ 6 := hS6
  apply qR.mk
  · exact (e _ _ (by omega)).trans hh.now
  · exact (e _ _ (by omega)).trans hh.nS
  · exact (e _ _ (by omega)).trans hh.nP
  · exact (e _ _ (by omega)).trans hh.nC
  · exact (e _ _ (by omega)).trans hh.trn
  · exact (e _ _ (by omega)).trans hh.bAn
  · exact (e _ _ (by omega)).trans hh.bBn
  · exact (e _ _ (by omega)).trans hh.cold
  · exact (e _ _ (by omega)).trans hh.drift
  · exact (e _ _ (by omega)).trans hh.given
  · intro s y; exact (e _ _ (by omega)).trans (hh.price s y)
  · intro s y; exact (e _ _ (by omega)).trans (hh.km s y)
  · intro s y; exact (e _ _ (by omega)).trans (hh.pow s y)
  · intro t y
    simp only [qrd, qu_first]; by_cases ht : t = s
    · simp [ht]; exact f2
    · simp [ht]; exact (e _ _ (by omega)).trans (hh.first t y)
  · intro t y
    simp only [qrd, qu_cap]; by_cases ht : t = s
    · simp [ht]; exact f3
    · simp [ht]; exact (e _ _ (by omega)).trans (hh.cap t y)
  · intro t y
    simp only [qrd, qu_idle]; by_cases ht : t = s
    · simp [ht]; exact f4
    · simp [ht]; exact (e _ _ (by omega)).trans (hh.idle t y)
  · intro t y
    simp only [qrd, qu_after]; by_cases ht : t = s
    · simp [ht]; exact f5
    · simp [ht]; exact (e _ _ (by omega)).trans (hh.after t y)
  · intro s y; exact (e _ _ (by omega)).trans (hh.qn s y)
  · intro s y; exact (e _ _ (by omega)).trans (hh.wait s y)
  · intro s y; exact (e _ _ (by omega)).trans (hh.sgiv s y)
  · intro s y k c y2; exact (e _ _ (by omega)).trans (hh.q s y k c y2)
  · intro s y; exact (e _ _ (by omega)).trans (hh.psite s y)
  · intro s y; exact (e _ _ (by omega)).trans (hh.pmost s y)
  · intro s y; exact (e _ _ (by omega)).trans (hh.pcab s y)
  · intro s y; exact (e _ _ (by omega)).trans (hh.pcar s y)
  · intro s y; exact (e _ _ (by omega)).trans (hh.pfail s y)
  · intro s y; exact (e _ _ (by omega)).trans (hh.psays s y)
  · intro s y; exact (e _ _ (by omega)).trans (hh.bat s y)
  · intro s y; exact (e _ _ (by omega)).trans (hh.use s y)
  · intro s y; exact (e _ _ (by omega)).trans (hh.rate s y)
  · intro s y; exact (e _ _ (by omega)).trans (hh.cab s y)
  · intro s y; exact (e _ _ (by omega)).trans (hh.chg s y)
  · intro s y; exact (e _ _ (by omega)).trans (hh.wh s y)
  · intro s y; exact (e _ _ (by omega)).trans (hh.want s y)
  · intro s y; exact (e _ _ (by omega)).trans (hh.stay s y)
  · intro s y; exact (e _ _ (by omega)).trans (hh.got s y)
  · intro s y; exact (e _ _ (by omega)).trans (hh.waited s y)
  · intro s y; exact (e _ _ (by omega)).trans (hh.idlAll s y)
  · intro s y; exact (e _ _ (by omega)).trans (hh.pays s y)
  · intro s y; exact (e _ _ (by omega)).trans (hh.tried s y)
  · intro s y; exact (e _ _ (by omega)).trans (hh.idl s y)
  · intro s y; exact (e _ _ (by omega)).trans (hh.plugAt s y)
  · intro i x y; exact ⟨(e _ _ (by omega)).trans (hh.tr i x y).1, (e _ _ (by omega)).trans (hh.tr i x y).2.1, (e _ _ (by omega)).trans (hh.tr i x y).2.2.1, (e _ _ (by omega)).trans (hh.tr i x y).2.2.2⟩
  · intro i x y; exact ⟨(e _ _ (by omega)).trans (hh.bA i x y).1, (e _ _ (by omega)).trans (hh.bA i x y).2.1, (e _ _ (by omega)).trans (hh.bA i x y).2.2⟩
  · intro i x y; exact ⟨(e _ _ (by omega)).trans (hh.bB i x y).1, (e _ _ (by omega)).trans (hh.bB i x y).2.1, (e _ _ (by omega)).trans (hh.bB i x y).2.2⟩

theorem qWf_rd {W : qW} (hf : qWf W) {s : Nat} {r : qRl} (hs : s < W.nS) (hr : qrok r) : qWf (qrd W s r) := by
  have b1 : r.1.getD 0 ≤ 1 := by
    cases h : r.1 with
    | none => simp
    | some v => exact hr.1 v h
  have b2 : r.2.1.getD 100 ≤ 100 := by
    cases h : r.2.1 with
    | none => simp
    | some v => exact hr.2.1 v h
  have b3 : r.2.2.1.getD 0 ≤ 100 := by
    cases h : r.2.2.1 with
    | none => simp
    | some v => exact hr.2.2.1 v h
  have b4 : r.2.2.2.getD 100 ≤ 100 := by
    cases h : r.2.2.2 with
    | none => simp
    | some v => exact hr.2.2.2 v h
  apply qWf.mk
  · exact hf.hS
  · exact hf.hP
  · exact hf.hC
  · exact hf.cold
  · exact hf.drift
  · exact hf.now
  · exact hf.price
  · exact hf.km
  · exact hf.inc
  · exact hf.pow
  · exact hf.wait
  · intro t
    simp only [qrd, qu_first]; by_cases ht : t = s
    · simp [ht]; exact b1
    · simp [ht]; exact hf.first t
  · intro t
    simp only [qrd, qu_cap]; by_cases ht : t = s
    · simp [ht]; exact b2
    · simp [ht]; exact hf.cap t
  · intro t
    simp only [qrd, qu_idle]; by_cases ht : t = s
    · simp [ht]; exact b3
    · simp [ht]; exact hf.idle t
  · intro t
    simp only [qrd, qu_after]; by_cases ht : t = s
    · simp [ht]; exact b4
    · simp [ht]; exact hf.after t
  · intro t ht
    have ht : W.nS ≤ t := ht
    have z := hf.freshS t ht
    have hne : t ≠ s := by omega
    refine ⟨z.1, z.2.1, z.2.2.1, z.2.2.2.1, ?_, ?_, ?_, ?_, z.2.2.2.2.2.2.2.2⟩
    · simp only [qrd, qu_first]; simp [hne]; exact z.2.2.2.2.1
    · simp only [qrd, qu_cap]; simp [hne]; exact z.2.2.2.2.2.1
    · simp only [qrd, qu_idle]; simp [hne]; exact z.2.2.2.2.2.2.1
    · simp only [qrd, qu_after]; simp [hne]; exact z.2.2.2.2.2.2.2.1
  · exact hf.psite
  · exact hf.pmost
  · exact hf.pcab
  · exact hf.pfail
  · exact hf.psays
  · exact hf.freshP
  · exact hf.bat
  · exact hf.use
  · exact hf.rate
  · exact hf.cab
  · exact hf.chg
  · exact hf.stay
  · exact hf.tried
  · exact hf.plugAt
  · exact hf.freshC
  · exact hf.whOk
  · exact hf.wantOk
  · exact hf.qOk
  · exact hf.qNo
  · exact hf.carOk
  · exact hf.trN
  · exact hf.trOk
  · exact hf.bAN
  · exact hf.bBN
  · exact hf.bAOk
  · exact hf.bBOk

def qRQ (h : zk_H) (s : Nat) (R : Nat ⊕ (Nat × qRl)) (q : Nat × Value × List Value × zk_H) : Prop := match R with
  | .inl f => ∃ A B C g, q = (0, .null, [.ref 178, .int (nI s), .int (nI 54), A, B, C], g) ∧ g 178 23 = nI f ∧ qFb h g
  | .inr x => ∃ A C g, q = (0, .null, [.ref 178, .int (nI s), .int (nI 54), A, .int (nI x.1), C], g) ∧ g 178 23 = - nI 1 ∧ qRs g x.2 ∧ qFb h g
theorem qru1_fl {l : List Nat} {p : Nat} {r : qRl} (hp : p ≤ l.length) {f : Nat} (h1 : qru1 l p r = .inl f) : f ≤ l.length := by
  have p1 := qte2_le hp
  have p2 := qte2_le p1
  have p3 := qte2_le p2
  have s0 := qsk_le hp
  have s1 := qsk_le p1
  have s2 := qsk_le p2
  have s3 := qsk_le p3
  unfold qru1 at h1
  repeat' (split at h1)
  all_goals first | (cases h1; assumption) | cases h1
theorem qrl_fl {l : List Nat} {p : Nat} {r : qRl} (hp : p ≤ l.length) (hro : qrok r) {f : Nat} (h1 : qrl l p r = .inl f) : f ≤ l.length := by
  unfold qrl at h1
  cases h2 : qru1 l p r with
  | inl g => rw [h2] at h1; cases h1; exact qru1_fl hp h2
  | inr x =>
    rw [h2] at h1
    simp only at h1
    have := (qru1_ok hp hro h2).2.2
    split at h1
    · cases h1
    · cases h1; exact qsk_le (qte2_le this)
theorem qN_loop {h : zk_H} {l : List Nat} {s : Nat} (hl : l.length ≤ 100) (hb : ∀ x, x ∈ l → x ≤ 255) (ht : qTr h l 0) (hg : h 178 23 = - nI 1) (hr : qRs h (none, none, none, none)) (v : Value) : ∃ q, zk_loop (c_X12_read_1 SHP) (b_X12_read_1 SHP) (u_X12_read_1 SHP) 1000 [.ref 178, .int (nI s), .int (nI 54), .int (nI 0), .int (nI 0), v] h = some q ∧ qRQ h s (qpars l 4 0 (none, none, none, none) 0) q := by
  obtain ⟨R, hR⟩ : ∃ R, R = qpars l 4 0 (none, none, none, none) 0 := ⟨_, rfl⟩
  rw [← hR]
  refine q_whl (c := c_X12_read_1 SHP) (b := b_X12_read_1 SHP) (u := u_X12_read_1 SHP) (P := fun k e g => qFb h g ∧ ((∃ p r n v, n + k = 4 ∧ 1 ≤ k ∧ qsc r = n ∧ qrok r ∧ p ≤ l.length ∧ qTr g l p ∧ g 178 23 = - nI 1 ∧ qRs g r ∧ e = [.ref 178, .int (nI s), .int (nI 54), .int (nI (qseen r)), .int (nI n), v] ∧ qpars l k p r n = R) ∨ (∃ f A B C, R = .inl f ∧ f ≤ 100 ∧ g 178 23 = nI f ∧ e = [.ref 178, .int (nI s), .int (nI 54), A, B, C]))) (Q := qRQ h s R) ?_ 1000 4 _ h (by omega) ⟨fun _ _ _ _ => rfl, Or.inl ⟨0, (none, none, none, none), 0, v, by omega, by omega, rfl, ⟨by simp, by simp, by simp, by simp⟩, Nat.zero_le _, ht, hg, hr, rfl, hR.symm⟩⟩
  rintro k e g ⟨hfb, hcase⟩
  rcases hcase with ⟨p, r, n, v, hnk, hk1, hsc, hro, hp, hT, hG, hRs, rfl, hpr⟩ | ⟨f, A, B, C, hRf, hf, hG, rfl⟩
  · cases k with
    | zero => omega
    | succ k =>
      have hk3 := qkn_le l p
      have t19 := hT.2.1
      unfold qpars at hpr
      by_cases hk0 : qkn l p = 0
      · left
        rw [if_pos hk0] at hpr
        rw [← hpr]
        refine ⟨(0, .null, [.ref 178, .int (nI s), .int (nI 54), .int (nI (qseen r)), .int (nI n), v], g), ?_, by unfold qRQ; exact ⟨_, _, g, rfl, hG, hRs, hfb⟩⟩
        simp -implicitDefEqProofs (disch := omega) [zq_r1, ze_c, ze_li, zq_li1, ze_lr, zq_lr1, zq_lr2, ze_ll, zq_ll1, ze_u, zq_u1, ze_b, zq_b1, zq_b3, ze_fi, ze_fd, ze_fl, ze_fs, ze_gi, ze_gl, ze_gn, ze_gf, zq_gf1, ze_al, zq_al1, zq_al3, ze_aa, zq_aa1, zq_aa3, ze_ev0, ze_ev, zq_ev1, zq_ev3, ze_ca, zq_ca1, ze_xc, zq_xc1, zq_xc3, ze_ck, zq_ck1, ze_rc, zq_rc1, ze_c1, zq_c11, ze_c2, zq_c21, zq_c23, ze_and, zq_andt, zq_andf, ze_or, zq_ort, zq_orf, ze_not, zq_not1, ze_it, zq_itt, zq_itf, zq_itd, ze_skip, ze_brk, ze_cnt, ze_ret0, ze_seq, zq_seq0, zq_seq1, zq_seq2, zq_seq3, ze_si, zq_si1, ze_sr, zq_sr1, ze_inc, zq_inc1, ze_ok0, ze_okS, zq_oki, zq_okr, zq_oka, zq_okf, zq_h1, ze_pf, zq_pf1, zq_pf3, ze_pfo, zq_pfo1, zq_pfo21, zq_pfo31, zq_pfo41, ze_as, zq_as1, zq_as21, zq_as31, ze_aso, zq_aso1, zq_aso21, zq_aso31, zq_aso41, zq_aso51, ze_if, zq_ift, zq_iff, zq_ifd, ze_ret, zq_ret1, ze_pk0, ze_pk1, ze_sw, zq_sw1, ze_cps, zq_cps1, ze_one, zq_o1t, zq_o1f, zq_o20, zq_o22, zq_o21, zq_o23, zq_o30, zq_len1, zq_pad0, zq_padS, ze_sem, ze_fl0, ze_flI, ze_flR, ze_flA, ze_flL, zq_semi, zq_semv, zq_semb0, zq_semb1, List.getElem?_cons_zero, List.getElem?_cons_succ, List.set_cons_zero, List.set_cons_succ, List.length_cons, List.length_nil, List.cons_append, List.nil_append, q_outT, q_outF, q_inT, q_inF, qn_an, qn_ltt, qn_ltf, qn_let, qn_lef, qn_eqt, qn_eqf, qn_sub, nI_add, pk_mul, qn_div, qn_modN, qn_nn, qn_np, qn_pn, qn_nlt, qn_pln, qn_nle, qn_ple, qn_0, qn_1, qn_2, qn_3, qn_4, qn_5, qn_6, qn_7, qn_8, qn_9, qn_10, qn_11, qn_12, qn_13, qn_14, qn_15, qn_16, qn_19, qn_20, qn_21, qn_24, qn_27, qn_29, qn_30, qn_31, qn_32, qn_33, qn_39, qn_40, qn_42, qn_48, qn_50, qn_54, qn_57, qn_59, qn_60, qn_63, qn_72, qn_96, qn_97, qn_99, qn_100, qn_122, qn_128, qn_150, qn_192, qn_199, qn_200, qn_201, qn_236, qn_240, qn_300, qn_998, qn_999, qn_1000, qn_2000, qn_2230, qn_9999, qn_10000, qn_114602, qn_180392, qn_664272, qn_1000000, qn_3379448, qn_10256063, qv_s, qv_n, qo_178_0, qo_178_1, qo_178_2, qo_178_3, qo_178_4, qo_178_5, qo_178_6, qo_178_7, qo_178_8, qo_178_9, qo_178_10, qo_178_11, qo_178_12, qo_178_13, qo_178_14, qp_178_14, qo_178_15, qp_178_15, qo_178_16, qp_178_16, qo_178_17, qo_178_18, qp_178_18, qo_178_19, qp_178_19, qo_178_20, qp_178_20, qo_178_21, qp_178_21, qo_178_22, qp_178_22, qo_178_23, qp_178_23, qo_178_24, qo_178_25, qo_178_26, qo_178_27, qo_178_28, qo_178_29, qo_178_30, qp_178_30, qo_178_31, qo_178_32, qp_178_32, qa_179, qa_180, qa_181, qa_182, qa_183, qa_184, qa_185, qa_186, qa_187, qa_188, qa_189, qa_190, qa_191, qa_192, qa_193, qa_194, qa_195, qa_196, qa_197, qa_198, qa_199, qa_200, qw_179, qw_180, qw_181, qw_182, qw_183, qw_184, qw_185, qw_186, qw_187, qw_188, qw_189, qw_190, qw_191, qw_192, qw_193, qw_194, qw_195, qw_196, qw_197, qw_198, qw_199, qw_200, qc_178, q_getN, q_putN, q_moreN, c_X12_read_1, b_X12_read_1, u_X12_read_1, t19, hk0]
      · right
        rw [if_neg hk0] at hpr
        obtain ⟨e', g', z, fb', bd⟩ := qN_rule (s := s) (n := n) hl hb hp hT hG hRs hk0 v
        refine ⟨e', g', k, z, by omega, qFb_tr hfb fb', ?_⟩
        cases h1 : qrl l p r with
        | inl f =>
          rw [h1] at bd hpr
          unfold qBd at bd
          obtain ⟨b1, A, B, C, b2⟩ := bd
          have := qrl_fl hp hro h1
          exact Or.inr ⟨f, A, B, C, hpr.symm, by omega, b1, b2⟩
        | inr x =>
          rw [h1] at bd hpr
          unfold qBd at bd
          obtain ⟨b1, b2, b3, C, b4⟩ := bd
          have ok := qrl_ok hp hro h1
          have hsc3 := qsc_le x.2
          exact Or.inl ⟨x.1, x.2, n + 1, C, by omega, by omega, by omega, ok.2.1, ok.2.2, b2, b1, b3, b4, hpr⟩
  · left
    have hbd := qN_bad (f := f) (by omega) hG
    rw [hRf]
    refine ⟨(0, .null, [.ref 178, .int (nI s), .int (nI 54), A, B, C], g), ?_, by unfold qRQ; exact ⟨A, B, C, g, rfl, hG, hfb⟩⟩
    by_cases h0 : g 178 19 = nI 0
    · simp -implicitDefEqProofs (disch := omega) [zq_r1, ze_c, ze_li, zq_li1, ze_lr, zq_lr1, zq_lr2, ze_ll, zq_ll1, ze_u, zq_u1, ze_b, zq_b1, zq_b3, ze_fi, ze_fd, ze_fl, ze_fs, ze_gi, ze_gl, ze_gn, ze_gf, zq_gf1, ze_al, zq_al1, zq_al3, ze_aa, zq_aa1, zq_aa3, ze_ev0, ze_ev, zq_ev1, zq_ev3, ze_ca, zq_ca1, ze_xc, zq_xc1, zq_xc3, ze_ck, zq_ck1, ze_rc, zq_rc1, ze_c1, zq_c11, ze_c2, zq_c21, zq_c23, ze_and, zq_andt, zq_andf, ze_or, zq_ort, zq_orf, ze_not, zq_not1, ze_it, zq_itt, zq_itf, zq_itd, ze_skip, ze_brk, ze_cnt, ze_ret0, ze_seq, zq_seq0, zq_seq1, zq_seq2, zq_seq3, ze_si, zq_si1, ze_sr, zq_sr1, ze_inc, zq_inc1, ze_ok0, ze_okS, zq_oki, zq_okr, zq_oka, zq_okf, zq_h1, ze_pf, zq_pf1, zq_pf3, ze_pfo, zq_pfo1, zq_pfo21, zq_pfo31, zq_pfo41, ze_as, zq_as1, zq_as21, zq_as31, ze_aso, zq_aso1, zq_aso21, zq_aso31, zq_aso41, zq_aso51, ze_if, zq_ift, zq_iff, zq_ifd, ze_ret, zq_ret1, ze_pk0, ze_pk1, ze_sw, zq_sw1, ze_cps, zq_cps1, ze_one, zq_o1t, zq_o1f, zq_o20, zq_o22, zq_o21, zq_o23, zq_o30, zq_len1, zq_pad0, zq_padS, ze_sem, ze_fl0, ze_flI, ze_flR, ze_flA, ze_flL, zq_semi, zq_semv, zq_semb0, zq_semb1, List.getElem?_cons_zero, List.getElem?_cons_succ, List.set_cons_zero, List.set_cons_succ, List.length_cons, List.length_nil, List.cons_append, List.nil_append, q_outT, q_outF, q_inT, q_inF, qn_an, qn_ltt, qn_ltf, qn_let, qn_lef, qn_eqt, qn_eqf, qn_sub, nI_add, pk_mul, qn_div, qn_modN, qn_nn, qn_np, qn_pn, qn_nlt, qn_pln, qn_nle, qn_ple, qn_0, qn_1, qn_2, qn_3, qn_4, qn_5, qn_6, qn_7, qn_8, qn_9, qn_10, qn_11, qn_12, qn_13, qn_14, qn_15, qn_16, qn_19, qn_20, qn_21, qn_24, qn_27, qn_29, qn_30, qn_31, qn_32, qn_33, qn_39, qn_40, qn_42, qn_48, qn_50, qn_54, qn_57, qn_59, qn_60, qn_63, qn_72, qn_96, qn_97, qn_99, qn_100, qn_122, qn_128, qn_150, qn_192, qn_199, qn_200, qn_201, qn_236, qn_240, qn_300, qn_998, qn_999, qn_1000, qn_2000, qn_2230, qn_9999, qn_10000, qn_114602, qn_180392, qn_664272, qn_1000000, qn_3379448, qn_10256063, qv_s, qv_n, qo_178_0, qo_178_1, qo_178_2, qo_178_3, qo_178_4, qo_178_5, qo_178_6, qo_178_7, qo_178_8, qo_178_9, qo_178_10, qo_178_11, qo_178_12, qo_178_13, qo_178_14, qp_178_14, qo_178_15, qp_178_15, qo_178_16, qp_178_16, qo_178_17, qo_178_18, qp_178_18, qo_178_19, qp_178_19, qo_178_20, qp_178_20, qo_178_21, qp_178_21, qo_178_22, qp_178_22, qo_178_23, qp_178_23, qo_178_24, qo_178_25, qo_178_26, qo_178_27, qo_178_28, qo_178_29, qo_178_30, qp_178_30, qo_178_31, qo_178_32, qp_178_32, qa_179, qa_180, qa_181, qa_182, qa_183, qa_184, qa_185, qa_186, qa_187, qa_188, qa_189, qa_190, qa_191, qa_192, qa_193, qa_194, qa_195, qa_196, qa_197, qa_198, qa_199, qa_200, qw_179, qw_180, qw_181, qw_182, qw_183, qw_184, qw_185, qw_186, qw_187, qw_188, qw_189, qw_190, qw_191, qw_192, qw_193, qw_194, qw_195, qw_196, qw_197, qw_198, qw_199, qw_200, qc_178, q_getN, q_putN, q_moreN, c_X12_read_1, b_X12_read_1, u_X12_read_1, h0]
    · simp -implicitDefEqProofs (disch := omega) [zq_r1, ze_c, ze_li, zq_li1, ze_lr, zq_lr1, zq_lr2, ze_ll, zq_ll1, ze_u, zq_u1, ze_b, zq_b1, zq_b3, ze_fi, ze_fd, ze_fl, ze_fs, ze_gi, ze_gl, ze_gn, ze_gf, zq_gf1, ze_al, zq_al1, zq_al3, ze_aa, zq_aa1, zq_aa3, ze_ev0, ze_ev, zq_ev1, zq_ev3, ze_ca, zq_ca1, ze_xc, zq_xc1, zq_xc3, ze_ck, zq_ck1, ze_rc, zq_rc1, ze_c1, zq_c11, ze_c2, zq_c21, zq_c23, ze_and, zq_andt, zq_andf, ze_or, zq_ort, zq_orf, ze_not, zq_not1, ze_it, zq_itt, zq_itf, zq_itd, ze_skip, ze_brk, ze_cnt, ze_ret0, ze_seq, zq_seq0, zq_seq1, zq_seq2, zq_seq3, ze_si, zq_si1, ze_sr, zq_sr1, ze_inc, zq_inc1, ze_ok0, ze_okS, zq_oki, zq_okr, zq_oka, zq_okf, zq_h1, ze_pf, zq_pf1, zq_pf3, ze_pfo, zq_pfo1, zq_pfo21, zq_pfo31, zq_pfo41, ze_as, zq_as1, zq_as21, zq_as31, ze_aso, zq_aso1, zq_aso21, zq_aso31, zq_aso41, zq_aso51, ze_if, zq_ift, zq_iff, zq_ifd, ze_ret, zq_ret1, ze_pk0, ze_pk1, ze_sw, zq_sw1, ze_cps, zq_cps1, ze_one, zq_o1t, zq_o1f, zq_o20, zq_o22, zq_o21, zq_o23, zq_o30, zq_len1, zq_pad0, zq_padS, ze_sem, ze_fl0, ze_flI, ze_flR, ze_flA, ze_flL, zq_semi, zq_semv, zq_semb0, zq_semb1, List.getElem?_cons_zero, List.getElem?_cons_succ, List.set_cons_zero, List.set_cons_succ, List.length_cons, List.length_nil, List.cons_append, List.nil_append, q_outT, q_outF, q_inT, q_inF, qn_an, qn_ltt, qn_ltf, qn_let, qn_lef, qn_eqt, qn_eqf, qn_sub, nI_add, pk_mul, qn_div, qn_modN, qn_nn, qn_np, qn_pn, qn_nlt, qn_pln, qn_nle, qn_ple, qn_0, qn_1, qn_2, qn_3, qn_4, qn_5, qn_6, qn_7, qn_8, qn_9, qn_10, qn_11, qn_12, qn_13, qn_14, qn_15, qn_16, qn_19, qn_20, qn_21, qn_24, qn_27, qn_29, qn_30, qn_31, qn_32, qn_33, qn_39, qn_40, qn_42, qn_48, qn_50, qn_54, qn_57, qn_59, qn_60, qn_63, qn_72, qn_96, qn_97, qn_99, qn_100, qn_122, qn_128, qn_150, qn_192, qn_199, qn_200, qn_201, qn_236, qn_240, qn_300, qn_998, qn_999, qn_1000, qn_2000, qn_2230, qn_9999, qn_10000, qn_114602, qn_180392, qn_664272, qn_1000000, qn_3379448, qn_10256063, qv_s, qv_n, qo_178_0, qo_178_1, qo_178_2, qo_178_3, qo_178_4, qo_178_5, qo_178_6, qo_178_7, qo_178_8, qo_178_9, qo_178_10, qo_178_11, qo_178_12, qo_178_13, qo_178_14, qp_178_14, qo_178_15, qp_178_15, qo_178_16, qp_178_16, qo_178_17, qo_178_18, qp_178_18, qo_178_19, qp_178_19, qo_178_20, qp_178_20, qo_178_21, qp_178_21, qo_178_22, qp_178_22, qo_178_23, qp_178_23, qo_178_24, qo_178_25, qo_178_26, qo_178_27, qo_178_28, qo_178_29, qo_178_30, qp_178_30, qo_178_31, qo_178_32, qp_178_32, qa_179, qa_180, qa_181, qa_182, qa_183, qa_184, qa_185, qa_186, qa_187, qa_188, qa_189, qa_190, qa_191, qa_192, qa_193, qa_194, qa_195, qa_196, qa_197, qa_198, qa_199, qa_200, qw_179, qw_180, qw_181, qw_182, qw_183, qw_184, qw_185, qw_186, qw_187, qw_188, qw_189, qw_190, qw_191, qw_192, qw_193, qw_194, qw_195, qw_196, qw_197, qw_198, qw_199, qw_200, qc_178, q_getN, q_putN, q_moreN, c_X12_read_1, b_X12_read_1, u_X12_read_1, h0, hbd]
theorem qR_read {h : zk_H} {W : qW} {l : List Nat} (hf : qWf W) (hh : qR (fun r => h (179 + r)) W) (hl : l.length ≤ 100) (hb : ∀ x, x ∈ l → x ≤ 255) (ht : qTq h l) {s : Nat} (hs : s < W.nS) (hro : ∀ x, qpars l 4 0 (none, none, none, none) 0 = .inr x → qrok x.2) (hfl : ∀ f, qpars l 4 0 (none, none, none, none) 0 = .inl f → f ≤ 100) : ∃ h1, (∀ c, c < 178 ∨ c = 193 ∨ c = 200 → h1 c = h c) ∧ h1 178 30 = h 178 30 ∧ h1 178 18 = nI 0 ∧ (match qpars l 4 0 (none, none, none, none) 0 with
    | .inl f => f_X12_read SHP [.ref 178, .int (nI s)] h = some (.int (- nI (100 + f)), h1) ∧ qR (fun r => h1 (179 + r)) W
    | .inr x => f_X12_read SHP [.ref 178, .int (nI s)] h = some (.int (nI x.1), h1) ∧ qR (fun r => h1 (179 + r)) (qrd W s x.2)) := by
  have hS6 := hf.hS
  have his := qi_Site hf hh hs
  obtain ⟨g0, hg0⟩ : ∃ g0 : zk_H, g0 = zk_up (zk_up (zk_up (zk_up (zk_up (zk_up h 180 56 (nI 0)) 180 57 (nI 100)) 180 58 (nI 0)) 180 59 (nI 100)) 178 23 (- nI 1)) 178 21 (nI 0) := ⟨_, rfl⟩
  have q0 : qTq g0 l := ⟨by rw [hg0]; simp (disch := omega) only [↓qv_n]; exact ht.1, fun i x hx => by rw [hg0]; simp (disch := omega) only [↓qv_n]; exact ht.2 i x hx⟩
  have q1 : g0 178 21 = nI 0 := by rw [hg0]; simp (disch := omega) only [↓qv_n, ↓qv_s]
  have q2 : g0 178 23 = - nI 1 := by rw [hg0]; simp (disch := omega) only [↓qv_n, ↓qv_s]
  obtain ⟨g1, e1, t1, f1⟩ := qR_adv1 hl hb q0 (Nat.zero_le _) q1
  have hg1 : g1 178 23 = - nI 1 := by rw [f1 _ _ (by omega)]; exact q2
  have hrs : qRs g1 (none, none, none, none) := by
    refine ⟨?_, ?_, ?_, ?_⟩ <;> (rw [f1 _ _ (by omega), hg0]; simp (disch := omega) only [↓qv_n, ↓qv_s]; rfl)
  obtain ⟨q, z, hq⟩ := qN_loop (s := s) hl hb t1 hg1 hrs (.float 0)
  have fb0 : qFb h g1 := by
    intro a k h1 h2
    rw [f1 _ _ (by omega), hg0]; simp (disch := omega) only [↓qv_n]
  cases hR : qpars l 4 0 (none, none, none, none) 0 with
  | inl f =>
    rw [hR] at hq
    unfold qRQ at hq
    obtain ⟨A, B, C, g, rfl, k23, fb⟩ := hq
    have fb1 := qFb_tr fb0 fb
    have hf100 := hfl f hR
    refine ⟨zk_up g 178 18 (nI 0), ?_, ?_, qv_s ⟨rfl, rfl⟩, ?_, ?_⟩
    · intro c hc; rw [qup_c (by omega)]; funext j; exact fb1 c j (by omega) (by omega)
    · rw [qv_n (by omega)]; exact fb1 _ _ (by omega) (by omega)
    · have hbd := qN_bad (h := zk_up g 178 18 (nI 0)) (f := f) (by omega) (by rw [qv_n (by omega)]; exact k23)
      simp -implicitDefEqProofs (disch := omega) [zq_r1, ze_c, ze_li, zq_li1, ze_lr, zq_lr1, zq_lr2, ze_ll, zq_ll1, ze_u, zq_u1, ze_b, zq_b1, zq_b3, ze_fi, ze_fd, ze_fl, ze_fs, ze_gi, ze_gl, ze_gn, ze_gf, zq_gf1, ze_al, zq_al1, zq_al3, ze_aa, zq_aa1, zq_aa3, ze_ev0, ze_ev, zq_ev1, zq_ev3, ze_ca, zq_ca1, ze_xc, zq_xc1, zq_xc3, ze_ck, zq_ck1, ze_rc, zq_rc1, ze_c1, zq_c11, ze_c2, zq_c21, zq_c23, ze_and, zq_andt, zq_andf, ze_or, zq_ort, zq_orf, ze_not, zq_not1, ze_it, zq_itt, zq_itf, zq_itd, ze_skip, ze_brk, ze_cnt, ze_ret0, ze_seq, zq_seq0, zq_seq1, zq_seq2, zq_seq3, ze_si, zq_si1, ze_sr, zq_sr1, ze_inc, zq_inc1, ze_ok0, ze_okS, zq_oki, zq_okr, zq_oka, zq_okf, zq_h1, ze_pf, zq_pf1, zq_pf3, ze_pfo, zq_pfo1, zq_pfo21, zq_pfo31, zq_pfo41, ze_as, zq_as1, zq_as21, zq_as31, ze_aso, zq_aso1, zq_aso21, zq_aso31, zq_aso41, zq_aso51, ze_if, zq_ift, zq_iff, zq_ifd, ze_ret, zq_ret1, ze_pk0, ze_pk1, ze_sw, zq_sw1, ze_cps, zq_cps1, ze_one, zq_o1t, zq_o1f, zq_o20, zq_o22, zq_o21, zq_o23, zq_o30, zq_len1, zq_pad0, zq_padS, ze_sem, ze_fl0, ze_flI, ze_flR, ze_flA, ze_flL, zq_semi, zq_semv, zq_semb0, zq_semb1, List.getElem?_cons_zero, List.getElem?_cons_succ, List.set_cons_zero, List.set_cons_succ, List.length_cons, List.length_nil, List.cons_append, List.nil_append, q_outT, q_outF, q_inT, q_inF, qn_an, qn_ltt, qn_ltf, qn_let, qn_lef, qn_eqt, qn_eqf, qn_sub, nI_add, pk_mul, qn_div, qn_modN, qn_nn, qn_np, qn_pn, qn_nlt, qn_pln, qn_nle, qn_ple, qn_0, qn_1, qn_2, qn_3, qn_4, qn_5, qn_6, qn_7, qn_8, qn_9, qn_10, qn_11, qn_12, qn_13, qn_14, qn_15, qn_16, qn_19, qn_20, qn_21, qn_24, qn_27, qn_29, qn_30, qn_31, qn_32, qn_33, qn_39, qn_40, qn_42, qn_48, qn_50, qn_54, qn_57, qn_59, qn_60, qn_63, qn_72, qn_96, qn_97, qn_99, qn_100, qn_122, qn_128, qn_150, qn_192, qn_199, qn_200, qn_201, qn_236, qn_240, qn_300, qn_998, qn_999, qn_1000, qn_2000, qn_2230, qn_9999, qn_10000, qn_114602, qn_180392, qn_664272, qn_1000000, qn_3379448, qn_10256063, qv_s, qv_n, qo_178_0, qo_178_1, qo_178_2, qo_178_3, qo_178_4, qo_178_5, qo_178_6, qo_178_7, qo_178_8, qo_178_9, qo_178_10, qo_178_11, qo_178_12, qo_178_13, qo_178_14, qp_178_14, qo_178_15, qp_178_15, qo_178_16, qp_178_16, qo_178_17, qo_178_18, qp_178_18, qo_178_19, qp_178_19, qo_178_20, qp_178_20, qo_178_21, qp_178_21, qo_178_22, qp_178_22, qo_178_23, qp_178_23, qo_178_24, qo_178_25, qo_178_26, qo_178_27, qo_178_28, qo_178_29, qo_178_30, qp_178_30, qo_178_31, qo_178_32, qp_178_32, qa_179, qa_180, qa_181, qa_182, qa_183, qa_184, qa_185, qa_186, qa_187, qa_188, qa_189, qa_190, qa_191, qa_192, qa_193, qa_194, qa_195, qa_196, qa_197, qa_198, qa_199, qa_200, qw_179, qw_180, qw_181, qw_182, qw_183, qw_184, qw_185, qw_186, qw_187, qw_188, qw_189, qw_190, qw_191, qw_192, qw_193, qw_194, qw_195, qw_196, qw_197, qw_198, qw_199, qw_200, qc_178, q_getN, q_putN, q_moreN, f_X12_read, b_X12_read, his, hg0.symm, e1, z, hbd, k23, qn_nsub]
    · refine qR_low hh hS6 ?_
      intro a i ha; rw [qv_n (by omega)]; exact fb1 a i (by omega) (by omega)
  | inr x =>
    rw [hR] at hq
    unfold qRQ at hq
    obtain ⟨A, C, g, rfl, k23, rs, fb⟩ := hq
    have fb1 := qFb_tr fb0 fb
    have hx := hro x hR
    have l2 := q_for (c := c_X12_read_2 SHP) (b := b_X12_read_2 SHP) (u := u_X12_read_2 SHP) (P := fun i e G => e = [.ref 178, .int (nI s), .int (nI 54), A, .int (nI x.1), .int (nI (2 + i))] ∧ (∀ a k, (a ≠ 180 ∨ k < 9 * s + 2 ∨ 9 * s + 2 + i ≤ k) → G a k = zk_up g 178 18 (nI 0) a k) ∧ ∀ j, j < i → G 180 (9 * s + 2 + j) = g 180 (56 + j)) 4 (by
        rintro i e G hi ⟨rfl, fr, cp⟩
        have kr : G 180 (54 + (2 + i)) = g 180 (56 + i) := by rw [fr _ _ (by omega), qv_n (by omega)]; exact qhe (by omega)
        refine ⟨[.ref 178, .int (nI s), .int (nI 54), A, .int (nI x.1), .int (nI (2 + (i + 1)))], zk_up G 180 (9 * s + (2 + i)) (g 180 (56 + i)), ?_, rfl, ?_, ?_⟩
        · simp -implicitDefEqProofs (disch := omega) [zq_r1, ze_c, ze_li, zq_li1, ze_lr, zq_lr1, zq_lr2, ze_ll, zq_ll1, ze_u, zq_u1, ze_b, zq_b1, zq_b3, ze_fi, ze_fd, ze_fl, ze_fs, ze_gi, ze_gl, ze_gn, ze_gf, zq_gf1, ze_al, zq_al1, zq_al3, ze_aa, zq_aa1, zq_aa3, ze_ev0, ze_ev, zq_ev1, zq_ev3, ze_ca, zq_ca1, ze_xc, zq_xc1, zq_xc3, ze_ck, zq_ck1, ze_rc, zq_rc1, ze_c1, zq_c11, ze_c2, zq_c21, zq_c23, ze_and, zq_andt, zq_andf, ze_or, zq_ort, zq_orf, ze_not, zq_not1, ze_it, zq_itt, zq_itf, zq_itd, ze_skip, ze_brk, ze_cnt, ze_ret0, ze_seq, zq_seq0, zq_seq1, zq_seq2, zq_seq3, ze_si, zq_si1, ze_sr, zq_sr1, ze_inc, zq_inc1, ze_ok0, ze_okS, zq_oki, zq_okr, zq_oka, zq_okf, zq_h1, ze_pf, zq_pf1, zq_pf3, ze_pfo, zq_pfo1, zq_pfo21, zq_pfo31, zq_pfo41, ze_as, zq_as1, zq_as21, zq_as31, ze_aso, zq_aso1, zq_aso21, zq_aso31, zq_aso41, zq_aso51, ze_if, zq_ift, zq_iff, zq_ifd, ze_ret, zq_ret1, ze_pk0, ze_pk1, ze_sw, zq_sw1, ze_cps, zq_cps1, ze_one, zq_o1t, zq_o1f, zq_o20, zq_o22, zq_o21, zq_o23, zq_o30, zq_len1, zq_pad0, zq_padS, ze_sem, ze_fl0, ze_flI, ze_flR, ze_flA, ze_flL, zq_semi, zq_semv, zq_semb0, zq_semb1, List.getElem?_cons_zero, List.getElem?_cons_succ, List.set_cons_zero, List.set_cons_succ, List.length_cons, List.length_nil, List.cons_append, List.nil_append, q_outT, q_outF, q_inT, q_inF, qn_an, qn_ltt, qn_ltf, qn_let, qn_lef, qn_eqt, qn_eqf, qn_sub, nI_add, pk_mul, qn_div, qn_modN, qn_nn, qn_np, qn_pn, qn_nlt, qn_pln, qn_nle, qn_ple, qn_0, qn_1, qn_2, qn_3, qn_4, qn_5, qn_6, qn_7, qn_8, qn_9, qn_10, qn_11, qn_12, qn_13, qn_14, qn_15, qn_16, qn_19, qn_20, qn_21, qn_24, qn_27, qn_29, qn_30, qn_31, qn_32, qn_33, qn_39, qn_40, qn_42, qn_48, qn_50, qn_54, qn_57, qn_59, qn_60, qn_63, qn_72, qn_96, qn_97, qn_99, qn_100, qn_122, qn_128, qn_150, qn_192, qn_199, qn_200, qn_201, qn_236, qn_240, qn_300, qn_998, qn_999, qn_1000, qn_2000, qn_2230, qn_9999, qn_10000, qn_114602, qn_180392, qn_664272, qn_1000000, qn_3379448, qn_10256063, qv_s, qv_n, qo_178_0, qo_178_1, qo_178_2, qo_178_3, qo_178_4, qo_178_5, qo_178_6, qo_178_7, qo_178_8, qo_178_9, qo_178_10, qo_178_11, qo_178_12, qo_178_13, qo_178_14, qp_178_14, qo_178_15, qp_178_15, qo_178_16, qp_178_16, qo_178_17, qo_178_18, qp_178_18, qo_178_19, qp_178_19, qo_178_20, qp_178_20, qo_178_21, qp_178_21, qo_178_22, qp_178_22, qo_178_23, qp_178_23, qo_178_24, qo_178_25, qo_178_26, qo_178_27, qo_178_28, qo_178_29, qo_178_30, qp_178_30, qo_178_31, qo_178_32, qp_178_32, qa_179, qa_180, qa_181, qa_182, qa_183, qa_184, qa_185, qa_186, qa_187, qa_188, qa_189, qa_190, qa_191, qa_192, qa_193, qa_194, qa_195, qa_196, qa_197, qa_198, qa_199, qa_200, qw_179, qw_180, qw_181, qw_182, qw_183, qw_184, qw_185, qw_186, qw_187, qw_188, qw_189, qw_190, qw_191, qw_192, qw_193, qw_194, qw_195, qw_196, qw_197, qw_198, qw_199, qw_200, qc_178, q_getN, q_putN, q_moreN, c_X12_read_2, b_X12_read_2, u_X12_read_2, kr, Nat.add_assoc]
        · intro a k hak; rw [qv_n (by omega)]; exact fr a k (by omega)
        · intro j hj
          by_cases hji : j = i
          · subst hji; exact qv_s ⟨rfl, by omega⟩
          · rw [qv_n (by omega)]; exact cp j (by omega)) (by
        rintro e G ⟨rfl, fr, cp⟩
        simp -implicitDefEqProofs (disch := omega) [zq_r1, ze_c, ze_li, zq_li1, ze_lr, zq_lr1, zq_lr2, ze_ll, zq_ll1, ze_u, zq_u1, ze_b, zq_b1, zq_b3, ze_fi, ze_fd, ze_fl, ze_fs, ze_gi, ze_gl, ze_gn, ze_gf, zq_gf1, ze_al, zq_al1, zq_al3, ze_aa, zq_aa1, zq_aa3, ze_ev0, ze_ev, zq_ev1, zq_ev3, ze_ca, zq_ca1, ze_xc, zq_xc1, zq_xc3, ze_ck, zq_ck1, ze_rc, zq_rc1, ze_c1, zq_c11, ze_c2, zq_c21, zq_c23, ze_and, zq_andt, zq_andf, ze_or, zq_ort, zq_orf, ze_not, zq_not1, ze_it, zq_itt, zq_itf, zq_itd, ze_skip, ze_brk, ze_cnt, ze_ret0, ze_seq, zq_seq0, zq_seq1, zq_seq2, zq_seq3, ze_si, zq_si1, ze_sr, zq_sr1, ze_inc, zq_inc1, ze_ok0, ze_okS, zq_oki, zq_okr, zq_oka, zq_okf, zq_h1, ze_pf, zq_pf1, zq_pf3, ze_pfo, zq_pfo1, zq_pfo21, zq_pfo31, zq_pfo41, ze_as, zq_as1, zq_as21, zq_as31, ze_aso, zq_aso1, zq_aso21, zq_aso31, zq_aso41, zq_aso51, ze_if, zq_ift, zq_iff, zq_ifd, ze_ret, zq_ret1, ze_pk0, ze_pk1, ze_sw, zq_sw1, ze_cps, zq_cps1, ze_one, zq_o1t, zq_o1f, zq_o20, zq_o22, zq_o21, zq_o23, zq_o30, zq_len1, zq_pad0, zq_padS, ze_sem, ze_fl0, ze_flI, ze_flR, ze_flA, ze_flL, zq_semi, zq_semv, zq_semb0, zq_semb1, List.getElem?_cons_zero, List.getElem?_cons_succ, List.set_cons_zero, List.set_cons_succ, List.length_cons, List.length_nil, List.cons_append, List.nil_append, q_outT, q_outF, q_inT, q_inF, qn_an, qn_ltt, qn_ltf, qn_let, qn_lef, qn_eqt, qn_eqf, qn_sub, nI_add, pk_mul, qn_div, qn_modN, qn_nn, qn_np, qn_pn, qn_nlt, qn_pln, qn_nle, qn_ple, qn_0, qn_1, qn_2, qn_3, qn_4, qn_5, qn_6, qn_7, qn_8, qn_9, qn_10, qn_11, qn_12, qn_13, qn_14, qn_15, qn_16, qn_19, qn_20, qn_21, qn_24, qn_27, qn_29, qn_30, qn_31, qn_32, qn_33, qn_39, qn_40, qn_42, qn_48, qn_50, qn_54, qn_57, qn_59, qn_60, qn_63, qn_72, qn_96, qn_97, qn_99, qn_100, qn_122, qn_128, qn_150, qn_192, qn_199, qn_200, qn_201, qn_236, qn_240, qn_300, qn_998, qn_999, qn_1000, qn_2000, qn_2230, qn_9999, qn_10000, qn_114602, qn_180392, qn_664272, qn_1000000, qn_3379448, qn_10256063, qv_s, qv_n, qo_178_0, qo_178_1, qo_178_2, qo_178_3, qo_178_4, qo_178_5, qo_178_6, qo_178_7, qo_178_8, qo_178_9, qo_178_10, qo_178_11, qo_178_12, qo_178_13, qo_178_14, qp_178_14, qo_178_15, qp_178_15, qo_178_16, qp_178_16, qo_178_17, qo_178_18, qp_178_18, qo_178_19, qp_178_19, qo_178_20, qp_178_20, qo_178_21, qp_178_21, qo_178_22, qp_178_22, qo_178_23, qp_178_23, qo_178_24, qo_178_25, qo_178_26, qo_178_27, qo_178_28, qo_178_29, qo_178_30, qp_178_30, qo_178_31, qo_178_32, qp_178_32, qa_179, qa_180, qa_181, qa_182, qa_183, qa_184, qa_185, qa_186, qa_187, qa_188, qa_189, qa_190, qa_191, qa_192, qa_193, qa_194, qa_195, qa_196, qa_197, qa_198, qa_199, qa_200, qw_179, qw_180, qw_181, qw_182, qw_183, qw_184, qw_185, qw_186, qw_187, qw_188, qw_189, qw_190, qw_191, qw_192, qw_193, qw_194, qw_195, qw_196, qw_197, qw_198, qw_199, qw_200, qc_178, q_getN, q_putN, q_moreN, c_X12_read_2, b_X12_read_2, u_X12_read_2]) (f := 1000) (e := [.ref 178, .int (nI s), .int (nI 54), A, .int (nI x.1), .int (nI 2)]) (h := zk_up g 178 18 (nI 0)) (by omega) ⟨rfl, fun _ _ _ => rfl, fun j hj => by omega⟩
    obtain ⟨e2, G, z2, rfl, fr, cp⟩ := l2
    refine ⟨G, ?_, ?_, ?_, ?_, ?_⟩
    · intro c hc; funext j; rw [fr _ _ (by omega), qv_n (by omega)]; exact fb1 c j (by omega) (by omega)
    · rw [fr _ _ (by omega), qv_n (by omega)]; exact fb1 _ _ (by omega) (by omega)
    · rw [fr _ _ (by omega)]; exact qv_s ⟨rfl, rfl⟩
    · have hgd := qN_good (h := zk_up g 178 18 (nI 0)) (by rw [qv_n (by omega)]; exact k23)
      simp -implicitDefEqProofs (disch := omega) [zq_r1, ze_c, ze_li, zq_li1, ze_lr, zq_lr1, zq_lr2, ze_ll, zq_ll1, ze_u, zq_u1, ze_b, zq_b1, zq_b3, ze_fi, ze_fd, ze_fl, ze_fs, ze_gi, ze_gl, ze_gn, ze_gf, zq_gf1, ze_al, zq_al1, zq_al3, ze_aa, zq_aa1, zq_aa3, ze_ev0, ze_ev, zq_ev1, zq_ev3, ze_ca, zq_ca1, ze_xc, zq_xc1, zq_xc3, ze_ck, zq_ck1, ze_rc, zq_rc1, ze_c1, zq_c11, ze_c2, zq_c21, zq_c23, ze_and, zq_andt, zq_andf, ze_or, zq_ort, zq_orf, ze_not, zq_not1, ze_it, zq_itt, zq_itf, zq_itd, ze_skip, ze_brk, ze_cnt, ze_ret0, ze_seq, zq_seq0, zq_seq1, zq_seq2, zq_seq3, ze_si, zq_si1, ze_sr, zq_sr1, ze_inc, zq_inc1, ze_ok0, ze_okS, zq_oki, zq_okr, zq_oka, zq_okf, zq_h1, ze_pf, zq_pf1, zq_pf3, ze_pfo, zq_pfo1, zq_pfo21, zq_pfo31, zq_pfo41, ze_as, zq_as1, zq_as21, zq_as31, ze_aso, zq_aso1, zq_aso21, zq_aso31, zq_aso41, zq_aso51, ze_if, zq_ift, zq_iff, zq_ifd, ze_ret, zq_ret1, ze_pk0, ze_pk1, ze_sw, zq_sw1, ze_cps, zq_cps1, ze_one, zq_o1t, zq_o1f, zq_o20, zq_o22, zq_o21, zq_o23, zq_o30, zq_len1, zq_pad0, zq_padS, ze_sem, ze_fl0, ze_flI, ze_flR, ze_flA, ze_flL, zq_semi, zq_semv, zq_semb0, zq_semb1, List.getElem?_cons_zero, List.getElem?_cons_succ, List.set_cons_zero, List.set_cons_succ, List.length_cons, List.length_nil, List.cons_append, List.nil_append, q_outT, q_outF, q_inT, q_inF, qn_an, qn_ltt, qn_ltf, qn_let, qn_lef, qn_eqt, qn_eqf, qn_sub, nI_add, pk_mul, qn_div, qn_modN, qn_nn, qn_np, qn_pn, qn_nlt, qn_pln, qn_nle, qn_ple, qn_0, qn_1, qn_2, qn_3, qn_4, qn_5, qn_6, qn_7, qn_8, qn_9, qn_10, qn_11, qn_12, qn_13, qn_14, qn_15, qn_16, qn_19, qn_20, qn_21, qn_24, qn_27, qn_29, qn_30, qn_31, qn_32, qn_33, qn_39, qn_40, qn_42, qn_48, qn_50, qn_54, qn_57, qn_59, qn_60, qn_63, qn_72, qn_96, qn_97, qn_99, qn_100, qn_122, qn_128, qn_150, qn_192, qn_199, qn_200, qn_201, qn_236, qn_240, qn_300, qn_998, qn_999, qn_1000, qn_2000, qn_2230, qn_9999, qn_10000, qn_114602, qn_180392, qn_664272, qn_1000000, qn_3379448, qn_10256063, qv_s, qv_n, qo_178_0, qo_178_1, qo_178_2, qo_178_3, qo_178_4, qo_178_5, qo_178_6, qo_178_7, qo_178_8, qo_178_9, qo_178_10, qo_178_11, qo_178_12, qo_178_13, qo_178_14, qp_178_14, qo_178_15, qp_178_15, qo_178_16, qp_178_16, qo_178_17, qo_178_18, qp_178_18, qo_178_19, qp_178_19, qo_178_20, qp_178_20, qo_178_21, qp_178_21, qo_178_22, qp_178_22, qo_178_23, qp_178_23, qo_178_24, qo_178_25, qo_178_26, qo_178_27, qo_178_28, qo_178_29, qo_178_30, qp_178_30, qo_178_31, qo_178_32, qp_178_32, qa_179, qa_180, qa_181, qa_182, qa_183, qa_184, qa_185, qa_186, qa_187, qa_188, qa_189, qa_190, qa_191, qa_192, qa_193, qa_194, qa_195, qa_196, qa_197, qa_198, qa_199, qa_200, qw_179, qw_180, qw_181, qw_182, qw_183, qw_184, qw_185, qw_186, qw_187, qw_188, qw_189, qw_190, qw_191, qw_192, qw_193, qw_194, qw_195, qw_196, qw_197, qw_198, qw_199, qw_200, qc_178, q_getN, q_putN, q_moreN, f_X12_read, b_X12_read, his, hg0.symm, e1, z, hgd, z2]
    · refine qR_rules hh hS6 ?_ ?_ ?_ ?_ ?_
      · intro a i ha
        rw [fr _ _ (by omega), qv_n (by omega)]; exact fb1 a i (by omega) (by omega)
      · exact (cp 0 (by omega)).trans rs.1
      · exact (cp 1 (by omega)).trans rs.2.1
      · exact (cp 2 (by omega)).trans rs.2.2.1
      · exact (cp 3 (by omega)).trans rs.2.2.2
theorem q_read (a : Int32) : zl_ok2 qInv (f_X11_read SHP) (f_X12_read SHP) [.int a] := by
  apply q_ok2; intro S hS
  have hS6 := hS.w.hS
  rcases qx_site a hS.w with ⟨s, hs, rfl⟩ | ⟨na, nb⟩
  · obtain ⟨R, hR⟩ : ∃ R, R = qpars S.t 4 0 (none, none, none, none) 0 := ⟨_, rfl⟩
    have hcl := fun h (hh : qCI h S) => qB_parse (h := h) hS.tn hS.t ⟨hh.tn, hh.t⟩
    have hgood : (∀ x, R = .inr x → qrok x.2 ∧ x.1 ≤ 3) ∧ ∀ f, R = .inl f → f ≤ 100 := by
      obtain ⟨h0, hh0⟩ : ∃ h0 : zk_H, qTp h0 S.t := ⟨fun a i => if a = 129 then nI S.t.length else nI (S.t.getD i 0), by
        refine ⟨if_pos rfl, fun i x hx => ?_⟩
        show (if _ then _ else _) = _
        rw [if_neg (by omega)]
        simp [List.getD, hx]⟩
      obtain ⟨h1, _, hz⟩ := qB_parse hS.tn hS.t hh0
      rw [← hR] at hz
      have htn := hS.tn
      constructor
      · intro x hx; rw [hx] at hz; exact ⟨hz.2.2.1, hz.2.1⟩
      · intro f hx; rw [hx] at hz; have := hz.2; omega
    have hrf := fun h (hh : qRI h S) => qR_read (h := h) hS.w hh.w hS.tn hS.t ⟨hh.tn, hh.t⟩ hs (fun x hx => (hgood.1 x (hR.trans hx)).1) (fun f hx => hgood.2 f (hR.trans hx))
    cases hc : R with
    | inl f =>
      have hf100 := hgood.2 f hc
      refine ⟨- nI (100 + f), qS.mk S.w [] S.k, qSf.mk hS.w (Nat.zero_le _) (by intro x hx; cases hx) hS.k, ?_, ?_⟩
      · intro h hh
        obtain ⟨h1, ft, hz⟩ := hcl h hh
        rw [← hR, hc] at hz
        have e1 := hz.1
        refine ⟨zk_up h1 129 1 (nI 0), ?_, qCI.mk ?_ ?_ ?_ ?_ ?_, ?_⟩
        · simp -implicitDefEqProofs (disch := omega) [zq_r1, ze_c, ze_li, zq_li1, ze_lr, zq_lr1, zq_lr2, ze_ll, zq_ll1, ze_u, zq_u1, ze_b, zq_b1, zq_b3, ze_fi, ze_fd, ze_fl, ze_fs, ze_gi, ze_gl, ze_gn, ze_gf, zq_gf1, ze_al, zq_al1, zq_al3, ze_aa, zq_aa1, zq_aa3, ze_ev0, ze_ev, zq_ev1, zq_ev3, ze_ca, zq_ca1, ze_xc, zq_xc1, zq_xc3, ze_ck, zq_ck1, ze_rc, zq_rc1, ze_c1, zq_c11, ze_c2, zq_c21, zq_c23, ze_and, zq_andt, zq_andf, ze_or, zq_ort, zq_orf, ze_not, zq_not1, ze_it, zq_itt, zq_itf, zq_itd, ze_skip, ze_brk, ze_cnt, ze_ret0, ze_seq, zq_seq0, zq_seq1, zq_seq2, zq_seq3, ze_si, zq_si1, ze_sr, zq_sr1, ze_inc, zq_inc1, ze_ok0, ze_okS, zq_oki, zq_okr, zq_oka, zq_okf, zq_h1, ze_pf, zq_pf1, zq_pf3, ze_pfo, zq_pfo1, zq_pfo21, zq_pfo31, zq_pfo41, ze_as, zq_as1, zq_as21, zq_as31, ze_aso, zq_aso1, zq_aso21, zq_aso31, zq_aso41, zq_aso51, ze_if, zq_ift, zq_iff, zq_ifd, ze_ret, zq_ret1, ze_pk0, ze_pk1, ze_sw, zq_sw1, ze_cps, zq_cps1, ze_one, zq_o1t, zq_o1f, zq_o20, zq_o22, zq_o21, zq_o23, zq_o30, zq_len1, zq_pad0, zq_padS, ze_sem, ze_fl0, ze_flI, ze_flR, ze_flA, ze_flL, zq_semi, zq_semv, zq_semb0, zq_semb1, List.getElem?_cons_zero, List.getElem?_cons_succ, List.set_cons_zero, List.set_cons_succ, List.length_cons, List.length_nil, List.cons_append, List.nil_append, q_outT, q_outF, q_inT, q_inF, qn_an, qn_ltt, qn_ltf, qn_let, qn_lef, qn_eqt, qn_eqf, qn_sub, nI_add, pk_mul, qn_div, qn_modN, qn_nn, qn_np, qn_pn, qn_nlt, qn_pln, qn_nle, qn_ple, qn_0, qn_1, qn_2, qn_3, qn_4, qn_5, qn_6, qn_7, qn_8, qn_9, qn_10, qn_11, qn_12, qn_13, qn_14, qn_15, qn_16, qn_19, qn_20, qn_21, qn_24, qn_27, qn_29, qn_30, qn_31, qn_32, qn_33, qn_39, qn_40, qn_42, qn_48, qn_50, qn_54, qn_57, qn_59, qn_60, qn_63, qn_72, qn_96, qn_97, qn_99, qn_100, qn_122, qn_128, qn_150, qn_192, qn_199, qn_200, qn_201, qn_236, qn_240, qn_300, qn_998, qn_999, qn_1000, qn_2000, qn_2230, qn_9999, qn_10000, qn_114602, qn_180392, qn_664272, qn_1000000, qn_3379448, qn_10256063, qv_s, qv_n, qo_0_0, qo_0_1, qo_0_2, qo_0_3, qo_0_4, qo_0_5, qo_0_6, qo_0_7, qp_0_7, qo_1_0, qo_1_1, qo_1_2, qo_1_3, qo_1_4, qo_1_5, qo_1_6, qo_1_7, qp_1_7, qo_1_8, qp_1_8, qo_1_9, qp_1_9, qo_1_10, qp_1_10, qo_1_11, qp_1_11, qo_1_12, qp_1_12, qo_1_13, qp_1_13, qo_6_0, qo_6_1, qo_6_2, qo_6_3, qo_6_4, qp_6_4, qo_6_5, qp_6_5, qo_11_0, qo_11_1, qo_11_2, qo_11_3, qp_11_3, qo_15_0, qo_15_1, qo_15_2, qo_15_3, qp_15_3, qo_129_0, qo_129_1, qp_129_1, qo_129_2, qp_129_2, qo_129_3, qp_129_3, qo_129_4, qp_129_4, qo_129_5, qp_129_5, qo_129_6, qp_129_6, qo_129_7, qp_129_7, qo_129_8, qp_129_8, qo_131_0, qo_131_1, qo_131_2, qo_131_3, qo_131_4, qo_131_5, qo_131_6, qp_131_6, qo_131_7, qo_131_8, qp_131_8, qo_131_9, qp_131_9, qo_131_10, qp_131_10, qo_152_0, qo_152_1, qo_155_0, qo_155_1, qo_155_2, qo_159_0, qo_159_1, qo_159_2, qo_159_3, qp_159_3, qo_159_4, qp_159_4, qf_site_0, qf_sitew_0, qf_site_1, qf_sitew_1, qf_site_2, qf_sitew_2, qf_site_3, qf_sitew_3, qf_site_4, qf_sitew_4, qf_site_5, qf_sitew_5, qf_site_6, qf_sitew_6, qf_site_7, qf_sitew_7, qf_site_8, qf_sitew_8, qf_site_9, qf_sitew_9, qf_site_10, qf_site_11, qf_plug_0, qf_plugw_0, qf_plug_1, qf_plugw_1, qf_plug_2, qf_plugw_2, qf_plug_3, qf_plugw_3, qf_plug_4, qf_plugw_4, qf_plug_5, qf_plugw_5, qf_car_0, qf_carw_0, qf_car_1, qf_carw_1, qf_car_2, qf_carw_2, qf_car_3, qf_carw_3, qf_car_4, qf_carw_4, qf_car_5, qf_carw_5, qf_car_6, qf_carw_6, qf_car_7, qf_carw_7, qf_car_8, qf_carw_8, qf_car_9, qf_carw_9, qf_car_10, qf_carw_10, qf_car_11, qf_carw_11, qf_car_12, qf_carw_12, qf_car_13, qf_carw_13, qf_car_14, qf_carw_14, qa_5, qa_7, qa_8, qa_9, qa_10, qa_12, qa_13, qa_14, qa_16, qa_17, qa_18, qa_130, qa_132, qa_133, qa_134, qa_135, qa_151, qa_153, qa_154, qa_156, qa_157, qa_158, qa_177, qa_queue, qa_splug, qa_arr, qa_chg, qa_best, qa_sco, qw_5, qw_7, qw_8, qw_9, qw_10, qw_12, qw_13, qw_14, qw_16, qw_17, qw_18, qw_130, qw_132, qw_133, qw_134, qw_135, qw_151, qw_153, qw_154, qw_156, qw_157, qw_158, qw_177, qw_queue, qw_splug, qw_arr, qw_chg, qw_best, qw_sco, qr_site, qr_plug, qr_car, qr_arr, qr_chg, qr_best, qr_sco, qs_site, qs_plug, qs_car, qc_0, qc_1, qc_6, qc_11, qc_15, qc_129, qc_131, qc_152, qc_155, qc_159, f_X11_read, b_X11_read, qh_Site hS.w hh.w hs, e1]
        · exact qC_of hh.w (fun c h2 h3 => by rw [qup_c (by omega)]; funext j; exact ft c j (by omega))
        · exact qv_s ⟨rfl, rfl⟩
        · intro i x hx; simp [qS_t] at hx
        · rw [qv_n (by omega), ft _ _ (by omega)]; exact hh.kb
        · intro K hK; exact qC_of (hh.k K hK) (fun c h2 h3 => by show zk_up h1 129 1 (nI 0) (c + 64) = _; rw [qup_c (by omega)]; funext j; exact ft (c + 64) j (by omega))
        · intro c hc; rw [qup_c (by omega)]; funext j; exact ft c j (by omega)
      · intro h hh
        obtain ⟨h1, fr, k30, k18, hz⟩ := hrf h hh
        rw [← hR, hc] at hz
        refine ⟨h1, hz.1, qRI.mk hz.2 k18 ?_ ?_ ?_, fun c hc => fr c (Or.inl hc)⟩
        · intro i x hx; simp [qS_t] at hx
        · rw [k30]; exact hh.kb
        · intro K hK; rw [fr 200 (by omega)]; exact hh.k K hK
    | inr x =>
      have hg := hgood.1 x hc
      have hx3 := hg.2
      refine ⟨nI x.1, qS.mk (qrd S.w s x.2) [] S.k, qSf.mk (qWf_rd hS.w hs hg.1) (Nat.zero_le _) (by intro y hy; cases hy) hS.k, ?_, ?_⟩
      · intro h hh
        obtain ⟨h1, ft, hz⟩ := hcl h hh
        rw [← hR, hc] at hz
        obtain ⟨e1, _, ro, u5, u6, u7, u8⟩ := hz
        have hw1 : qC h1 S.w := qC_of hh.w (fun c h2 h3 => by funext j; exact ft c j (by omega))
        have hw2 := qCu_after (qCu_idle (qCu_cap (qCu_first hw1 s (by omega) (x.2.1.getD 0)) s (by omega) (x.2.2.1.getD 100)) s (by omega) (x.2.2.2.1.getD 0)) s (by omega) (x.2.2.2.2.getD 100)
        refine ⟨zk_up (zk_up (zk_up (zk_up (zk_up h1 (19 + 3 * s) 4 (nI (x.2.1.getD 0))) (19 + 3 * s) 5 (nI (x.2.2.1.getD 100))) (19 + 3 * s) 6 (nI (x.2.2.2.1.getD 0))) (19 + 3 * s) 7 (nI (x.2.2.2.2.getD 100))) 129 1 (nI 0), ?_, qCI.mk ?_ ?_ ?_ ?_ ?_, ?_⟩
        · have hgive : f_X8_giveRulesTo SHP [.ref 129, .ref (19 + 3 * s)] h1 = some (.null, zk_up (zk_up (zk_up (zk_up h1 (19 + 3 * s) 4 (nI (x.2.1.getD 0))) (19 + 3 * s) 5 (nI (x.2.2.1.getD 100))) (19 + 3 * s) 6 (nI (x.2.2.2.1.getD 0))) (19 + 3 * s) 7 (nI (x.2.2.2.2.getD 100))) := by
            obtain ⟨n, a, b, c, d⟩ := x
            obtain ⟨r1, r2, r3, r4⟩ := ro
            have a1 : ∀ v, a = some v → v ≤ 1 := r1
            have b1 : ∀ v, b = some v → v ≤ 100 := r2
            have c1 : ∀ v, c = some v → v ≤ 100 := r3
            have d1 : ∀ v, d = some v → v ≤ 100 := r4
            have u5 : h1 129 5 = qoc a := u5
            have u6 : h1 129 6 = qoc b := u6
            have u7 : h1 129 7 = qoc c := u7
            have u8 : h1 129 8 = qoc d := u8
            have hsh : ∀ g : zk_H, g 129 5 = qoc a → (if g 129 5 = nI 1 then nI 1 else nI 0) = nI (a.getD 0) := by
              intro g hg
              rw [hg]
              cases a with
              | none =>
                rw [if_neg (by simp only [qoc]; rw [show (-1 : Int32) = - nI 1 from rfl, qn_np (by omega) (by omega) (by omega)]; exact id)]; rfl
              | some v =>
                rcases Nat.le_one_iff_eq_zero_or_eq_one.1 (a1 v rfl) with rfl | rfl <;> rfl
            have hb1 : a.getD 0 ≤ 1 := by
              cases a with
              | none => simp
              | some v => exact a1 v rfl
            have ha : a = none ∨ a = some 0 ∨ a = some 1 := by
              cases a with
              | none => left; rfl
              | some v => rcases Nat.le_one_iff_eq_zero_or_eq_one.1 (a1 v rfl) with rfl | rfl <;> simp
            cases b with
            | none =>
              cases c with
              | none =>
                cases d with
                | none => rcases ha with rfl | rfl | rfl <;> simp -implicitDefEqProofs (disch := omega) [zq_r1, ze_c, ze_li, zq_li1, ze_lr, zq_lr1, zq_lr2, ze_ll, zq_ll1, ze_u, zq_u1, ze_b, zq_b1, zq_b3, ze_fi, ze_fd, ze_fl, ze_fs, ze_gi, ze_gl, ze_gn, ze_gf, zq_gf1, ze_al, zq_al1, zq_al3, ze_aa, zq_aa1, zq_aa3, ze_ev0, ze_ev, zq_ev1, zq_ev3, ze_ca, zq_ca1, ze_xc, zq_xc1, zq_xc3, ze_ck, zq_ck1, ze_rc, zq_rc1, ze_c1, zq_c11, ze_c2, zq_c21, zq_c23, ze_and, zq_andt, zq_andf, ze_or, zq_ort, zq_orf, ze_not, zq_not1, ze_it, zq_itt, zq_itf, zq_itd, ze_skip, ze_brk, ze_cnt, ze_ret0, ze_seq, zq_seq0, zq_seq1, zq_seq2, zq_seq3, ze_si, zq_si1, ze_sr, zq_sr1, ze_inc, zq_inc1, ze_ok0, ze_okS, zq_oki, zq_okr, zq_oka, zq_okf, zq_h1, ze_pf, zq_pf1, zq_pf3, ze_pfo, zq_pfo1, zq_pfo21, zq_pfo31, zq_pfo41, ze_as, zq_as1, zq_as21, zq_as31, ze_aso, zq_aso1, zq_aso21, zq_aso31, zq_aso41, zq_aso51, ze_if, zq_ift, zq_iff, zq_ifd, ze_ret, zq_ret1, ze_pk0, ze_pk1, ze_sw, zq_sw1, ze_cps, zq_cps1, ze_one, zq_o1t, zq_o1f, zq_o20, zq_o22, zq_o21, zq_o23, zq_o30, zq_len1, zq_pad0, zq_padS, ze_sem, ze_fl0, ze_flI, ze_flR, ze_flA, ze_flL, zq_semi, zq_semv, zq_semb0, zq_semb1, List.getElem?_cons_zero, List.getElem?_cons_succ, List.set_cons_zero, List.set_cons_succ, List.length_cons, List.length_nil, List.cons_append, List.nil_append, q_outT, q_outF, q_inT, q_inF, qn_an, qn_ltt, qn_ltf, qn_let, qn_lef, qn_eqt, qn_eqf, qn_sub, nI_add, pk_mul, qn_div, qn_modN, qn_nn, qn_np, qn_pn, qn_nlt, qn_pln, qn_nle, qn_ple, qn_0, qn_1, qn_2, qn_3, qn_4, qn_5, qn_6, qn_7, qn_8, qn_9, qn_10, qn_11, qn_12, qn_13, qn_14, qn_15, qn_16, qn_19, qn_20, qn_21, qn_24, qn_27, qn_29, qn_30, qn_31, qn_32, qn_33, qn_39, qn_40, qn_42, qn_48, qn_50, qn_54, qn_57, qn_59, qn_60, qn_63, qn_72, qn_96, qn_97, qn_99, qn_100, qn_122, qn_128, qn_150, qn_192, qn_199, qn_200, qn_201, qn_236, qn_240, qn_300, qn_998, qn_999, qn_1000, qn_2000, qn_2230, qn_9999, qn_10000, qn_114602, qn_180392, qn_664272, qn_1000000, qn_3379448, qn_10256063, qv_s, qv_n, qo_0_0, qo_0_1, qo_0_2, qo_0_3, qo_0_4, qo_0_5, qo_0_6, qo_0_7, qp_0_7, qo_1_0, qo_1_1, qo_1_2, qo_1_3, qo_1_4, qo_1_5, qo_1_6, qo_1_7, qp_1_7, qo_1_8, qp_1_8, qo_1_9, qp_1_9, qo_1_10, qp_1_10, qo_1_11, qp_1_11, qo_1_12, qp_1_12, qo_1_13, qp_1_13, qo_6_0, qo_6_1, qo_6_2, qo_6_3, qo_6_4, qp_6_4, qo_6_5, qp_6_5, qo_11_0, qo_11_1, qo_11_2, qo_11_3, qp_11_3, qo_15_0, qo_15_1, qo_15_2, qo_15_3, qp_15_3, qo_129_0, qo_129_1, qp_129_1, qo_129_2, qp_129_2, qo_129_3, qp_129_3, qo_129_4, qp_129_4, qo_129_5, qp_129_5, qo_129_6, qp_129_6, qo_129_7, qp_129_7, qo_129_8, qp_129_8, qo_131_0, qo_131_1, qo_131_2, qo_131_3, qo_131_4, qo_131_5, qo_131_6, qp_131_6, qo_131_7, qo_131_8, qp_131_8, qo_131_9, qp_131_9, qo_131_10, qp_131_10, qo_152_0, qo_152_1, qo_155_0, qo_155_1, qo_155_2, qo_159_0, qo_159_1, qo_159_2, qo_159_3, qp_159_3, qo_159_4, qp_159_4, qf_site_0, qf_sitew_0, qf_site_1, qf_sitew_1, qf_site_2, qf_sitew_2, qf_site_3, qf_sitew_3, qf_site_4, qf_sitew_4, qf_site_5, qf_sitew_5, qf_site_6, qf_sitew_6, qf_site_7, qf_sitew_7, qf_site_8, qf_sitew_8, qf_site_9, qf_sitew_9, qf_site_10, qf_site_11, qf_plug_0, qf_plugw_0, qf_plug_1, qf_plugw_1, qf_plug_2, qf_plugw_2, qf_plug_3, qf_plugw_3, qf_plug_4, qf_plugw_4, qf_plug_5, qf_plugw_5, qf_car_0, qf_carw_0, qf_car_1, qf_carw_1, qf_car_2, qf_carw_2, qf_car_3, qf_carw_3, qf_car_4, qf_carw_4, qf_car_5, qf_carw_5, qf_car_6, qf_carw_6, qf_car_7, qf_carw_7, qf_car_8, qf_carw_8, qf_car_9, qf_carw_9, qf_car_10, qf_carw_10, qf_car_11, qf_carw_11, qf_car_12, qf_carw_12, qf_car_13, qf_carw_13, qf_car_14, qf_carw_14, qa_5, qa_7, qa_8, qa_9, qa_10, qa_12, qa_13, qa_14, qa_16, qa_17, qa_18, qa_130, qa_132, qa_133, qa_134, qa_135, qa_151, qa_153, qa_154, qa_156, qa_157, qa_158, qa_177, qa_queue, qa_splug, qa_arr, qa_chg, qa_best, qa_sco, qw_5, qw_7, qw_8, qw_9, qw_10, qw_12, qw_13, qw_14, qw_16, qw_17, qw_18, qw_130, qw_132, qw_133, qw_134, qw_135, qw_151, qw_153, qw_154, qw_156, qw_157, qw_158, qw_177, qw_queue, qw_splug, qw_arr, qw_chg, qw_best, qw_sco, qr_site, qr_plug, qr_car, qr_arr, qr_chg, qr_best, qr_sco, qs_site, qs_plug, qs_car, qc_0, qc_1, qc_6, qc_11, qc_15, qc_129, qc_131, qc_152, qc_155, qc_159, f_X8_giveRulesTo, b_X8_giveRulesTo, u5, u6, u7, u8, qoc, q_wrB]
                | some v4 =>
                  have v4l := d1 v4 rfl
                  rcases ha with rfl | rfl | rfl <;> simp -implicitDefEqProofs (disch := omega) [zq_r1, ze_c, ze_li, zq_li1, ze_lr, zq_lr1, zq_lr2, ze_ll, zq_ll1, ze_u, zq_u1, ze_b, zq_b1, zq_b3, ze_fi, ze_fd, ze_fl, ze_fs, ze_gi, ze_gl, ze_gn, ze_gf, zq_gf1, ze_al, zq_al1, zq_al3, ze_aa, zq_aa1, zq_aa3, ze_ev0, ze_ev, zq_ev1, zq_ev3, ze_ca, zq_ca1, ze_xc, zq_xc1, zq_xc3, ze_ck, zq_ck1, ze_rc, zq_rc1, ze_c1, zq_c11, ze_c2, zq_c21, zq_c23, ze_and, zq_andt, zq_andf, ze_or, zq_ort, zq_orf, ze_not, zq_not1, ze_it, zq_itt, zq_itf, zq_itd, ze_skip, ze_brk, ze_cnt, ze_ret0, ze_seq, zq_seq0, zq_seq1, zq_seq2, zq_seq3, ze_si, zq_si1, ze_sr, zq_sr1, ze_inc, zq_inc1, ze_ok0, ze_okS, zq_oki, zq_okr, zq_oka, zq_okf, zq_h1, ze_pf, zq_pf1, zq_pf3, ze_pfo, zq_pfo1, zq_pfo21, zq_pfo31, zq_pfo41, ze_as, zq_as1, zq_as21, zq_as31, ze_aso, zq_aso1, zq_aso21, zq_aso31, zq_aso41, zq_aso51, ze_if, zq_ift, zq_iff, zq_ifd, ze_ret, zq_ret1, ze_pk0, ze_pk1, ze_sw, zq_sw1, ze_cps, zq_cps1, ze_one, zq_o1t, zq_o1f, zq_o20, zq_o22, zq_o21, zq_o23, zq_o30, zq_len1, zq_pad0, zq_padS, ze_sem, ze_fl0, ze_flI, ze_flR, ze_flA, ze_flL, zq_semi, zq_semv, zq_semb0, zq_semb1, List.getElem?_cons_zero, List.getElem?_cons_succ, List.set_cons_zero, List.set_cons_succ, List.length_cons, List.length_nil, List.cons_append, List.nil_append, q_outT, q_outF, q_inT, q_inF, qn_an, qn_ltt, qn_ltf, qn_let, qn_lef, qn_eqt, qn_eqf, qn_sub, nI_add, pk_mul, qn_div, qn_modN, qn_nn, qn_np, qn_pn, qn_nlt, qn_pln, qn_nle, qn_ple, qn_0, qn_1, qn_2, qn_3, qn_4, qn_5, qn_6, qn_7, qn_8, qn_9, qn_10, qn_11, qn_12, qn_13, qn_14, qn_15, qn_16, qn_19, qn_20, qn_21, qn_24, qn_27, qn_29, qn_30, qn_31, qn_32, qn_33, qn_39, qn_40, qn_42, qn_48, qn_50, qn_54, qn_57, qn_59, qn_60, qn_63, qn_72, qn_96, qn_97, qn_99, qn_100, qn_122, qn_128, qn_150, qn_192, qn_199, qn_200, qn_201, qn_236, qn_240, qn_300, qn_998, qn_999, qn_1000, qn_2000, qn_2230, qn_9999, qn_10000, qn_114602, qn_180392, qn_664272, qn_1000000, qn_3379448, qn_10256063, qv_s, qv_n, qo_0_0, qo_0_1, qo_0_2, qo_0_3, qo_0_4, qo_0_5, qo_0_6, qo_0_7, qp_0_7, qo_1_0, qo_1_1, qo_1_2, qo_1_3, qo_1_4, qo_1_5, qo_1_6, qo_1_7, qp_1_7, qo_1_8, qp_1_8, qo_1_9, qp_1_9, qo_1_10, qp_1_10, qo_1_11, qp_1_11, qo_1_12, qp_1_12, qo_1_13, qp_1_13, qo_6_0, qo_6_1, qo_6_2, qo_6_3, qo_6_4, qp_6_4, qo_6_5, qp_6_5, qo_11_0, qo_11_1, qo_11_2, qo_11_3, qp_11_3, qo_15_0, qo_15_1, qo_15_2, qo_15_3, qp_15_3, qo_129_0, qo_129_1, qp_129_1, qo_129_2, qp_129_2, qo_129_3, qp_129_3, qo_129_4, qp_129_4, qo_129_5, qp_129_5, qo_129_6, qp_129_6, qo_129_7, qp_129_7, qo_129_8, qp_129_8, qo_131_0, qo_131_1, qo_131_2, qo_131_3, qo_131_4, qo_131_5, qo_131_6, qp_131_6, qo_131_7, qo_131_8, qp_131_8, qo_131_9, qp_131_9, qo_131_10, qp_131_10, qo_152_0, qo_152_1, qo_155_0, qo_155_1, qo_155_2, qo_159_0, qo_159_1, qo_159_2, qo_159_3, qp_159_3, qo_159_4, qp_159_4, qf_site_0, qf_sitew_0, qf_site_1, qf_sitew_1, qf_site_2, qf_sitew_2, qf_site_3, qf_sitew_3, qf_site_4, qf_sitew_4, qf_site_5, qf_sitew_5, qf_site_6, qf_sitew_6, qf_site_7, qf_sitew_7, qf_site_8, qf_sitew_8, qf_site_9, qf_sitew_9, qf_site_10, qf_site_11, qf_plug_0, qf_plugw_0, qf_plug_1, qf_plugw_1, qf_plug_2, qf_plugw_2, qf_plug_3, qf_plugw_3, qf_plug_4, qf_plugw_4, qf_plug_5, qf_plugw_5, qf_car_0, qf_carw_0, qf_car_1, qf_carw_1, qf_car_2, qf_carw_2, qf_car_3, qf_carw_3, qf_car_4, qf_carw_4, qf_car_5, qf_carw_5, qf_car_6, qf_carw_6, qf_car_7, qf_carw_7, qf_car_8, qf_carw_8, qf_car_9, qf_carw_9, qf_car_10, qf_carw_10, qf_car_11, qf_carw_11, qf_car_12, qf_carw_12, qf_car_13, qf_carw_13, qf_car_14, qf_carw_14, qa_5, qa_7, qa_8, qa_9, qa_10, qa_12, qa_13, qa_14, qa_16, qa_17, qa_18, qa_130, qa_132, qa_133, qa_134, qa_135, qa_151, qa_153, qa_154, qa_156, qa_157, qa_158, qa_177, qa_queue, qa_splug, qa_arr, qa_chg, qa_best, qa_sco, qw_5, qw_7, qw_8, qw_9, qw_10, qw_12, qw_13, qw_14, qw_16, qw_17, qw_18, qw_130, qw_132, qw_133, qw_134, qw_135, qw_151, qw_153, qw_154, qw_156, qw_157, qw_158, qw_177, qw_queue, qw_splug, qw_arr, qw_chg, qw_best, qw_sco, qr_site, qr_plug, qr_car, qr_arr, qr_chg, qr_best, qr_sco, qs_site, qs_plug, qs_car, qc_0, qc_1, qc_6, qc_11, qc_15, qc_129, qc_131, qc_152, qc_155, qc_159, f_X8_giveRulesTo, b_X8_giveRulesTo, u5, u6, u7, u8, qoc, q_wrB]
              | some v3 =>
                have v3l := c1 v3 rfl
                cases d with
                | none => rcases ha with rfl | rfl | rfl <;> simp -implicitDefEqProofs (disch := omega) [zq_r1, ze_c, ze_li, zq_li1, ze_lr, zq_lr1, zq_lr2, ze_ll, zq_ll1, ze_u, zq_u1, ze_b, zq_b1, zq_b3, ze_fi, ze_fd, ze_fl, ze_fs, ze_gi, ze_gl, ze_gn, ze_gf, zq_gf1, ze_al, zq_al1, zq_al3, ze_aa, zq_aa1, zq_aa3, ze_ev0, ze_ev, zq_ev1, zq_ev3, ze_ca, zq_ca1, ze_xc, zq_xc1, zq_xc3, ze_ck, zq_ck1, ze_rc, zq_rc1, ze_c1, zq_c11, ze_c2, zq_c21, zq_c23, ze_and, zq_andt, zq_andf, ze_or, zq_ort, zq_orf, ze_not, zq_not1, ze_it, zq_itt, zq_itf, zq_itd, ze_skip, ze_brk, ze_cnt, ze_ret0, ze_seq, zq_seq0, zq_seq1, zq_seq2, zq_seq3, ze_si, zq_si1, ze_sr, zq_sr1, ze_inc, zq_inc1, ze_ok0, ze_okS, zq_oki, zq_okr, zq_oka, zq_okf, zq_h1, ze_pf, zq_pf1, zq_pf3, ze_pfo, zq_pfo1, zq_pfo21, zq_pfo31, zq_pfo41, ze_as, zq_as1, zq_as21, zq_as31, ze_aso, zq_aso1, zq_aso21, zq_aso31, zq_aso41, zq_aso51, ze_if, zq_ift, zq_iff, zq_ifd, ze_ret, zq_ret1, ze_pk0, ze_pk1, ze_sw, zq_sw1, ze_cps, zq_cps1, ze_one, zq_o1t, zq_o1f, zq_o20, zq_o22, zq_o21, zq_o23, zq_o30, zq_len1, zq_pad0, zq_padS, ze_sem, ze_fl0, ze_flI, ze_flR, ze_flA, ze_flL, zq_semi, zq_semv, zq_semb0, zq_semb1, List.getElem?_cons_zero, List.getElem?_cons_succ, List.set_cons_zero, List.set_cons_succ, List.length_cons, List.length_nil, List.cons_append, List.nil_append, q_outT, q_outF, q_inT, q_inF, qn_an, qn_ltt, qn_ltf, qn_let, qn_lef, qn_eqt, qn_eqf, qn_sub, nI_add, pk_mul, qn_div, qn_modN, qn_nn, qn_np, qn_pn, qn_nlt, qn_pln, qn_nle, qn_ple, qn_0, qn_1, qn_2, qn_3, qn_4, qn_5, qn_6, qn_7, qn_8, qn_9, qn_10, qn_11, qn_12, qn_13, qn_14, qn_15, qn_16, qn_19, qn_20, qn_21, qn_24, qn_27, qn_29, qn_30, qn_31, qn_32, qn_33, qn_39, qn_40, qn_42, qn_48, qn_50, qn_54, qn_57, qn_59, qn_60, qn_63, qn_72, qn_96, qn_97, qn_99, qn_100, qn_122, qn_128, qn_150, qn_192, qn_199, qn_200, qn_201, qn_236, qn_240, qn_300, qn_998, qn_999, qn_1000, qn_2000, qn_2230, qn_9999, qn_10000, qn_114602, qn_180392, qn_664272, qn_1000000, qn_3379448, qn_10256063, qv_s, qv_n, qo_0_0, qo_0_1, qo_0_2, qo_0_3, qo_0_4, qo_0_5, qo_0_6, qo_0_7, qp_0_7, qo_1_0, qo_1_1, qo_1_2, qo_1_3, qo_1_4, qo_1_5, qo_1_6, qo_1_7, qp_1_7, qo_1_8, qp_1_8, qo_1_9, qp_1_9, qo_1_10, qp_1_10, qo_1_11, qp_1_11, qo_1_12, qp_1_12, qo_1_13, qp_1_13, qo_6_0, qo_6_1, qo_6_2, qo_6_3, qo_6_4, qp_6_4, qo_6_5, qp_6_5, qo_11_0, qo_11_1, qo_11_2, qo_11_3, qp_11_3, qo_15_0, qo_15_1, qo_15_2, qo_15_3, qp_15_3, qo_129_0, qo_129_1, qp_129_1, qo_129_2, qp_129_2, qo_129_3, qp_129_3, qo_129_4, qp_129_4, qo_129_5, qp_129_5, qo_129_6, qp_129_6, qo_129_7, qp_129_7, qo_129_8, qp_129_8, qo_131_0, qo_131_1, qo_131_2, qo_131_3, qo_131_4, qo_131_5, qo_131_6, qp_131_6, qo_131_7, qo_131_8, qp_131_8, qo_131_9, qp_131_9, qo_131_10, qp_131_10, qo_152_0, qo_152_1, qo_155_0, qo_155_1, qo_155_2, qo_159_0, qo_159_1, qo_159_2, qo_159_3, qp_159_3, qo_159_4, qp_159_4, qf_site_0, qf_sitew_0, qf_site_1, qf_sitew_1, qf_site_2, qf_sitew_2, qf_site_3, qf_sitew_3, qf_site_4, qf_sitew_4, qf_site_5, qf_sitew_5, qf_site_6, qf_sitew_6, qf_site_7, qf_sitew_7, qf_site_8, qf_sitew_8, qf_site_9, qf_sitew_9, qf_site_10, qf_site_11, qf_plug_0, qf_plugw_0, qf_plug_1, qf_plugw_1, qf_plug_2, qf_plugw_2, qf_plug_3, qf_plugw_3, qf_plug_4, qf_plugw_4, qf_plug_5, qf_plugw_5, qf_car_0, qf_carw_0, qf_car_1, qf_carw_1, qf_car_2, qf_carw_2, qf_car_3, qf_carw_3, qf_car_4, qf_carw_4, qf_car_5, qf_carw_5, qf_car_6, qf_carw_6, qf_car_7, qf_carw_7, qf_car_8, qf_carw_8, qf_car_9, qf_carw_9, qf_car_10, qf_carw_10, qf_car_11, qf_carw_11, qf_car_12, qf_carw_12, qf_car_13, qf_carw_13, qf_car_14, qf_carw_14, qa_5, qa_7, qa_8, qa_9, qa_10, qa_12, qa_13, qa_14, qa_16, qa_17, qa_18, qa_130, qa_132, qa_133, qa_134, qa_135, qa_151, qa_153, qa_154, qa_156, qa_157, qa_158, qa_177, qa_queue, qa_splug, qa_arr, qa_chg, qa_best, qa_sco, qw_5, qw_7, qw_8, qw_9, qw_10, qw_12, qw_13, qw_14, qw_16, qw_17, qw_18, qw_130, qw_132, qw_133, qw_134, qw_135, qw_151, qw_153, qw_154, qw_156, qw_157, qw_158, qw_177, qw_queue, qw_splug, qw_arr, qw_chg, qw_best, qw_sco, qr_site, qr_plug, qr_car, qr_arr, qr_chg, qr_best, qr_sco, qs_site, qs_plug, qs_car, qc_0, qc_1, qc_6, qc_11, qc_15, qc_129, qc_131, qc_152, qc_155, qc_159, f_X8_giveRulesTo, b_X8_giveRulesTo, u5, u6, u7, u8, qoc, q_wrB]
                | some v4 =>
                  have v4l := d1 v4 rfl
                  rcases ha with rfl | rfl | rfl <;> simp -implicitDefEqProofs (disch := omega) [zq_r1, ze_c, ze_li, zq_li1, ze_lr, zq_lr1, zq_lr2, ze_ll, zq_ll1, ze_u, zq_u1, ze_b, zq_b1, zq_b3, ze_fi, ze_fd, ze_fl, ze_fs, ze_gi, ze_gl, ze_gn, ze_gf, zq_gf1, ze_al, zq_al1, zq_al3, ze_aa, zq_aa1, zq_aa3, ze_ev0, ze_ev, zq_ev1, zq_ev3, ze_ca, zq_ca1, ze_xc, zq_xc1, zq_xc3, ze_ck, zq_ck1, ze_rc, zq_rc1, ze_c1, zq_c11, ze_c2, zq_c21, zq_c23, ze_and, zq_andt, zq_andf, ze_or, zq_ort, zq_orf, ze_not, zq_not1, ze_it, zq_itt, zq_itf, zq_itd, ze_skip, ze_brk, ze_cnt, ze_ret0, ze_seq, zq_seq0, zq_seq1, zq_seq2, zq_seq3, ze_si, zq_si1, ze_sr, zq_sr1, ze_inc, zq_inc1, ze_ok0, ze_okS, zq_oki, zq_okr, zq_oka, zq_okf, zq_h1, ze_pf, zq_pf1, zq_pf3, ze_pfo, zq_pfo1, zq_pfo21, zq_pfo31, zq_pfo41, ze_as, zq_as1, zq_as21, zq_as31, ze_aso, zq_aso1, zq_aso21, zq_aso31, zq_aso41, zq_aso51, ze_if, zq_ift, zq_iff, zq_ifd, ze_ret, zq_ret1, ze_pk0, ze_pk1, ze_sw, zq_sw1, ze_cps, zq_cps1, ze_one, zq_o1t, zq_o1f, zq_o20, zq_o22, zq_o21, zq_o23, zq_o30, zq_len1, zq_pad0, zq_padS, ze_sem, ze_fl0, ze_flI, ze_flR, ze_flA, ze_flL, zq_semi, zq_semv, zq_semb0, zq_semb1, List.getElem?_cons_zero, List.getElem?_cons_succ, List.set_cons_zero, List.set_cons_succ, List.length_cons, List.length_nil, List.cons_append, List.nil_append, q_outT, q_outF, q_inT, q_inF, qn_an, qn_ltt, qn_ltf, qn_let, qn_lef, qn_eqt, qn_eqf, qn_sub, nI_add, pk_mul, qn_div, qn_modN, qn_nn, qn_np, qn_pn, qn_nlt, qn_pln, qn_nle, qn_ple, qn_0, qn_1, qn_2, qn_3, qn_4, qn_5, qn_6, qn_7, qn_8, qn_9, qn_10, qn_11, qn_12, qn_13, qn_14, qn_15, qn_16, qn_19, qn_20, qn_21, qn_24, qn_27, qn_29, qn_30, qn_31, qn_32, qn_33, qn_39, qn_40, qn_42, qn_48, qn_50, qn_54, qn_57, qn_59, qn_60, qn_63, qn_72, qn_96, qn_97, qn_99, qn_100, qn_122, qn_128, qn_150, qn_192, qn_199, qn_200, qn_201, qn_236, qn_240, qn_300, qn_998, qn_999, qn_1000, qn_2000, qn_2230, qn_9999, qn_10000, qn_114602, qn_180392, qn_664272, qn_1000000, qn_3379448, qn_10256063, qv_s, qv_n, qo_0_0, qo_0_1, qo_0_2, qo_0_3, qo_0_4, qo_0_5, qo_0_6, qo_0_7, qp_0_7, qo_1_0, qo_1_1, qo_1_2, qo_1_3, qo_1_4, qo_1_5, qo_1_6, qo_1_7, qp_1_7, qo_1_8, qp_1_8, qo_1_9, qp_1_9, qo_1_10, qp_1_10, qo_1_11, qp_1_11, qo_1_12, qp_1_12, qo_1_13, qp_1_13, qo_6_0, qo_6_1, qo_6_2, qo_6_3, qo_6_4, qp_6_4, qo_6_5, qp_6_5, qo_11_0, qo_11_1, qo_11_2, qo_11_3, qp_11_3, qo_15_0, qo_15_1, qo_15_2, qo_15_3, qp_15_3, qo_129_0, qo_129_1, qp_129_1, qo_129_2, qp_129_2, qo_129_3, qp_129_3, qo_129_4, qp_129_4, qo_129_5, qp_129_5, qo_129_6, qp_129_6, qo_129_7, qp_129_7, qo_129_8, qp_129_8, qo_131_0, qo_131_1, qo_131_2, qo_131_3, qo_131_4, qo_131_5, qo_131_6, qp_131_6, qo_131_7, qo_131_8, qp_131_8, qo_131_9, qp_131_9, qo_131_10, qp_131_10, qo_152_0, qo_152_1, qo_155_0, qo_155_1, qo_155_2, qo_159_0, qo_159_1, qo_159_2, qo_159_3, qp_159_3, qo_159_4, qp_159_4, qf_site_0, qf_sitew_0, qf_site_1, qf_sitew_1, qf_site_2, qf_sitew_2, qf_site_3, qf_sitew_3, qf_site_4, qf_sitew_4, qf_site_5, qf_sitew_5, qf_site_6, qf_sitew_6, qf_site_7, qf_sitew_7, qf_site_8, qf_sitew_8, qf_site_9, qf_sitew_9, qf_site_10, qf_site_11, qf_plug_0, qf_plugw_0, qf_plug_1, qf_plugw_1, qf_plug_2, qf_plugw_2, qf_plug_3, qf_plugw_3, qf_plug_4, qf_plugw_4, qf_plug_5, qf_plugw_5, qf_car_0, qf_carw_0, qf_car_1, qf_carw_1, qf_car_2, qf_carw_2, qf_car_3, qf_carw_3, qf_car_4, qf_carw_4, qf_car_5, qf_carw_5, qf_car_6, qf_carw_6, qf_car_7, qf_carw_7, qf_car_8, qf_carw_8, qf_car_9, qf_carw_9, qf_car_10, qf_carw_10, qf_car_11, qf_carw_11, qf_car_12, qf_carw_12, qf_car_13, qf_carw_13, qf_car_14, qf_carw_14, qa_5, qa_7, qa_8, qa_9, qa_10, qa_12, qa_13, qa_14, qa_16, qa_17, qa_18, qa_130, qa_132, qa_133, qa_134, qa_135, qa_151, qa_153, qa_154, qa_156, qa_157, qa_158, qa_177, qa_queue, qa_splug, qa_arr, qa_chg, qa_best, qa_sco, qw_5, qw_7, qw_8, qw_9, qw_10, qw_12, qw_13, qw_14, qw_16, qw_17, qw_18, qw_130, qw_132, qw_133, qw_134, qw_135, qw_151, qw_153, qw_154, qw_156, qw_157, qw_158, qw_177, qw_queue, qw_splug, qw_arr, qw_chg, qw_best, qw_sco, qr_site, qr_plug, qr_car, qr_arr, qr_chg, qr_best, qr_sco, qs_site, qs_plug, qs_car, qc_0, qc_1, qc_6, qc_11, qc_15, qc_129, qc_131, qc_152, qc_155, qc_159, f_X8_giveRulesTo, b_X8_giveRulesTo, u5, u6, u7, u8, qoc, q_wrB]
            | some v2 =>
              have v2l := b1 v2 rfl
              cases c with
              | none =>
                cases d with
                | none => rcases ha with rfl | rfl | rfl <;> simp -implicitDefEqProofs (disch := omega) [zq_r1, ze_c, ze_li, zq_li1, ze_lr, zq_lr1, zq_lr2, ze_ll, zq_ll1, ze_u, zq_u1, ze_b, zq_b1, zq_b3, ze_fi, ze_fd, ze_fl, ze_fs, ze_gi, ze_gl, ze_gn, ze_gf, zq_gf1, ze_al, zq_al1, zq_al3, ze_aa, zq_aa1, zq_aa3, ze_ev0, ze_ev, zq_ev1, zq_ev3, ze_ca, zq_ca1, ze_xc, zq_xc1, zq_xc3, ze_ck, zq_ck1, ze_rc, zq_rc1, ze_c1, zq_c11, ze_c2, zq_c21, zq_c23, ze_and, zq_andt, zq_andf, ze_or, zq_ort, zq_orf, ze_not, zq_not1, ze_it, zq_itt, zq_itf, zq_itd, ze_skip, ze_brk, ze_cnt, ze_ret0, ze_seq, zq_seq0, zq_seq1, zq_seq2, zq_seq3, ze_si, zq_si1, ze_sr, zq_sr1, ze_inc, zq_inc1, ze_ok0, ze_okS, zq_oki, zq_okr, zq_oka, zq_okf, zq_h1, ze_pf, zq_pf1, zq_pf3, ze_pfo, zq_pfo1, zq_pfo21, zq_pfo31, zq_pfo41, ze_as, zq_as1, zq_as21, zq_as31, ze_aso, zq_aso1, zq_aso21, zq_aso31, zq_aso41, zq_aso51, ze_if, zq_ift, zq_iff, zq_ifd, ze_ret, zq_ret1, ze_pk0, ze_pk1, ze_sw, zq_sw1, ze_cps, zq_cps1, ze_one, zq_o1t, zq_o1f, zq_o20, zq_o22, zq_o21, zq_o23, zq_o30, zq_len1, zq_pad0, zq_padS, ze_sem, ze_fl0, ze_flI, ze_flR, ze_flA, ze_flL, zq_semi, zq_semv, zq_semb0, zq_semb1, List.getElem?_cons_zero, List.getElem?_cons_succ, List.set_cons_zero, List.set_cons_succ, List.length_cons, List.length_nil, List.cons_append, List.nil_append, q_outT, q_outF, q_inT, q_inF, qn_an, qn_ltt, qn_ltf, qn_let, qn_lef, qn_eqt, qn_eqf, qn_sub, nI_add, pk_mul, qn_div, qn_modN, qn_nn, qn_np, qn_pn, qn_nlt, qn_pln, qn_nle, qn_ple, qn_0, qn_1, qn_2, qn_3, qn_4, qn_5, qn_6, qn_7, qn_8, qn_9, qn_10, qn_11, qn_12, qn_13, qn_14, qn_15, qn_16, qn_19, qn_20, qn_21, qn_24, qn_27, qn_29, qn_30, qn_31, qn_32, qn_33, qn_39, qn_40, qn_42, qn_48, qn_50, qn_54, qn_57, qn_59, qn_60, qn_63, qn_72, qn_96, qn_97, qn_99, qn_100, qn_122, qn_128, qn_150, qn_192, qn_199, qn_200, qn_201, qn_236, qn_240, qn_300, qn_998, qn_999, qn_1000, qn_2000, qn_2230, qn_9999, qn_10000, qn_114602, qn_180392, qn_664272, qn_1000000, qn_3379448, qn_10256063, qv_s, qv_n, qo_0_0, qo_0_1, qo_0_2, qo_0_3, qo_0_4, qo_0_5, qo_0_6, qo_0_7, qp_0_7, qo_1_0, qo_1_1, qo_1_2, qo_1_3, qo_1_4, qo_1_5, qo_1_6, qo_1_7, qp_1_7, qo_1_8, qp_1_8, qo_1_9, qp_1_9, qo_1_10, qp_1_10, qo_1_11, qp_1_11, qo_1_12, qp_1_12, qo_1_13, qp_1_13, qo_6_0, qo_6_1, qo_6_2, qo_6_3, qo_6_4, qp_6_4, qo_6_5, qp_6_5, qo_11_0, qo_11_1, qo_11_2, qo_11_3, qp_11_3, qo_15_0, qo_15_1, qo_15_2, qo_15_3, qp_15_3, qo_129_0, qo_129_1, qp_129_1, qo_129_2, qp_129_2, qo_129_3, qp_129_3, qo_129_4, qp_129_4, qo_129_5, qp_129_5, qo_129_6, qp_129_6, qo_129_7, qp_129_7, qo_129_8, qp_129_8, qo_131_0, qo_131_1, qo_131_2, qo_131_3, qo_131_4, qo_131_5, qo_131_6, qp_131_6, qo_131_7, qo_131_8, qp_131_8, qo_131_9, qp_131_9, qo_131_10, qp_131_10, qo_152_0, qo_152_1, qo_155_0, qo_155_1, qo_155_2, qo_159_0, qo_159_1, qo_159_2, qo_159_3, qp_159_3, qo_159_4, qp_159_4, qf_site_0, qf_sitew_0, qf_site_1, qf_sitew_1, qf_site_2, qf_sitew_2, qf_site_3, qf_sitew_3, qf_site_4, qf_sitew_4, qf_site_5, qf_sitew_5, qf_site_6, qf_sitew_6, qf_site_7, qf_sitew_7, qf_site_8, qf_sitew_8, qf_site_9, qf_sitew_9, qf_site_10, qf_site_11, qf_plug_0, qf_plugw_0, qf_plug_1, qf_plugw_1, qf_plug_2, qf_plugw_2, qf_plug_3, qf_plugw_3, qf_plug_4, qf_plugw_4, qf_plug_5, qf_plugw_5, qf_car_0, qf_carw_0, qf_car_1, qf_carw_1, qf_car_2, qf_carw_2, qf_car_3, qf_carw_3, qf_car_4, qf_carw_4, qf_car_5, qf_carw_5, qf_car_6, qf_carw_6, qf_car_7, qf_carw_7, qf_car_8, qf_carw_8, qf_car_9, qf_carw_9, qf_car_10, qf_carw_10, qf_car_11, qf_carw_11, qf_car_12, qf_carw_12, qf_car_13, qf_carw_13, qf_car_14, qf_carw_14, qa_5, qa_7, qa_8, qa_9, qa_10, qa_12, qa_13, qa_14, qa_16, qa_17, qa_18, qa_130, qa_132, qa_133, qa_134, qa_135, qa_151, qa_153, qa_154, qa_156, qa_157, qa_158, qa_177, qa_queue, qa_splug, qa_arr, qa_chg, qa_best, qa_sco, qw_5, qw_7, qw_8, qw_9, qw_10, qw_12, qw_13, qw_14, qw_16, qw_17, qw_18, qw_130, qw_132, qw_133, qw_134, qw_135, qw_151, qw_153, qw_154, qw_156, qw_157, qw_158, qw_177, qw_queue, qw_splug, qw_arr, qw_chg, qw_best, qw_sco, qr_site, qr_plug, qr_car, qr_arr, qr_chg, qr_best, qr_sco, qs_site, qs_plug, qs_car, qc_0, qc_1, qc_6, qc_11, qc_15, qc_129, qc_131, qc_152, qc_155, qc_159, f_X8_giveRulesTo, b_X8_giveRulesTo, u5, u6, u7, u8, qoc, q_wrB]
                | some v4 =>
                  have v4l := d1 v4 rfl
                  rcases ha with rfl | rfl | rfl <;> simp -implicitDefEqProofs (disch := omega) [zq_r1, ze_c, ze_li, zq_li1, ze_lr, zq_lr1, zq_lr2, ze_ll, zq_ll1, ze_u, zq_u1, ze_b, zq_b1, zq_b3, ze_fi, ze_fd, ze_fl, ze_fs, ze_gi, ze_gl, ze_gn, ze_gf, zq_gf1, ze_al, zq_al1, zq_al3, ze_aa, zq_aa1, zq_aa3, ze_ev0, ze_ev, zq_ev1, zq_ev3, ze_ca, zq_ca1, ze_xc, zq_xc1, zq_xc3, ze_ck, zq_ck1, ze_rc, zq_rc1, ze_c1, zq_c11, ze_c2, zq_c21, zq_c23, ze_and, zq_andt, zq_andf, ze_or, zq_ort, zq_orf, ze_not, zq_not1, ze_it, zq_itt, zq_itf, zq_itd, ze_skip, ze_brk, ze_cnt, ze_ret0, ze_seq, zq_seq0, zq_seq1, zq_seq2, zq_seq3, ze_si, zq_si1, ze_sr, zq_sr1, ze_inc, zq_inc1, ze_ok0, ze_okS, zq_oki, zq_okr, zq_oka, zq_okf, zq_h1, ze_pf, zq_pf1, zq_pf3, ze_pfo, zq_pfo1, zq_pfo21, zq_pfo31, zq_pfo41, ze_as, zq_as1, zq_as21, zq_as31, ze_aso, zq_aso1, zq_aso21, zq_aso31, zq_aso41, zq_aso51, ze_if, zq_ift, zq_iff, zq_ifd, ze_ret, zq_ret1, ze_pk0, ze_pk1, ze_sw, zq_sw1, ze_cps, zq_cps1, ze_one, zq_o1t, zq_o1f, zq_o20, zq_o22, zq_o21, zq_o23, zq_o30, zq_len1, zq_pad0, zq_padS, ze_sem, ze_fl0, ze_flI, ze_flR, ze_flA, ze_flL, zq_semi, zq_semv, zq_semb0, zq_semb1, List.getElem?_cons_zero, List.getElem?_cons_succ, List.set_cons_zero, List.set_cons_succ, List.length_cons, List.length_nil, List.cons_append, List.nil_append, q_outT, q_outF, q_inT, q_inF, qn_an, qn_ltt, qn_ltf, qn_let, qn_lef, qn_eqt, qn_eqf, qn_sub, nI_add, pk_mul, qn_div, qn_modN, qn_nn, qn_np, qn_pn, qn_nlt, qn_pln, qn_nle, qn_ple, qn_0, qn_1, qn_2, qn_3, qn_4, qn_5, qn_6, qn_7, qn_8, qn_9, qn_10, qn_11, qn_12, qn_13, qn_14, qn_15, qn_16, qn_19, qn_20, qn_21, qn_24, qn_27, qn_29, qn_30, qn_31, qn_32, qn_33, qn_39, qn_40, qn_42, qn_48, qn_50, qn_54, qn_57, qn_59, qn_60, qn_63, qn_72, qn_96, qn_97, qn_99, qn_100, qn_122, qn_128, qn_150, qn_192, qn_199, qn_200, qn_201, qn_236, qn_240, qn_300, qn_998, qn_999, qn_1000, qn_2000, qn_2230, qn_9999, qn_10000, qn_114602, qn_180392, qn_664272, qn_1000000, qn_3379448, qn_10256063, qv_s, qv_n, qo_0_0, qo_0_1, qo_0_2, qo_0_3, qo_0_4, qo_0_5, qo_0_6, qo_0_7, qp_0_7, qo_1_0, qo_1_1, qo_1_2, qo_1_3, qo_1_4, qo_1_5, qo_1_6, qo_1_7, qp_1_7, qo_1_8, qp_1_8, qo_1_9, qp_1_9, qo_1_10, qp_1_10, qo_1_11, qp_1_11, qo_1_12, qp_1_12, qo_1_13, qp_1_13, qo_6_0, qo_6_1, qo_6_2, qo_6_3, qo_6_4, qp_6_4, qo_6_5, qp_6_5, qo_11_0, qo_11_1, qo_11_2, qo_11_3, qp_11_3, qo_15_0, qo_15_1, qo_15_2, qo_15_3, qp_15_3, qo_129_0, qo_129_1, qp_129_1, qo_129_2, qp_129_2, qo_129_3, qp_129_3, qo_129_4, qp_129_4, qo_129_5, qp_129_5, qo_129_6, qp_129_6, qo_129_7, qp_129_7, qo_129_8, qp_129_8, qo_131_0, qo_131_1, qo_131_2, qo_131_3, qo_131_4, qo_131_5, qo_131_6, qp_131_6, qo_131_7, qo_131_8, qp_131_8, qo_131_9, qp_131_9, qo_131_10, qp_131_10, qo_152_0, qo_152_1, qo_155_0, qo_155_1, qo_155_2, qo_159_0, qo_159_1, qo_159_2, qo_159_3, qp_159_3, qo_159_4, qp_159_4, qf_site_0, qf_sitew_0, qf_site_1, qf_sitew_1, qf_site_2, qf_sitew_2, qf_site_3, qf_sitew_3, qf_site_4, qf_sitew_4, qf_site_5, qf_sitew_5, qf_site_6, qf_sitew_6, qf_site_7, qf_sitew_7, qf_site_8, qf_sitew_8, qf_site_9, qf_sitew_9, qf_site_10, qf_site_11, qf_plug_0, qf_plugw_0, qf_plug_1, qf_plugw_1, qf_plug_2, qf_plugw_2, qf_plug_3, qf_plugw_3, qf_plug_4, qf_plugw_4, qf_plug_5, qf_plugw_5, qf_car_0, qf_carw_0, qf_car_1, qf_carw_1, qf_car_2, qf_carw_2, qf_car_3, qf_carw_3, qf_car_4, qf_carw_4, qf_car_5, qf_carw_5, qf_car_6, qf_carw_6, qf_car_7, qf_carw_7, qf_car_8, qf_carw_8, qf_car_9, qf_carw_9, qf_car_10, qf_carw_10, qf_car_11, qf_carw_11, qf_car_12, qf_carw_12, qf_car_13, qf_carw_13, qf_car_14, qf_carw_14, qa_5, qa_7, qa_8, qa_9, qa_10, qa_12, qa_13, qa_14, qa_16, qa_17, qa_18, qa_130, qa_132, qa_133, qa_134, qa_135, qa_151, qa_153, qa_154, qa_156, qa_157, qa_158, qa_177, qa_queue, qa_splug, qa_arr, qa_chg, qa_best, qa_sco, qw_5, qw_7, qw_8, qw_9, qw_10, qw_12, qw_13, qw_14, qw_16, qw_17, qw_18, qw_130, qw_132, qw_133, qw_134, qw_135, qw_151, qw_153, qw_154, qw_156, qw_157, qw_158, qw_177, qw_queue, qw_splug, qw_arr, qw_chg, qw_best, qw_sco, qr_site, qr_plug, qr_car, qr_arr, qr_chg, qr_best, qr_sco, qs_site, qs_plug, qs_car, qc_0, qc_1, qc_6, qc_11, qc_15, qc_129, qc_131, qc_152, qc_155, qc_159, f_X8_giveRulesTo, b_X8_giveRulesTo, u5, u6, u7, u8, qoc, q_wrB]
              | some v3 =>
                have v3l := c1 v3 rfl
                cases d with
                | none => rcases ha with rfl | rfl | rfl <;> simp -implicitDefEqProofs (disch := omega) [zq_r1, ze_c, ze_li, zq_li1, ze_lr, zq_lr1, zq_lr2, ze_ll, zq_ll1, ze_u, zq_u1, ze_b, zq_b1, zq_b3, ze_fi, ze_fd, ze_fl, ze_fs, ze_gi, ze_gl, ze_gn, ze_gf, zq_gf1, ze_al, zq_al1, zq_al3, ze_aa, zq_aa1, zq_aa3, ze_ev0, ze_ev, zq_ev1, zq_ev3, ze_ca, zq_ca1, ze_xc, zq_xc1, zq_xc3, ze_ck, zq_ck1, ze_rc, zq_rc1, ze_c1, zq_c11, ze_c2, zq_c21, zq_c23, ze_and, zq_andt, zq_andf, ze_or, zq_ort, zq_orf, ze_not, zq_not1, ze_it, zq_itt, zq_itf, zq_itd, ze_skip, ze_brk, ze_cnt, ze_ret0, ze_seq, zq_seq0, zq_seq1, zq_seq2, zq_seq3, ze_si, zq_si1, ze_sr, zq_sr1, ze_inc, zq_inc1, ze_ok0, ze_okS, zq_oki, zq_okr, zq_oka, zq_okf, zq_h1, ze_pf, zq_pf1, zq_pf3, ze_pfo, zq_pfo1, zq_pfo21, zq_pfo31, zq_pfo41, ze_as, zq_as1, zq_as21, zq_as31, ze_aso, zq_aso1, zq_aso21, zq_aso31, zq_aso41, zq_aso51, ze_if, zq_ift, zq_iff, zq_ifd, ze_ret, zq_ret1, ze_pk0, ze_pk1, ze_sw, zq_sw1, ze_cps, zq_cps1, ze_one, zq_o1t, zq_o1f, zq_o20, zq_o22, zq_o21, zq_o23, zq_o30, zq_len1, zq_pad0, zq_padS, ze_sem, ze_fl0, ze_flI, ze_flR, ze_flA, ze_flL, zq_semi, zq_semv, zq_semb0, zq_semb1, List.getElem?_cons_zero, List.getElem?_cons_succ, List.set_cons_zero, List.set_cons_succ, List.length_cons, List.length_nil, List.cons_append, List.nil_append, q_outT, q_outF, q_inT, q_inF, qn_an, qn_ltt, qn_ltf, qn_let, qn_lef, qn_eqt, qn_eqf, qn_sub, nI_add, pk_mul, qn_div, qn_modN, qn_nn, qn_np, qn_pn, qn_nlt, qn_pln, qn_nle, qn_ple, qn_0, qn_1, qn_2, qn_3, qn_4, qn_5, qn_6, qn_7, qn_8, qn_9, qn_10, qn_11, qn_12, qn_13, qn_14, qn_15, qn_16, qn_19, qn_20, qn_21, qn_24, qn_27, qn_29, qn_30, qn_31, qn_32, qn_33, qn_39, qn_40, qn_42, qn_48, qn_50, qn_54, qn_57, qn_59, qn_60, qn_63, qn_72, qn_96, qn_97, qn_99, qn_100, qn_122, qn_128, qn_150, qn_192, qn_199, qn_200, qn_201, qn_236, qn_240, qn_300, qn_998, qn_999, qn_1000, qn_2000, qn_2230, qn_9999, qn_10000, qn_114602, qn_180392, qn_664272, qn_1000000, qn_3379448, qn_10256063, qv_s, qv_n, qo_0_0, qo_0_1, qo_0_2, qo_0_3, qo_0_4, qo_0_5, qo_0_6, qo_0_7, qp_0_7, qo_1_0, qo_1_1, qo_1_2, qo_1_3, qo_1_4, qo_1_5, qo_1_6, qo_1_7, qp_1_7, qo_1_8, qp_1_8, qo_1_9, qp_1_9, qo_1_10, qp_1_10, qo_1_11, qp_1_11, qo_1_12, qp_1_12, qo_1_13, qp_1_13, qo_6_0, qo_6_1, qo_6_2, qo_6_3, qo_6_4, qp_6_4, qo_6_5, qp_6_5, qo_11_0, qo_11_1, qo_11_2, qo_11_3, qp_11_3, qo_15_0, qo_15_1, qo_15_2, qo_15_3, qp_15_3, qo_129_0, qo_129_1, qp_129_1, qo_129_2, qp_129_2, qo_129_3, qp_129_3, qo_129_4, qp_129_4, qo_129_5, qp_129_5, qo_129_6, qp_129_6, qo_129_7, qp_129_7, qo_129_8, qp_129_8, qo_131_0, qo_131_1, qo_131_2, qo_131_3, qo_131_4, qo_131_5, qo_131_6, qp_131_6, qo_131_7, qo_131_8, qp_131_8, qo_131_9, qp_131_9, qo_131_10, qp_131_10, qo_152_0, qo_152_1, qo_155_0, qo_155_1, qo_155_2, qo_159_0, qo_159_1, qo_159_2, qo_159_3, qp_159_3, qo_159_4, qp_159_4, qf_site_0, qf_sitew_0, qf_site_1, qf_sitew_1, qf_site_2, qf_sitew_2, qf_site_3, qf_sitew_3, qf_site_4, qf_sitew_4, qf_site_5, qf_sitew_5, qf_site_6, qf_sitew_6, qf_site_7, qf_sitew_7, qf_site_8, qf_sitew_8, qf_site_9, qf_sitew_9, qf_site_10, qf_site_11, qf_plug_0, qf_plugw_0, qf_plug_1, qf_plugw_1, qf_plug_2, qf_plugw_2, qf_plug_3, qf_plugw_3, qf_plug_4, qf_plugw_4, qf_plug_5, qf_plugw_5, qf_car_0, qf_carw_0, qf_car_1, qf_carw_1, qf_car_2, qf_carw_2, qf_car_3, qf_carw_3, qf_car_4, qf_carw_4, qf_car_5, qf_carw_5, qf_car_6, qf_carw_6, qf_car_7, qf_carw_7, qf_car_8, qf_carw_8, qf_car_9, qf_carw_9, qf_car_10, qf_carw_10, qf_car_11, qf_carw_11, qf_car_12, qf_carw_12, qf_car_13, qf_carw_13, qf_car_14, qf_carw_14, qa_5, qa_7, qa_8, qa_9, qa_10, qa_12, qa_13, qa_14, qa_16, qa_17, qa_18, qa_130, qa_132, qa_133, qa_134, qa_135, qa_151, qa_153, qa_154, qa_156, qa_157, qa_158, qa_177, qa_queue, qa_splug, qa_arr, qa_chg, qa_best, qa_sco, qw_5, qw_7, qw_8, qw_9, qw_10, qw_12, qw_13, qw_14, qw_16, qw_17, qw_18, qw_130, qw_132, qw_133, qw_134, qw_135, qw_151, qw_153, qw_154, qw_156, qw_157, qw_158, qw_177, qw_queue, qw_splug, qw_arr, qw_chg, qw_best, qw_sco, qr_site, qr_plug, qr_car, qr_arr, qr_chg, qr_best, qr_sco, qs_site, qs_plug, qs_car, qc_0, qc_1, qc_6, qc_11, qc_15, qc_129, qc_131, qc_152, qc_155, qc_159, f_X8_giveRulesTo, b_X8_giveRulesTo, u5, u6, u7, u8, qoc, q_wrB]
                | some v4 =>
                  have v4l := d1 v4 rfl
                  rcases ha with rfl | rfl | rfl <;> simp -implicitDefEqProofs (disch := omega) [zq_r1, ze_c, ze_li, zq_li1, ze_lr, zq_lr1, zq_lr2, ze_ll, zq_ll1, ze_u, zq_u1, ze_b, zq_b1, zq_b3, ze_fi, ze_fd, ze_fl, ze_fs, ze_gi, ze_gl, ze_gn, ze_gf, zq_gf1, ze_al, zq_al1, zq_al3, ze_aa, zq_aa1, zq_aa3, ze_ev0, ze_ev, zq_ev1, zq_ev3, ze_ca, zq_ca1, ze_xc, zq_xc1, zq_xc3, ze_ck, zq_ck1, ze_rc, zq_rc1, ze_c1, zq_c11, ze_c2, zq_c21, zq_c23, ze_and, zq_andt, zq_andf, ze_or, zq_ort, zq_orf, ze_not, zq_not1, ze_it, zq_itt, zq_itf, zq_itd, ze_skip, ze_brk, ze_cnt, ze_ret0, ze_seq, zq_seq0, zq_seq1, zq_seq2, zq_seq3, ze_si, zq_si1, ze_sr, zq_sr1, ze_inc, zq_inc1, ze_ok0, ze_okS, zq_oki, zq_okr, zq_oka, zq_okf, zq_h1, ze_pf, zq_pf1, zq_pf3, ze_pfo, zq_pfo1, zq_pfo21, zq_pfo31, zq_pfo41, ze_as, zq_as1, zq_as21, zq_as31, ze_aso, zq_aso1, zq_aso21, zq_aso31, zq_aso41, zq_aso51, ze_if, zq_ift, zq_iff, zq_ifd, ze_ret, zq_ret1, ze_pk0, ze_pk1, ze_sw, zq_sw1, ze_cps, zq_cps1, ze_one, zq_o1t, zq_o1f, zq_o20, zq_o22, zq_o21, zq_o23, zq_o30, zq_len1, zq_pad0, zq_padS, ze_sem, ze_fl0, ze_flI, ze_flR, ze_flA, ze_flL, zq_semi, zq_semv, zq_semb0, zq_semb1, List.getElem?_cons_zero, List.getElem?_cons_succ, List.set_cons_zero, List.set_cons_succ, List.length_cons, List.length_nil, List.cons_append, List.nil_append, q_outT, q_outF, q_inT, q_inF, qn_an, qn_ltt, qn_ltf, qn_let, qn_lef, qn_eqt, qn_eqf, qn_sub, nI_add, pk_mul, qn_div, qn_modN, qn_nn, qn_np, qn_pn, qn_nlt, qn_pln, qn_nle, qn_ple, qn_0, qn_1, qn_2, qn_3, qn_4, qn_5, qn_6, qn_7, qn_8, qn_9, qn_10, qn_11, qn_12, qn_13, qn_14, qn_15, qn_16, qn_19, qn_20, qn_21, qn_24, qn_27, qn_29, qn_30, qn_31, qn_32, qn_33, qn_39, qn_40, qn_42, qn_48, qn_50, qn_54, qn_57, qn_59, qn_60, qn_63, qn_72, qn_96, qn_97, qn_99, qn_100, qn_122, qn_128, qn_150, qn_192, qn_199, qn_200, qn_201, qn_236, qn_240, qn_300, qn_998, qn_999, qn_1000, qn_2000, qn_2230, qn_9999, qn_10000, qn_114602, qn_180392, qn_664272, qn_1000000, qn_3379448, qn_10256063, qv_s, qv_n, qo_0_0, qo_0_1, qo_0_2, qo_0_3, qo_0_4, qo_0_5, qo_0_6, qo_0_7, qp_0_7, qo_1_0, qo_1_1, qo_1_2, qo_1_3, qo_1_4, qo_1_5, qo_1_6, qo_1_7, qp_1_7, qo_1_8, qp_1_8, qo_1_9, qp_1_9, qo_1_10, qp_1_10, qo_1_11, qp_1_11, qo_1_12, qp_1_12, qo_1_13, qp_1_13, qo_6_0, qo_6_1, qo_6_2, qo_6_3, qo_6_4, qp_6_4, qo_6_5, qp_6_5, qo_11_0, qo_11_1, qo_11_2, qo_11_3, qp_11_3, qo_15_0, qo_15_1, qo_15_2, qo_15_3, qp_15_3, qo_129_0, qo_129_1, qp_129_1, qo_129_2, qp_129_2, qo_129_3, qp_129_3, qo_129_4, qp_129_4, qo_129_5, qp_129_5, qo_129_6, qp_129_6, qo_129_7, qp_129_7, qo_129_8, qp_129_8, qo_131_0, qo_131_1, qo_131_2, qo_131_3, qo_131_4, qo_131_5, qo_131_6, qp_131_6, qo_131_7, qo_131_8, qp_131_8, qo_131_9, qp_131_9, qo_131_10, qp_131_10, qo_152_0, qo_152_1, qo_155_0, qo_155_1, qo_155_2, qo_159_0, qo_159_1, qo_159_2, qo_159_3, qp_159_3, qo_159_4, qp_159_4, qf_site_0, qf_sitew_0, qf_site_1, qf_sitew_1, qf_site_2, qf_sitew_2, qf_site_3, qf_sitew_3, qf_site_4, qf_sitew_4, qf_site_5, qf_sitew_5, qf_site_6, qf_sitew_6, qf_site_7, qf_sitew_7, qf_site_8, qf_sitew_8, qf_site_9, qf_sitew_9, qf_site_10, qf_site_11, qf_plug_0, qf_plugw_0, qf_plug_1, qf_plugw_1, qf_plug_2, qf_plugw_2, qf_plug_3, qf_plugw_3, qf_plug_4, qf_plugw_4, qf_plug_5, qf_plugw_5, qf_car_0, qf_carw_0, qf_car_1, qf_carw_1, qf_car_2, qf_carw_2, qf_car_3, qf_carw_3, qf_car_4, qf_carw_4, qf_car_5, qf_carw_5, qf_car_6, qf_carw_6, qf_car_7, qf_carw_7, qf_car_8, qf_carw_8, qf_car_9, qf_carw_9, qf_car_10, qf_carw_10, qf_car_11, qf_carw_11, qf_car_12, qf_carw_12, qf_car_13, qf_carw_13, qf_car_14, qf_carw_14, qa_5, qa_7, qa_8, qa_9, qa_10, qa_12, qa_13, qa_14, qa_16, qa_17, qa_18, qa_130, qa_132, qa_133, qa_134, qa_135, qa_151, qa_153, qa_154, qa_156, qa_157, qa_158, qa_177, qa_queue, qa_splug, qa_arr, qa_chg, qa_best, qa_sco, qw_5, qw_7, qw_8, qw_9, qw_10, qw_12, qw_13, qw_14, qw_16, qw_17, qw_18, qw_130, qw_132, qw_133, qw_134, qw_135, qw_151, qw_153, qw_154, qw_156, qw_157, qw_158, qw_177, qw_queue, qw_splug, qw_arr, qw_chg, qw_best, qw_sco, qr_site, qr_plug, qr_car, qr_arr, qr_chg, qr_best, qr_sco, qs_site, qs_plug, qs_car, qc_0, qc_1, qc_6, qc_11, qc_15, qc_129, qc_131, qc_152, qc_155, qc_159, f_X8_giveRulesTo, b_X8_giveRulesTo, u5, u6, u7, u8, qoc, q_wrB]
          simp -implicitDefEqProofs (disch := omega) [zq_r1, ze_c, ze_li, zq_li1, ze_lr, zq_lr1, zq_lr2, ze_ll, zq_ll1, ze_u, zq_u1, ze_b, zq_b1, zq_b3, ze_fi, ze_fd, ze_fl, ze_fs, ze_gi, ze_gl, ze_gn, ze_gf, zq_gf1, ze_al, zq_al1, zq_al3, ze_aa, zq_aa1, zq_aa3, ze_ev0, ze_ev, zq_ev1, zq_ev3, ze_ca, zq_ca1, ze_xc, zq_xc1, zq_xc3, ze_ck, zq_ck1, ze_rc, zq_rc1, ze_c1, zq_c11, ze_c2, zq_c21, zq_c23, ze_and, zq_andt, zq_andf, ze_or, zq_ort, zq_orf, ze_not, zq_not1, ze_it, zq_itt, zq_itf, zq_itd, ze_skip, ze_brk, ze_cnt, ze_ret0, ze_seq, zq_seq0, zq_seq1, zq_seq2, zq_seq3, ze_si, zq_si1, ze_sr, zq_sr1, ze_inc, zq_inc1, ze_ok0, ze_okS, zq_oki, zq_okr, zq_oka, zq_okf, zq_h1, ze_pf, zq_pf1, zq_pf3, ze_pfo, zq_pfo1, zq_pfo21, zq_pfo31, zq_pfo41, ze_as, zq_as1, zq_as21, zq_as31, ze_aso, zq_aso1, zq_aso21, zq_aso31, zq_aso41, zq_aso51, ze_if, zq_ift, zq_iff, zq_ifd, ze_ret, zq_ret1, ze_pk0, ze_pk1, ze_sw, zq_sw1, ze_cps, zq_cps1, ze_one, zq_o1t, zq_o1f, zq_o20, zq_o22, zq_o21, zq_o23, zq_o30, zq_len1, zq_pad0, zq_padS, ze_sem, ze_fl0, ze_flI, ze_flR, ze_flA, ze_flL, zq_semi, zq_semv, zq_semb0, zq_semb1, List.getElem?_cons_zero, List.getElem?_cons_succ, List.set_cons_zero, List.set_cons_succ, List.length_cons, List.length_nil, List.cons_append, List.nil_append, q_outT, q_outF, q_inT, q_inF, qn_an, qn_ltt, qn_ltf, qn_let, qn_lef, qn_eqt, qn_eqf, qn_sub, nI_add, pk_mul, qn_div, qn_modN, qn_nn, qn_np, qn_pn, qn_nlt, qn_pln, qn_nle, qn_ple, qn_0, qn_1, qn_2, qn_3, qn_4, qn_5, qn_6, qn_7, qn_8, qn_9, qn_10, qn_11, qn_12, qn_13, qn_14, qn_15, qn_16, qn_19, qn_20, qn_21, qn_24, qn_27, qn_29, qn_30, qn_31, qn_32, qn_33, qn_39, qn_40, qn_42, qn_48, qn_50, qn_54, qn_57, qn_59, qn_60, qn_63, qn_72, qn_96, qn_97, qn_99, qn_100, qn_122, qn_128, qn_150, qn_192, qn_199, qn_200, qn_201, qn_236, qn_240, qn_300, qn_998, qn_999, qn_1000, qn_2000, qn_2230, qn_9999, qn_10000, qn_114602, qn_180392, qn_664272, qn_1000000, qn_3379448, qn_10256063, qv_s, qv_n, qo_0_0, qo_0_1, qo_0_2, qo_0_3, qo_0_4, qo_0_5, qo_0_6, qo_0_7, qp_0_7, qo_1_0, qo_1_1, qo_1_2, qo_1_3, qo_1_4, qo_1_5, qo_1_6, qo_1_7, qp_1_7, qo_1_8, qp_1_8, qo_1_9, qp_1_9, qo_1_10, qp_1_10, qo_1_11, qp_1_11, qo_1_12, qp_1_12, qo_1_13, qp_1_13, qo_6_0, qo_6_1, qo_6_2, qo_6_3, qo_6_4, qp_6_4, qo_6_5, qp_6_5, qo_11_0, qo_11_1, qo_11_2, qo_11_3, qp_11_3, qo_15_0, qo_15_1, qo_15_2, qo_15_3, qp_15_3, qo_129_0, qo_129_1, qp_129_1, qo_129_2, qp_129_2, qo_129_3, qp_129_3, qo_129_4, qp_129_4, qo_129_5, qp_129_5, qo_129_6, qp_129_6, qo_129_7, qp_129_7, qo_129_8, qp_129_8, qo_131_0, qo_131_1, qo_131_2, qo_131_3, qo_131_4, qo_131_5, qo_131_6, qp_131_6, qo_131_7, qo_131_8, qp_131_8, qo_131_9, qp_131_9, qo_131_10, qp_131_10, qo_152_0, qo_152_1, qo_155_0, qo_155_1, qo_155_2, qo_159_0, qo_159_1, qo_159_2, qo_159_3, qp_159_3, qo_159_4, qp_159_4, qf_site_0, qf_sitew_0, qf_site_1, qf_sitew_1, qf_site_2, qf_sitew_2, qf_site_3, qf_sitew_3, qf_site_4, qf_sitew_4, qf_site_5, qf_sitew_5, qf_site_6, qf_sitew_6, qf_site_7, qf_sitew_7, qf_site_8, qf_sitew_8, qf_site_9, qf_sitew_9, qf_site_10, qf_site_11, qf_plug_0, qf_plugw_0, qf_plug_1, qf_plugw_1, qf_plug_2, qf_plugw_2, qf_plug_3, qf_plugw_3, qf_plug_4, qf_plugw_4, qf_plug_5, qf_plugw_5, qf_car_0, qf_carw_0, qf_car_1, qf_carw_1, qf_car_2, qf_carw_2, qf_car_3, qf_carw_3, qf_car_4, qf_carw_4, qf_car_5, qf_carw_5, qf_car_6, qf_carw_6, qf_car_7, qf_carw_7, qf_car_8, qf_carw_8, qf_car_9, qf_carw_9, qf_car_10, qf_carw_10, qf_car_11, qf_carw_11, qf_car_12, qf_carw_12, qf_car_13, qf_carw_13, qf_car_14, qf_carw_14, qa_5, qa_7, qa_8, qa_9, qa_10, qa_12, qa_13, qa_14, qa_16, qa_17, qa_18, qa_130, qa_132, qa_133, qa_134, qa_135, qa_151, qa_153, qa_154, qa_156, qa_157, qa_158, qa_177, qa_queue, qa_splug, qa_arr, qa_chg, qa_best, qa_sco, qw_5, qw_7, qw_8, qw_9, qw_10, qw_12, qw_13, qw_14, qw_16, qw_17, qw_18, qw_130, qw_132, qw_133, qw_134, qw_135, qw_151, qw_153, qw_154, qw_156, qw_157, qw_158, qw_177, qw_queue, qw_splug, qw_arr, qw_chg, qw_best, qw_sco, qr_site, qr_plug, qr_car, qr_arr, qr_chg, qr_best, qr_sco, qs_site, qs_plug, qs_car, qc_0, qc_1, qc_6, qc_11, qc_15, qc_129, qc_131, qc_152, qc_155, qc_159, f_X11_read, b_X11_read, qh_Site hS.w hh.w hs, e1, hgive]
        · exact qC_of hw2 (fun c h2 h3 => by rw [qup_c (by omega)])
        · exact qv_s ⟨rfl, rfl⟩
        · intro i y hy; simp [qS_t] at hy
        · simp (disch := omega) only [↓qv_n]; rw [ft _ _ (by omega)]; exact hh.kb
        · intro K hK
          refine qC_of (hh.k K hK) (fun c h2 h3 => ?_)
          funext j
          show zk_up _ 129 1 (nI 0) (c + 64) j = _
          simp (disch := omega) only [↓qv_n]
          exact ft (c + 64) j (by omega)
        · intro c hc; funext j; simp (disch := omega) only [↓qv_n]; exact ft c j (by omega)
      · intro h hh
        obtain ⟨h1, fr, k30, k18, hz⟩ := hrf h hh
        rw [← hR, hc] at hz
        refine ⟨h1, hz.1, qRI.mk hz.2 k18 ?_ ?_ ?_, fun c hc => fr c (Or.inl hc)⟩
        · intro i y hy; simp [qS_t] at hy
        · rw [k30]; exact hh.kb
        · intro K hK; rw [fr 200 (by omega)]; exact hh.k K hK
  · refine ⟨-1, qS.mk S.w [] S.k, qSf.mk hS.w (Nat.zero_le _) (by intro x hx; cases hx) hS.k, ?_, ?_⟩
    · intro h hh
      refine ⟨zk_up h 129 1 (nI 0), ?_, qCI.mk ?_ ?_ ?_ ?_ ?_, ?_⟩
      · simp -implicitDefEqProofs (disch := omega) [zq_r1, ze_c, ze_li, zq_li1, ze_lr, zq_lr1, zq_lr2, ze_ll, zq_ll1, ze_u, zq_u1, ze_b, zq_b1, zq_b3, ze_fi, ze_fd, ze_fl, ze_fs, ze_gi, ze_gl, ze_gn, ze_gf, zq_gf1, ze_al, zq_al1, zq_al3, ze_aa, zq_aa1, zq_aa3, ze_ev0, ze_ev, zq_ev1, zq_ev3, ze_ca, zq_ca1, ze_xc, zq_xc1, zq_xc3, ze_ck, zq_ck1, ze_rc, zq_rc1, ze_c1, zq_c11, ze_c2, zq_c21, zq_c23, ze_and, zq_andt, zq_andf, ze_or, zq_ort, zq_orf, ze_not, zq_not1, ze_it, zq_itt, zq_itf, zq_itd, ze_skip, ze_brk, ze_cnt, ze_ret0, ze_seq, zq_seq0, zq_seq1, zq_seq2, zq_seq3, ze_si, zq_si1, ze_sr, zq_sr1, ze_inc, zq_inc1, ze_ok0, ze_okS, zq_oki, zq_okr, zq_oka, zq_okf, zq_h1, ze_pf, zq_pf1, zq_pf3, ze_pfo, zq_pfo1, zq_pfo21, zq_pfo31, zq_pfo41, ze_as, zq_as1, zq_as21, zq_as31, ze_aso, zq_aso1, zq_aso21, zq_aso31, zq_aso41, zq_aso51, ze_if, zq_ift, zq_iff, zq_ifd, ze_ret, zq_ret1, ze_pk0, ze_pk1, ze_sw, zq_sw1, ze_cps, zq_cps1, ze_one, zq_o1t, zq_o1f, zq_o20, zq_o22, zq_o21, zq_o23, zq_o30, zq_len1, zq_pad0, zq_padS, ze_sem, ze_fl0, ze_flI, ze_flR, ze_flA, ze_flL, zq_semi, zq_semv, zq_semb0, zq_semb1, List.getElem?_cons_zero, List.getElem?_cons_succ, List.set_cons_zero, List.set_cons_succ, List.length_cons, List.length_nil, List.cons_append, List.nil_append, q_outT, q_outF, q_inT, q_inF, qn_an, qn_ltt, qn_ltf, qn_let, qn_lef, qn_eqt, qn_eqf, qn_sub, nI_add, pk_mul, qn_div, qn_modN, qn_nn, qn_np, qn_pn, qn_nlt, qn_pln, qn_nle, qn_ple, qn_0, qn_1, qn_2, qn_3, qn_4, qn_5, qn_6, qn_7, qn_8, qn_9, qn_10, qn_11, qn_12, qn_13, qn_14, qn_15, qn_16, qn_19, qn_20, qn_21, qn_24, qn_27, qn_29, qn_30, qn_31, qn_32, qn_33, qn_39, qn_40, qn_42, qn_48, qn_50, qn_54, qn_57, qn_59, qn_60, qn_63, qn_72, qn_96, qn_97, qn_99, qn_100, qn_122, qn_128, qn_150, qn_192, qn_199, qn_200, qn_201, qn_236, qn_240, qn_300, qn_998, qn_999, qn_1000, qn_2000, qn_2230, qn_9999, qn_10000, qn_114602, qn_180392, qn_664272, qn_1000000, qn_3379448, qn_10256063, qv_s, qv_n, qo_0_0, qo_0_1, qo_0_2, qo_0_3, qo_0_4, qo_0_5, qo_0_6, qo_0_7, qp_0_7, qo_1_0, qo_1_1, qo_1_2, qo_1_3, qo_1_4, qo_1_5, qo_1_6, qo_1_7, qp_1_7, qo_1_8, qp_1_8, qo_1_9, qp_1_9, qo_1_10, qp_1_10, qo_1_11, qp_1_11, qo_1_12, qp_1_12, qo_1_13, qp_1_13, qo_6_0, qo_6_1, qo_6_2, qo_6_3, qo_6_4, qp_6_4, qo_6_5, qp_6_5, qo_11_0, qo_11_1, qo_11_2, qo_11_3, qp_11_3, qo_15_0, qo_15_1, qo_15_2, qo_15_3, qp_15_3, qo_129_0, qo_129_1, qp_129_1, qo_129_2, qp_129_2, qo_129_3, qp_129_3, qo_129_4, qp_129_4, qo_129_5, qp_129_5, qo_129_6, qp_129_6, qo_129_7, qp_129_7, qo_129_8, qp_129_8, qo_131_0, qo_131_1, qo_131_2, qo_131_3, qo_131_4, qo_131_5, qo_131_6, qp_131_6, qo_131_7, qo_131_8, qp_131_8, qo_131_9, qp_131_9, qo_131_10, qp_131_10, qo_152_0, qo_152_1, qo_155_0, qo_155_1, qo_155_2, qo_159_0, qo_159_1, qo_159_2, qo_159_3, qp_159_3, qo_159_4, qp_159_4, qf_site_0, qf_sitew_0, qf_site_1, qf_sitew_1, qf_site_2, qf_sitew_2, qf_site_3, qf_sitew_3, qf_site_4, qf_sitew_4, qf_site_5, qf_sitew_5, qf_site_6, qf_sitew_6, qf_site_7, qf_sitew_7, qf_site_8, qf_sitew_8, qf_site_9, qf_sitew_9, qf_site_10, qf_site_11, qf_plug_0, qf_plugw_0, qf_plug_1, qf_plugw_1, qf_plug_2, qf_plugw_2, qf_plug_3, qf_plugw_3, qf_plug_4, qf_plugw_4, qf_plug_5, qf_plugw_5, qf_car_0, qf_carw_0, qf_car_1, qf_carw_1, qf_car_2, qf_carw_2, qf_car_3, qf_carw_3, qf_car_4, qf_carw_4, qf_car_5, qf_carw_5, qf_car_6, qf_carw_6, qf_car_7, qf_carw_7, qf_car_8, qf_carw_8, qf_car_9, qf_carw_9, qf_car_10, qf_carw_10, qf_car_11, qf_carw_11, qf_car_12, qf_carw_12, qf_car_13, qf_carw_13, qf_car_14, qf_carw_14, qa_5, qa_7, qa_8, qa_9, qa_10, qa_12, qa_13, qa_14, qa_16, qa_17, qa_18, qa_130, qa_132, qa_133, qa_134, qa_135, qa_151, qa_153, qa_154, qa_156, qa_157, qa_158, qa_177, qa_queue, qa_splug, qa_arr, qa_chg, qa_best, qa_sco, qw_5, qw_7, qw_8, qw_9, qw_10, qw_12, qw_13, qw_14, qw_16, qw_17, qw_18, qw_130, qw_132, qw_133, qw_134, qw_135, qw_151, qw_153, qw_154, qw_156, qw_157, qw_158, qw_177, qw_queue, qw_splug, qw_arr, qw_chg, qw_best, qw_sco, qr_site, qr_plug, qr_car, qr_arr, qr_chg, qr_best, qr_sco, qs_site, qs_plug, qs_car, qc_0, qc_1, qc_6, qc_11, qc_15, qc_129, qc_131, qc_152, qc_155, qc_159, f_X11_read, b_X11_read, na h hh.w]
      · exact qC_of hh.w (fun c h2 h3 => by rw [qup_c (by omega)])
      · exact qv_s ⟨rfl, rfl⟩
      · intro i x hx; simp [qS_t] at hx
      · rw [qv_n (by omega)]; exact hh.kb
      · intro K hK; exact qC_of (hh.k K hK) (fun c h2 h3 => by show zk_up h 129 1 (nI 0) (c + 64) = _; rw [qup_c (by omega)])
      · intro c hc; rw [qup_c (by omega)]
    · intro h hh
      refine ⟨zk_up h 178 18 (nI 0), ?_, qRI.mk ?_ ?_ ?_ ?_ ?_, ?_⟩
      · simp -implicitDefEqProofs (disch := omega) [zq_r1, ze_c, ze_li, zq_li1, ze_lr, zq_lr1, zq_lr2, ze_ll, zq_ll1, ze_u, zq_u1, ze_b, zq_b1, zq_b3, ze_fi, ze_fd, ze_fl, ze_fs, ze_gi, ze_gl, ze_gn, ze_gf, zq_gf1, ze_al, zq_al1, zq_al3, ze_aa, zq_aa1, zq_aa3, ze_ev0, ze_ev, zq_ev1, zq_ev3, ze_ca, zq_ca1, ze_xc, zq_xc1, zq_xc3, ze_ck, zq_ck1, ze_rc, zq_rc1, ze_c1, zq_c11, ze_c2, zq_c21, zq_c23, ze_and, zq_andt, zq_andf, ze_or, zq_ort, zq_orf, ze_not, zq_not1, ze_it, zq_itt, zq_itf, zq_itd, ze_skip, ze_brk, ze_cnt, ze_ret0, ze_seq, zq_seq0, zq_seq1, zq_seq2, zq_seq3, ze_si, zq_si1, ze_sr, zq_sr1, ze_inc, zq_inc1, ze_ok0, ze_okS, zq_oki, zq_okr, zq_oka, zq_okf, zq_h1, ze_pf, zq_pf1, zq_pf3, ze_pfo, zq_pfo1, zq_pfo21, zq_pfo31, zq_pfo41, ze_as, zq_as1, zq_as21, zq_as31, ze_aso, zq_aso1, zq_aso21, zq_aso31, zq_aso41, zq_aso51, ze_if, zq_ift, zq_iff, zq_ifd, ze_ret, zq_ret1, ze_pk0, ze_pk1, ze_sw, zq_sw1, ze_cps, zq_cps1, ze_one, zq_o1t, zq_o1f, zq_o20, zq_o22, zq_o21, zq_o23, zq_o30, zq_len1, zq_pad0, zq_padS, ze_sem, ze_fl0, ze_flI, ze_flR, ze_flA, ze_flL, zq_semi, zq_semv, zq_semb0, zq_semb1, List.getElem?_cons_zero, List.getElem?_cons_succ, List.set_cons_zero, List.set_cons_succ, List.length_cons, List.length_nil, List.cons_append, List.nil_append, q_outT, q_outF, q_inT, q_inF, qn_an, qn_ltt, qn_ltf, qn_let, qn_lef, qn_eqt, qn_eqf, qn_sub, nI_add, pk_mul, qn_div, qn_modN, qn_nn, qn_np, qn_pn, qn_nlt, qn_pln, qn_nle, qn_ple, qn_0, qn_1, qn_2, qn_3, qn_4, qn_5, qn_6, qn_7, qn_8, qn_9, qn_10, qn_11, qn_12, qn_13, qn_14, qn_15, qn_16, qn_19, qn_20, qn_21, qn_24, qn_27, qn_29, qn_30, qn_31, qn_32, qn_33, qn_39, qn_40, qn_42, qn_48, qn_50, qn_54, qn_57, qn_59, qn_60, qn_63, qn_72, qn_96, qn_97, qn_99, qn_100, qn_122, qn_128, qn_150, qn_192, qn_199, qn_200, qn_201, qn_236, qn_240, qn_300, qn_998, qn_999, qn_1000, qn_2000, qn_2230, qn_9999, qn_10000, qn_114602, qn_180392, qn_664272, qn_1000000, qn_3379448, qn_10256063, qv_s, qv_n, qo_178_0, qo_178_1, qo_178_2, qo_178_3, qo_178_4, qo_178_5, qo_178_6, qo_178_7, qo_178_8, qo_178_9, qo_178_10, qo_178_11, qo_178_12, qo_178_13, qo_178_14, qp_178_14, qo_178_15, qp_178_15, qo_178_16, qp_178_16, qo_178_17, qo_178_18, qp_178_18, qo_178_19, qp_178_19, qo_178_20, qp_178_20, qo_178_21, qp_178_21, qo_178_22, qp_178_22, qo_178_23, qp_178_23, qo_178_24, qo_178_25, qo_178_26, qo_178_27, qo_178_28, qo_178_29, qo_178_30, qp_178_30, qo_178_31, qo_178_32, qp_178_32, qa_179, qa_180, qa_181, qa_182, qa_183, qa_184, qa_185, qa_186, qa_187, qa_188, qa_189, qa_190, qa_191, qa_192, qa_193, qa_194, qa_195, qa_196, qa_197, qa_198, qa_199, qa_200, qw_179, qw_180, qw_181, qw_182, qw_183, qw_184, qw_185, qw_186, qw_187, qw_188, qw_189, qw_190, qw_191, qw_192, qw_193, qw_194, qw_195, qw_196, qw_197, qw_198, qw_199, qw_200, qc_178, q_getN, q_putN, q_moreN, f_X12_read, b_X12_read, nb h hh.w]
      · exact qR_of hh.w (fun c h2 => by show zk_up h 178 18 (nI 0) (179 + c) = _; rw [qup_c (by omega)])
      · exact qv_s ⟨rfl, rfl⟩
      · intro i x hx; simp [qS_t] at hx
      · rw [qv_n (by omega)]; exact hh.kb
      · intro K hK; rw [show zk_up h 178 18 (nI 0) 200 = h 200 from qup_c (by omega)]; exact hh.k K hK
      · intro c hc; rw [qup_c (by omega)]
