-- trips: the way, and the class's legs
set_option maxRecDepth 4000
set_option maxHeartbeats 400000
def qpf (W : qW) (a b s : Nat) : Bool := decide (a < W.km s) && decide (W.km s ≤ b)
def qpls (W : qW) (a b n : Nat) : List Nat := (List.range n).filter (qpf W a b)
def qwy (W : qW) (a b : Nat) (l : List Nat) : Nat → Nat
  | 0 => a
  | j + 1 => match l[j]? with
    | some s => W.km s
    | none => b
def qlL (W : qW) (a b : Nat) (l : List Nat) (k : Nat) : Nat := qwy W a b l (k + 1) - qwy W a b l k
def qcn (W : qW) (c n : Nat) : Nat := (n * W.use c * (100 + W.cold) + 9999) / 10000
def qLT (W : qW) (a b : Nat) (l : List Nat) (k : Nat) : Nat := (qlL W a b l k + 7) / 8
def qLC (W : qW) (c a b : Nat) (l : List Nat) (k : Nat) : Nat := qcn W c (qlL W a b l k)
def qms (W : qW) (c s : Nat) : Nat := qmost W (qsrv W s (W.cab c) W.nP)
def qgk (W : qW) (c : Nat) (l : List Nat) (k x : Nat) : Nat := match l[k]? with
  | some s => if 0 < qms W c s then qgn (W.bat c) (W.rate c) W.cold (qms W c s) x else 0
  | none => 0
def qwk (W : qW) (l : List Nat) (k : Nat) : Nat := match l[k]? with
  | some s => W.wait s
  | none => 0
theorem qpls_s (W : qW) (a b n : Nat) : qpls W a b (n + 1) = if qpf W a b n = true then qpls W a b n ++ [n] else qpls W a b n := by
  unfold qpls
  rw [List.range_succ, List.filter_append]
  by_cases h : qpf W a b n = true
  · rw [if_pos h]; simp [h]
  · rw [if_neg h]; simp [h]
theorem qpls_len (W : qW) (a b n : Nat) : (qpls W a b n).length ≤ n := by
  unfold qpls
  have := List.length_filter_le (qpf W a b) (List.range n)
  rw [List.length_range] at this
  exact this
theorem qpls_mem {W : qW} {a b n s : Nat} (h : s ∈ qpls W a b n) : s < n ∧ a < W.km s ∧ W.km s ≤ b := by
  unfold qpls at h
  rw [List.mem_filter, List.mem_range] at h
  have h2 := h.2
  unfold qpf at h2
  simp at h2
  exact ⟨h.1, h2.1, h2.2⟩
theorem qwy_app {W : qW} {a b : Nat} {l r : List Nat} {i : Nat} (hi : i ≤ l.length) : qwy W a b (l ++ r) i = qwy W a b l i := by
  cases i with
  | zero => rfl
  | succ j =>
    show (match (l ++ r)[j]? with | some s => W.km s | none => b) = (match l[j]? with | some s => W.km s | none => b)
    rw [List.getElem?_append_left (by omega)]
theorem qwy_k {W : qW} {a b : Nat} {l : List Nat} {j s : Nat} (h : l[j]? = some s) : qwy W a b l (j + 1) = W.km s := by
  show (match l[j]? with | some s => W.km s | none => b) = _
  rw [h]
theorem qwy_n {W : qW} {a b : Nat} {l : List Nat} : qwy W a b l (l.length + 1) = b := by
  show (match l[l.length]? with | some s => W.km s | none => b) = _
  rw [List.getElem?_eq_none (Nat.le_refl _)]
theorem qwy_in {W : qW} {a b n i : Nat} (hab : a ≤ b) : qwy W a b (qpls W a b n) i ≤ b := by
  cases i with
  | zero => exact hab
  | succ j =>
    cases h : (qpls W a b n)[j]? with
    | none =>
      show (match (qpls W a b n)[j]? with | some s => W.km s | none => b) ≤ _
      rw [h]; exact Nat.le_refl _
    | some s => rw [qwy_k h]; exact (qpls_mem (List.mem_of_getElem? h)).2.2
theorem qlL_b {W : qW} {a b n k : Nat} (hab : a ≤ b) : qlL W a b (qpls W a b n) k ≤ b := by
  unfold qlL
  have := qwy_in (W := W) (n := n) (i := k + 1) hab
  omega
theorem qwy_last {W : qW} (hf : qWf W) {a b n i : Nat} (hn : n < W.nS) (ha : a < W.km n) (hi : i ≤ (qpls W a b n).length) : qwy W a b (qpls W a b n) i ≤ W.km n := by
  cases i with
  | zero => show a ≤ _; omega
  | succ j =>
    cases h : (qpls W a b n)[j]? with
    | none => have := List.getElem?_eq_none_iff.1 h; omega
    | some s =>
      rw [qwy_k h]
      have := qpls_mem (List.mem_of_getElem? h)
      exact Nat.le_of_lt (hf.inc s n this.1 hn)
theorem qwy_mono {W : qW} (hf : qWf W) {a b : Nat} (hab : a ≤ b) {i : Nat} : ∀ n, n ≤ W.nS → i ≤ (qpls W a b n).length → qwy W a b (qpls W a b n) i ≤ qwy W a b (qpls W a b n) (i + 1)
  | 0, _, hi => by
    have e : qpls W a b 0 = [] := rfl
    rw [e] at hi ⊢
    have : i = 0 := by simpa using hi
    subst this
    exact hab
  | n + 1, hn, hi => by
    rw [qpls_s] at hi ⊢
    by_cases h : qpf W a b n = true
    · rw [if_pos h] at hi ⊢
      rw [List.length_append, List.length_singleton] at hi
      have h2 : a < W.km n ∧ W.km n ≤ b := by unfold qpf at h; simpa using h
      by_cases h3 : i < (qpls W a b n).length
      · rw [qwy_app (by omega), qwy_app (by omega)]
        exact qwy_mono hf hab n (by omega) (by omega)
      · by_cases h4 : i = (qpls W a b n).length
        · subst h4
          rw [qwy_app (Nat.le_refl _), qwy_k (s := n) (by simp)]
          exact qwy_last hf (by omega) h2.1 (Nat.le_refl _)
        · have h5 : i = (qpls W a b n).length + 1 := by omega
          subst h5
          rw [qwy_k (s := n) (j := (qpls W a b n).length) (by simp)]
          have : (qpls W a b n).length + 1 = (qpls W a b n ++ [n]).length := by simp
          rw [this, qwy_n]; exact h2.2
    · rw [if_neg h] at hi ⊢
      exact qwy_mono hf hab n (by omega) hi
theorem qcd_m {W : qW} (hf : qWf W) {c n : Nat} (hc : c < W.nC) (hn : n ≤ 999) : qcd W c (nI n) = nI (qcn W c n) := by
  have h1 := (hf.use c hc).2
  have h2 := hf.cold
  have h3 : n * W.use c ≤ 999 * 40 := Nat.mul_le_mul hn h1
  have h4 : n * W.use c * (100 + W.cold) ≤ 999 * 40 * 150 := Nat.mul_le_mul h3 (by omega)
  unfold qcd qcn
  rw [show (100 : Int32) = nI 100 from rfl, show (9999 : Int32) = nI 9999 from rfl, show (10000 : Int32) = nI 10000 from rfl, pk_mul, nI_add, pk_mul, nI_add, qn_div (by omega) (by omega) (by omega)]
theorem qcn_b {W : qW} (hf : qWf W) {c n : Nat} (hc : c < W.nC) (hn : n ≤ 999) : qcn W c n ≤ 600 := by
  have h1 := (hf.use c hc).2
  have h2 := hf.cold
  have h3 : n * W.use c ≤ 999 * 40 := Nat.mul_le_mul hn h1
  have h4 : n * W.use c * (100 + W.cold) ≤ 999 * 40 * 150 := Nat.mul_le_mul h3 (by omega)
  unfold qcn
  omega
theorem qms_b {W : qW} (hf : qWf W) (c s : Nat) : qms W c s ≤ 150 := by
  unfold qms qmost
  cases h : qsrv W s (W.cab c) W.nP with
  | none => exact Nat.zero_le _
  | some p => exact (hf.pmost p (qsrv_ok h).1).2
theorem qgn_le (b r k m c : Nat) : qgn b r k m c ≤ b - c := by
  unfold qgn
  simp only
  generalize (if (if 19 * b ≤ 20 * c then _ else _) < 1 then 1 else _) = v
  split <;> omega
theorem qgk_b {W : qW} {c : Nat} {l : List Nat} {k x : Nat} (hx : x ≤ W.bat c) : x + qgk W c l k x ≤ W.bat c := by
  unfold qgk
  split
  · split
    · rename_i s _ _
      have := qgn_le (W.bat c) (W.rate c) W.cold (qms W c s) x
      omega
    · omega
  · omega
theorem qwk_b {W : qW} (hf : qWf W) {a b k : Nat} : qwk W (qpls W a b W.nS) k ≤ 99 := by
  unfold qwk
  cases h : (qpls W a b W.nS)[k]? with
  | none => exact Nat.zero_le _
  | some s => exact hf.wait s (qpls_mem (List.mem_of_getElem? h)).1
theorem qC_leg {h : zk_H} {W : qW} (hf : qWf W) (hh : qC h W) {c n m : Nat} (hc : c < W.nC) (hn : n ≤ 999) (hm : m < 7) (k6 : h 131 6 = nI m) : f_X4_setLeg SHP [.ref 131, .ref 1, .ref (53 + c), .int (nI n)] h = some (.null, zk_up (zk_up h 134 m (nI ((n + 7) / 8))) 135 m (nI (qcn W c n))) := by
  have hC := hf.hC
  have q1 : qC (zk_up h 134 m (nI ((n + 7) / 8))) W := qC_of hh (fun k h1 h2 => qup_c (by omega))
  have e1 := q_ctd q1 (c := c) (by omega) (nI n)
  rw [qcd_m hf hc hn] at e1
  have e2 := q_ttd (nI n) h
  have e3 : (nI n + 7) / 8 = nI ((n + 7) / 8) := by
    rw [show (7 : Int32) = nI 7 from rfl, show (8 : Int32) = nI 8 from rfl, nI_add, qn_div (by omega) (by omega) (by omega)]
  rw [e3] at e2
  simp -implicitDefEqProofs (disch := omega) [zq_r1, ze_c, ze_li, zq_li1, ze_lr, zq_lr1, zq_lr2, ze_ll, zq_ll1, ze_u, zq_u1, ze_b, zq_b1, zq_b3, ze_fi, ze_fd, ze_fl, ze_fs, ze_gi, ze_gl, ze_gn, ze_gf, zq_gf1, ze_al, zq_al1, zq_al3, ze_aa, zq_aa1, zq_aa3, ze_ev0, ze_ev, zq_ev1, zq_ev3, ze_ca, zq_ca1, ze_xc, zq_xc1, zq_xc3, ze_ck, zq_ck1, ze_rc, zq_rc1, ze_c1, zq_c11, ze_c2, zq_c21, zq_c23, ze_and, zq_andt, zq_andf, ze_or, zq_ort, zq_orf, ze_not, zq_not1, ze_it, zq_itt, zq_itf, zq_itd, ze_skip, ze_brk, ze_cnt, ze_ret0, ze_seq, zq_seq0, zq_seq1, zq_seq2, zq_seq3, ze_si, zq_si1, ze_sr, zq_sr1, ze_inc, zq_inc1, ze_ok0, ze_okS, zq_oki, zq_okr, zq_oka, zq_okf, zq_h1, ze_pf, zq_pf1, zq_pf3, ze_pfo, zq_pfo1, zq_pfo21, zq_pfo31, zq_pfo41, ze_as, zq_as1, zq_as21, zq_as31, ze_aso, zq_aso1, zq_aso21, zq_aso31, zq_aso41, zq_aso51, ze_if, zq_ift, zq_iff, zq_ifd, ze_ret, zq_ret1, ze_pk0, ze_pk1, ze_sw, zq_sw1, ze_cps, zq_cps1, ze_one, zq_o1t, zq_o1f, zq_o20, zq_o22, zq_o21, zq_o23, zq_o30, zq_len1, zq_pad0, zq_padS, ze_sem, ze_fl0, ze_flI, ze_flR, ze_flA, ze_flL, zq_semi, zq_semv, zq_semb0, zq_semb1, List.getElem?_cons_zero, List.getElem?_cons_succ, List.set_cons_zero, List.set_cons_succ, List.length_cons, List.length_nil, List.cons_append, List.nil_append, q_outT, q_outF, q_inT, q_inF, qn_an, qn_ltt, qn_ltf, qn_let, qn_lef, qn_eqt, qn_eqf, qn_sub, nI_add, pk_mul, qn_div, qn_modN, qn_nn, qn_np, qn_pn, qn_nlt, qn_pln, qn_nle, qn_ple, qn_0, qn_1, qn_2, qn_3, qn_4, qn_5, qn_6, qn_7, qn_8, qn_9, qn_10, qn_11, qn_12, qn_13, qn_14, qn_15, qn_16, qn_19, qn_20, qn_21, qn_24, qn_27, qn_29, qn_30, qn_31, qn_32, qn_33, qn_39, qn_40, qn_42, qn_48, qn_50, qn_54, qn_57, qn_59, qn_60, qn_63, qn_72, qn_96, qn_97, qn_99, qn_100, qn_122, qn_128, qn_150, qn_192, qn_199, qn_200, qn_201, qn_236, qn_240, qn_300, qn_998, qn_999, qn_1000, qn_2000, qn_2230, qn_9999, qn_10000, qn_114602, qn_180392, qn_664272, qn_1000000, qn_3379448, qn_10256063, qv_s, qv_n, qo_0_0, qo_0_1, qo_0_2, qo_0_3, qo_0_4, qo_0_5, qo_0_6, qo_0_7, qp_0_7, qo_1_0, qo_1_1, qo_1_2, qo_1_3, qo_1_4, qo_1_5, qo_1_6, qo_1_7, qp_1_7, qo_1_8, qp_1_8, qo_1_9, qp_1_9, qo_1_10, qp_1_10, qo_1_11, qp_1_11, qo_1_12, qp_1_12, qo_1_13, qp_1_13, qo_6_0, qo_6_1, qo_6_2, qo_6_3, qo_6_4, qp_6_4, qo_6_5, qp_6_5, qo_11_0, qo_11_1, qo_11_2, qo_11_3, qp_11_3, qo_15_0, qo_15_1, qo_15_2, qo_15_3, qp_15_3, qo_129_0, qo_129_1, qp_129_1, qo_129_2, qp_129_2, qo_129_3, qp_129_3, qo_129_4, qp_129_4, qo_129_5, qp_129_5, qo_129_6, qp_129_6, qo_129_7, qp_129_7, qo_129_8, qp_129_8, qo_131_0, qo_131_1, qo_131_2, qo_131_3, qo_131_4, qo_131_5, qo_131_6, qp_131_6, qo_131_7, qo_131_8, qp_131_8, qo_131_9, qp_131_9, qo_131_10, qp_131_10, qo_152_0, qo_152_1, qo_155_0, qo_155_1, qo_155_2, qo_159_0, qo_159_1, qo_159_2, qo_159_3, qp_159_3, qo_159_4, qp_159_4, qf_site_0, qf_sitew_0, qf_site_1, qf_sitew_1, qf_site_2, qf_sitew_2, qf_site_3, qf_sitew_3, qf_site_4, qf_sitew_4, qf_site_5, qf_sitew_5, qf_site_6, qf_sitew_6, qf_site_7, qf_sitew_7, qf_site_8, qf_sitew_8, qf_site_9, qf_sitew_9, qf_site_10, qf_site_11, qf_plug_0, qf_plugw_0, qf_plug_1, qf_plugw_1, qf_plug_2, qf_plugw_2, qf_plug_3, qf_plugw_3, qf_plug_4, qf_plugw_4, qf_plug_5, qf_plugw_5, qf_car_0, qf_carw_0, qf_car_1, qf_carw_1, qf_car_2, qf_carw_2, qf_car_3, qf_carw_3, qf_car_4, qf_carw_4, qf_car_5, qf_carw_5, qf_car_6, qf_carw_6, qf_car_7, qf_carw_7, qf_car_8, qf_carw_8, qf_car_9, qf_carw_9, qf_car_10, qf_carw_10, qf_car_11, qf_carw_11, qf_car_12, qf_carw_12, qf_car_13, qf_carw_13, qf_car_14, qf_carw_14, qa_5, qa_7, qa_8, qa_9, qa_10, qa_12, qa_13, qa_14, qa_16, qa_17, qa_18, qa_130, qa_132, qa_133, qa_134, qa_135, qa_151, qa_153, qa_154, qa_156, qa_157, qa_158, qa_177, qa_queue, qa_splug, qa_arr, qa_chg, qa_best, qa_sco, qw_5, qw_7, qw_8, qw_9, qw_10, qw_12, qw_13, qw_14, qw_16, qw_17, qw_18, qw_130, qw_132, qw_133, qw_134, qw_135, qw_151, qw_153, qw_154, qw_156, qw_157, qw_158, qw_177, qw_queue, qw_splug, qw_arr, qw_chg, qw_best, qw_sco, qr_site, qr_plug, qr_car, qr_arr, qr_chg, qr_best, qr_sco, qs_site, qs_plug, qs_car, qc_0, qc_1, qc_6, qc_11, qc_15, qc_129, qc_131, qc_152, qc_155, qc_159, f_X4_setLeg, b_X4_setLeg, k6, e1, e2]
/-- the class's legs -/
def qleg (W : qW) (c a b : Nat) (l : List Nat) (h : zk_H) : Prop := ∀ k x, l[k]? = some x → h 132 k = nI x ∧ h 133 k = nI (qms W c x) ∧ h 134 k = nI (qLT W a b l k) ∧ h 135 k = nI (qLC W c a b l k)
theorem qC_lay {h : zk_H} {W : qW} (hf : qWf W) (hh : qC h W) {c a b : Nat} (hc : c < W.nC) (hab : a ≤ b) (hb : b ≤ 999) : ∃ h1, f_X4_layOutLegs SHP [.ref 131, .ref 1, .ref (53 + c), .int (nI a), .int (nI b)] h = some (.null, h1) ∧ h1 131 6 = nI (qpls W a b W.nS).length ∧ qleg W c a b (qpls W a b W.nS) h1 ∧ h1 134 (qpls W a b W.nS).length = nI (qLT W a b (qpls W a b W.nS) (qpls W a b W.nS).length) ∧ h1 135 (qpls W a b W.nS).length = nI (qLC W c a b (qpls W a b W.nS) (qpls W a b W.nS).length) ∧ ∀ k, k < 131 ∨ 135 < k → h1 k = h k := by
  have hS := hf.hS
  have hC := hf.hC
  have hcab := hf.cab c hc
  have l1 := q_for (c := c_X4_layOutLegs_1 SHP) (b := b_X4_layOutLegs_1 SHP) (u := u_X4_layOutLegs_1 SHP) (P := fun s e g => (∃ u, e = [.ref 131, .ref 1, .ref (53 + c), .int (nI a), .int (nI b), .int (nI (qwy W a b (qpls W a b s) (qpls W a b s).length)), .int (nI s), u]) ∧ g 131 6 = nI (qpls W a b s).length ∧ qleg W c a b (qpls W a b s) g ∧ ∀ k, k < 131 ∨ 135 < k → g k = h k) W.nS (by
      rintro s e g hs ⟨⟨u, rfl⟩, k6, hq, fr⟩
      have hg : qC g W := qC_of hh (fun k h1 h2 => fr k (by omega))
      have hlen := qpls_len W a b s
      have kS := hg.nS
      have kk := hg.km s (by omega)
      have hkm := hf.km s hs
      have hcb := hg.cab c (by omega)
      have hwl : qwy W a b (qpls W a b s) (qpls W a b s).length ≤ 999 := Nat.le_trans (qwy_in hab) hb
      rw [qpls_s]
      by_cases h1 : a < W.km s
      · by_cases h2 : W.km s ≤ b
        · have hp : qpf W a b s = true := by unfold qpf; simp [h1, h2]
          rw [if_pos hp]
          have hwy := qwy_last hf (b := b) hs h1 (Nat.le_refl (qpls W a b s).length)
          generalize hl : qpls W a b s = l at k6 hq hlen hwl hwy ⊢
          have hm : l.length < 6 := by omega
          have q1 : qC (zk_up g 132 l.length (nI s)) W := qC_of hg (fun k h1 h2 => qup_c (by omega))
          have e1 := qC_mts hf q1 (s := s) (by omega) (W.cab c) hcab
          have q2 : qC (zk_up (zk_up g 132 l.length (nI s)) 133 l.length (nI (qms W c s))) W := qC_of q1 (fun k h1 h2 => qup_c (by omega))
          have e1 : f_X10_mostThatServes SHP [.ref 1, .ref (19 + 3 * s), .int (nI (W.cab c))] (zk_up g 132 l.length (nI s)) = some (.int (nI (qms W c s)), zk_up g 132 l.length (nI s)) := e1
          have e2 := qC_leg hf q2 (c := c) (n := W.km s - qwy W a b l l.length) (m := l.length) hc (by omega) (by omega) (by rw [qv_n (by omega), qv_n (by omega)]; exact k6)
          have hkb : qwy W a b (l ++ [s]) (l.length + 1) = W.km s := qwy_k (by simp)
          have hka : qwy W a b (l ++ [s]) l.length = qwy W a b l l.length := qwy_app (Nat.le_refl _)
          generalize hz : qwy W a b l l.length = z at e2 hwl hwy hka ⊢
          refine ⟨[.ref 131, .ref 1, .ref (53 + c), .int (nI a), .int (nI b), .int (nI (W.km s)), .int (nI (s + 1)), .ref (19 + 3 * s)], zk_up (zk_up (zk_up (zk_up (zk_up g 132 l.length (nI s)) 133 l.length (nI (qms W c s))) 134 l.length (nI ((W.km s - z + 7) / 8))) 135 l.length (nI (qcn W c (W.km s - z)))) 131 6 (nI (l.length + 1)), ?_, ⟨.ref (19 + 3 * s), ?_⟩, ?_, ?_, ?_⟩
          · simp -implicitDefEqProofs (disch := omega) [zq_r1, ze_c, ze_li, zq_li1, ze_lr, zq_lr1, zq_lr2, ze_ll, zq_ll1, ze_u, zq_u1, ze_b, zq_b1, zq_b3, ze_fi, ze_fd, ze_fl, ze_fs, ze_gi, ze_gl, ze_gn, ze_gf, zq_gf1, ze_al, zq_al1, zq_al3, ze_aa, zq_aa1, zq_aa3, ze_ev0, ze_ev, zq_ev1, zq_ev3, ze_ca, zq_ca1, ze_xc, zq_xc1, zq_xc3, ze_ck, zq_ck1, ze_rc, zq_rc1, ze_c1, zq_c11, ze_c2, zq_c21, zq_c23, ze_and, zq_andt, zq_andf, ze_or, zq_ort, zq_orf, ze_not, zq_not1, ze_it, zq_itt, zq_itf, zq_itd, ze_skip, ze_brk, ze_cnt, ze_ret0, ze_seq, zq_seq0, zq_seq1, zq_seq2, zq_seq3, ze_si, zq_si1, ze_sr, zq_sr1, ze_inc, zq_inc1, ze_ok0, ze_okS, zq_oki, zq_okr, zq_oka, zq_okf, zq_h1, ze_pf, zq_pf1, zq_pf3, ze_pfo, zq_pfo1, zq_pfo21, zq_pfo31, zq_pfo41, ze_as, zq_as1, zq_as21, zq_as31, ze_aso, zq_aso1, zq_aso21, zq_aso31, zq_aso41, zq_aso51, ze_if, zq_ift, zq_iff, zq_ifd, ze_ret, zq_ret1, ze_pk0, ze_pk1, ze_sw, zq_sw1, ze_cps, zq_cps1, ze_one, zq_o1t, zq_o1f, zq_o20, zq_o22, zq_o21, zq_o23, zq_o30, zq_len1, zq_pad0, zq_padS, ze_sem, ze_fl0, ze_flI, ze_flR, ze_flA, ze_flL, zq_semi, zq_semv, zq_semb0, zq_semb1, List.getElem?_cons_zero, List.getElem?_cons_succ, List.set_cons_zero, List.set_cons_succ, List.length_cons, List.length_nil, List.cons_append, List.nil_append, q_outT, q_outF, q_inT, q_inF, qn_an, qn_ltt, qn_ltf, qn_let, qn_lef, qn_eqt, qn_eqf, qn_sub, nI_add, pk_mul, qn_div, qn_modN, qn_nn, qn_np, qn_pn, qn_nlt, qn_pln, qn_nle, qn_ple, qn_0, qn_1, qn_2, qn_3, qn_4, qn_5, qn_6, qn_7, qn_8, qn_9, qn_10, qn_11, qn_12, qn_13, qn_14, qn_15, qn_16, qn_19, qn_20, qn_21, qn_24, qn_27, qn_29, qn_30, qn_31, qn_32, qn_33, qn_39, qn_40, qn_42, qn_48, qn_50, qn_54, qn_57, qn_59, qn_60, qn_63, qn_72, qn_96, qn_97, qn_99, qn_100, qn_122, qn_128, qn_150, qn_192, qn_199, qn_200, qn_201, qn_236, qn_240, qn_300, qn_998, qn_999, qn_1000, qn_2000, qn_2230, qn_9999, qn_10000, qn_114602, qn_180392, qn_664272, qn_1000000, qn_3379448, qn_10256063, qv_s, qv_n, qo_0_0, qo_0_1, qo_0_2, qo_0_3, qo_0_4, qo_0_5, qo_0_6, qo_0_7, qp_0_7, qo_1_0, qo_1_1, qo_1_2, qo_1_3, qo_1_4, qo_1_5, qo_1_6, qo_1_7, qp_1_7, qo_1_8, qp_1_8, qo_1_9, qp_1_9, qo_1_10, qp_1_10, qo_1_11, qp_1_11, qo_1_12, qp_1_12, qo_1_13, qp_1_13, qo_6_0, qo_6_1, qo_6_2, qo_6_3, qo_6_4, qp_6_4, qo_6_5, qp_6_5, qo_11_0, qo_11_1, qo_11_2, qo_11_3, qp_11_3, qo_15_0, qo_15_1, qo_15_2, qo_15_3, qp_15_3, qo_129_0, qo_129_1, qp_129_1, qo_129_2, qp_129_2, qo_129_3, qp_129_3, qo_129_4, qp_129_4, qo_129_5, qp_129_5, qo_129_6, qp_129_6, qo_129_7, qp_129_7, qo_129_8, qp_129_8, qo_131_0, qo_131_1, qo_131_2, qo_131_3, qo_131_4, qo_131_5, qo_131_6, qp_131_6, qo_131_7, qo_131_8, qp_131_8, qo_131_9, qp_131_9, qo_131_10, qp_131_10, qo_152_0, qo_152_1, qo_155_0, qo_155_1, qo_155_2, qo_159_0, qo_159_1, qo_159_2, qo_159_3, qp_159_3, qo_159_4, qp_159_4, qf_site_0, qf_sitew_0, qf_site_1, qf_sitew_1, qf_site_2, qf_sitew_2, qf_site_3, qf_sitew_3, qf_site_4, qf_sitew_4, qf_site_5, qf_sitew_5, qf_site_6, qf_sitew_6, qf_site_7, qf_sitew_7, qf_site_8, qf_sitew_8, qf_site_9, qf_sitew_9, qf_site_10, qf_site_11, qf_plug_0, qf_plugw_0, qf_plug_1, qf_plugw_1, qf_plug_2, qf_plugw_2, qf_plug_3, qf_plugw_3, qf_plug_4, qf_plugw_4, qf_plug_5, qf_plugw_5, qf_car_0, qf_carw_0, qf_car_1, qf_carw_1, qf_car_2, qf_carw_2, qf_car_3, qf_carw_3, qf_car_4, qf_carw_4, qf_car_5, qf_carw_5, qf_car_6, qf_carw_6, qf_car_7, qf_carw_7, qf_car_8, qf_carw_8, qf_car_9, qf_carw_9, qf_car_10, qf_carw_10, qf_car_11, qf_carw_11, qf_car_12, qf_carw_12, qf_car_13, qf_carw_13, qf_car_14, qf_carw_14, qa_5, qa_7, qa_8, qa_9, qa_10, qa_12, qa_13, qa_14, qa_16, qa_17, qa_18, qa_130, qa_132, qa_133, qa_134, qa_135, qa_151, qa_153, qa_154, qa_156, qa_157, qa_158, qa_177, qa_queue, qa_splug, qa_arr, qa_chg, qa_best, qa_sco, qw_5, qw_7, qw_8, qw_9, qw_10, qw_12, qw_13, qw_14, qw_16, qw_17, qw_18, qw_130, qw_132, qw_133, qw_134, qw_135, qw_151, qw_153, qw_154, qw_156, qw_157, qw_158, qw_177, qw_queue, qw_splug, qw_arr, qw_chg, qw_best, qw_sco, qr_site, qr_plug, qr_car, qr_arr, qr_chg, qr_best, qr_sco, qs_site, qs_plug, qs_car, qc_0, qc_1, qc_6, qc_11, qc_15, qc_129, qc_131, qc_152, qc_155, qc_159, c_X4_layOutLegs_1, b_X4_layOutLegs_1, u_X4_layOutLegs_1, kS, kk, k6, hcb, e1, e2]
          · rw [List.length_append, List.length_singleton, hkb]
          · rw [List.length_append, List.length_singleton]; exact qv_s ⟨rfl, rfl⟩
          · intro k x hkx
            by_cases hkl : k < l.length
            · rw [List.getElem?_append_left hkl] at hkx
              obtain ⟨a1, a2, a3, a4⟩ := hq k x hkx
              have eL : qlL W a b (l ++ [s]) k = qlL W a b l k := by
                unfold qlL; rw [qwy_app (by omega), qwy_app (by omega)]
              unfold qLT at a3 ⊢
              unfold qLC at a4 ⊢
              rw [eL]
              refine ⟨?_, ?_, ?_, ?_⟩
              · simp (disch := omega) only [↓qv_n]; exact a1
              · simp (disch := omega) only [↓qv_n]; exact a2
              · simp (disch := omega) only [↓qv_n]; exact a3
              · simp (disch := omega) only [↓qv_n]; exact a4
            · have hkl2 : k = l.length := by
                have := (List.getElem?_eq_some_iff.1 hkx).1
                rw [List.length_append, List.length_singleton] at this
                omega
              subst hkl2
              have hxs : x = s := by
                rw [List.getElem?_append_right (Nat.le_refl _), Nat.sub_self] at hkx
                simpa using hkx.symm
              subst hxs
              have eL : qlL W a b (l ++ [x]) l.length = W.km x - z := by
                unfold qlL; rw [hkb, hka]
              unfold qLT qLC
              rw [eL]
              refine ⟨?_, ?_, ?_, ?_⟩
              · simp (disch := omega) only [↓qv_n, ↓qv_s]
              · simp (disch := omega) only [↓qv_n, ↓qv_s]
              · simp (disch := omega) only [↓qv_n, ↓qv_s]
              · simp (disch := omega) only [↓qv_n, ↓qv_s]
          · intro k hk
            rw [qup_c (by omega), qup_c (by omega), qup_c (by omega), qup_c (by omega), qup_c (by omega)]; exact fr k hk
        · have hp : ¬ qpf W a b s = true := by unfold qpf; simp [h1]; omega
          rw [if_neg hp]
          refine ⟨[.ref 131, .ref 1, .ref (53 + c), .int (nI a), .int (nI b), .int (nI (qwy W a b (qpls W a b s) (qpls W a b s).length)), .int (nI (s + 1)), .ref (19 + 3 * s)], g, ?_, ⟨_, rfl⟩, k6, hq, fr⟩
          simp -implicitDefEqProofs (disch := omega) [zq_r1, ze_c, ze_li, zq_li1, ze_lr, zq_lr1, zq_lr2, ze_ll, zq_ll1, ze_u, zq_u1, ze_b, zq_b1, zq_b3, ze_fi, ze_fd, ze_fl, ze_fs, ze_gi, ze_gl, ze_gn, ze_gf, zq_gf1, ze_al, zq_al1, zq_al3, ze_aa, zq_aa1, zq_aa3, ze_ev0, ze_ev, zq_ev1, zq_ev3, ze_ca, zq_ca1, ze_xc, zq_xc1, zq_xc3, ze_ck, zq_ck1, ze_rc, zq_rc1, ze_c1, zq_c11, ze_c2, zq_c21, zq_c23, ze_and, zq_andt, zq_andf, ze_or, zq_ort, zq_orf, ze_not, zq_not1, ze_it, zq_itt, zq_itf, zq_itd, ze_skip, ze_brk, ze_cnt, ze_ret0, ze_seq, zq_seq0, zq_seq1, zq_seq2, zq_seq3, ze_si, zq_si1, ze_sr, zq_sr1, ze_inc, zq_inc1, ze_ok0, ze_okS, zq_oki, zq_okr, zq_oka, zq_okf, zq_h1, ze_pf, zq_pf1, zq_pf3, ze_pfo, zq_pfo1, zq_pfo21, zq_pfo31, zq_pfo41, ze_as, zq_as1, zq_as21, zq_as31, ze_aso, zq_aso1, zq_aso21, zq_aso31, zq_aso41, zq_aso51, ze_if, zq_ift, zq_iff, zq_ifd, ze_ret, zq_ret1, ze_pk0, ze_pk1, ze_sw, zq_sw1, ze_cps, zq_cps1, ze_one, zq_o1t, zq_o1f, zq_o20, zq_o22, zq_o21, zq_o23, zq_o30, zq_len1, zq_pad0, zq_padS, ze_sem, ze_fl0, ze_flI, ze_flR, ze_flA, ze_flL, zq_semi, zq_semv, zq_semb0, zq_semb1, List.getElem?_cons_zero, List.getElem?_cons_succ, List.set_cons_zero, List.set_cons_succ, List.length_cons, List.length_nil, List.cons_append, List.nil_append, q_outT, q_outF, q_inT, q_inF, qn_an, qn_ltt, qn_ltf, qn_let, qn_lef, qn_eqt, qn_eqf, qn_sub, nI_add, pk_mul, qn_div, qn_modN, qn_nn, qn_np, qn_pn, qn_nlt, qn_pln, qn_nle, qn_ple, qn_0, qn_1, qn_2, qn_3, qn_4, qn_5, qn_6, qn_7, qn_8, qn_9, qn_10, qn_11, qn_12, qn_13, qn_14, qn_15, qn_16, qn_19, qn_20, qn_21, qn_24, qn_27, qn_29, qn_30, qn_31, qn_32, qn_33, qn_39, qn_40, qn_42, qn_48, qn_50, qn_54, qn_57, qn_59, qn_60, qn_63, qn_72, qn_96, qn_97, qn_99, qn_100, qn_122, qn_128, qn_150, qn_192, qn_199, qn_200, qn_201, qn_236, qn_240, qn_300, qn_998, qn_999, qn_1000, qn_2000, qn_2230, qn_9999, qn_10000, qn_114602, qn_180392, qn_664272, qn_1000000, qn_3379448, qn_10256063, qv_s, qv_n, qo_0_0, qo_0_1, qo_0_2, qo_0_3, qo_0_4, qo_0_5, qo_0_6, qo_0_7, qp_0_7, qo_1_0, qo_1_1, qo_1_2, qo_1_3, qo_1_4, qo_1_5, qo_1_6, qo_1_7, qp_1_7, qo_1_8, qp_1_8, qo_1_9, qp_1_9, qo_1_10, qp_1_10, qo_1_11, qp_1_11, qo_1_12, qp_1_12, qo_1_13, qp_1_13, qo_6_0, qo_6_1, qo_6_2, qo_6_3, qo_6_4, qp_6_4, qo_6_5, qp_6_5, qo_11_0, qo_11_1, qo_11_2, qo_11_3, qp_11_3, qo_15_0, qo_15_1, qo_15_2, qo_15_3, qp_15_3, qo_129_0, qo_129_1, qp_129_1, qo_129_2, qp_129_2, qo_129_3, qp_129_3, qo_129_4, qp_129_4, qo_129_5, qp_129_5, qo_129_6, qp_129_6, qo_129_7, qp_129_7, qo_129_8, qp_129_8, qo_131_0, qo_131_1, qo_131_2, qo_131_3, qo_131_4, qo_131_5, qo_131_6, qp_131_6, qo_131_7, qo_131_8, qp_131_8, qo_131_9, qp_131_9, qo_131_10, qp_131_10, qo_152_0, qo_152_1, qo_155_0, qo_155_1, qo_155_2, qo_159_0, qo_159_1, qo_159_2, qo_159_3, qp_159_3, qo_159_4, qp_159_4, qf_site_0, qf_sitew_0, qf_site_1, qf_sitew_1, qf_site_2, qf_sitew_2, qf_site_3, qf_sitew_3, qf_site_4, qf_sitew_4, qf_site_5, qf_sitew_5, qf_site_6, qf_sitew_6, qf_site_7, qf_sitew_7, qf_site_8, qf_sitew_8, qf_site_9, qf_sitew_9, qf_site_10, qf_site_11, qf_plug_0, qf_plugw_0, qf_plug_1, qf_plugw_1, qf_plug_2, qf_plugw_2, qf_plug_3, qf_plugw_3, qf_plug_4, qf_plugw_4, qf_plug_5, qf_plugw_5, qf_car_0, qf_carw_0, qf_car_1, qf_carw_1, qf_car_2, qf_carw_2, qf_car_3, qf_carw_3, qf_car_4, qf_carw_4, qf_car_5, qf_carw_5, qf_car_6, qf_carw_6, qf_car_7, qf_carw_7, qf_car_8, qf_carw_8, qf_car_9, qf_carw_9, qf_car_10, qf_carw_10, qf_car_11, qf_carw_11, qf_car_12, qf_carw_12, qf_car_13, qf_carw_13, qf_car_14, qf_carw_14, qa_5, qa_7, qa_8, qa_9, qa_10, qa_12, qa_13, qa_14, qa_16, qa_17, qa_18, qa_130, qa_132, qa_133, qa_134, qa_135, qa_151, qa_153, qa_154, qa_156, qa_157, qa_158, qa_177, qa_queue, qa_splug, qa_arr, qa_chg, qa_best, qa_sco, qw_5, qw_7, qw_8, qw_9, qw_10, qw_12, qw_13, qw_14, qw_16, qw_17, qw_18, qw_130, qw_132, qw_133, qw_134, qw_135, qw_151, qw_153, qw_154, qw_156, qw_157, qw_158, qw_177, qw_queue, qw_splug, qw_arr, qw_chg, qw_best, qw_sco, qr_site, qr_plug, qr_car, qr_arr, qr_chg, qr_best, qr_sco, qs_site, qs_plug, qs_car, qc_0, qc_1, qc_6, qc_11, qc_15, qc_129, qc_131, qc_152, qc_155, qc_159, c_X4_layOutLegs_1, b_X4_layOutLegs_1, u_X4_layOutLegs_1, kS, kk]
      · have hp : ¬ qpf W a b s = true := by unfold qpf; simp [h1]
        rw [if_neg hp]
        refine ⟨[.ref 131, .ref 1, .ref (53 + c), .int (nI a), .int (nI b), .int (nI (qwy W a b (qpls W a b s) (qpls W a b s).length)), .int (nI (s + 1)), .ref (19 + 3 * s)], g, ?_, ⟨_, rfl⟩, k6, hq, fr⟩
        simp -implicitDefEqProofs (disch := omega) [zq_r1, ze_c, ze_li, zq_li1, ze_lr, zq_lr1, zq_lr2, ze_ll, zq_ll1, ze_u, zq_u1, ze_b, zq_b1, zq_b3, ze_fi, ze_fd, ze_fl, ze_fs, ze_gi, ze_gl, ze_gn, ze_gf, zq_gf1, ze_al, zq_al1, zq_al3, ze_aa, zq_aa1, zq_aa3, ze_ev0, ze_ev, zq_ev1, zq_ev3, ze_ca, zq_ca1, ze_xc, zq_xc1, zq_xc3, ze_ck, zq_ck1, ze_rc, zq_rc1, ze_c1, zq_c11, ze_c2, zq_c21, zq_c23, ze_and, zq_andt, zq_andf, ze_or, zq_ort, zq_orf, ze_not, zq_not1, ze_it, zq_itt, zq_itf, zq_itd, ze_skip, ze_brk, ze_cnt, ze_ret0, ze_seq, zq_seq0, zq_seq1, zq_seq2, zq_seq3, ze_si, zq_si1, ze_sr, zq_sr1, ze_inc, zq_inc1, ze_ok0, ze_okS, zq_oki, zq_okr, zq_oka, zq_okf, zq_h1, ze_pf, zq_pf1, zq_pf3, ze_pfo, zq_pfo1, zq_pfo21, zq_pfo31, zq_pfo41, ze_as, zq_as1, zq_as21, zq_as31, ze_aso, zq_aso1, zq_aso21, zq_aso31, zq_aso41, zq_aso51, ze_if, zq_ift, zq_iff, zq_ifd, ze_ret, zq_ret1, ze_pk0, ze_pk1, ze_sw, zq_sw1, ze_cps, zq_cps1, ze_one, zq_o1t, zq_o1f, zq_o20, zq_o22, zq_o21, zq_o23, zq_o30, zq_len1, zq_pad0, zq_padS, ze_sem, ze_fl0, ze_flI, ze_flR, ze_flA, ze_flL, zq_semi, zq_semv, zq_semb0, zq_semb1, List.getElem?_cons_zero, List.getElem?_cons_succ, List.set_cons_zero, List.set_cons_succ, List.length_cons, List.length_nil, List.cons_append, List.nil_append, q_outT, q_outF, q_inT, q_inF, qn_an, qn_ltt, qn_ltf, qn_let, qn_lef, qn_eqt, qn_eqf, qn_sub, nI_add, pk_mul, qn_div, qn_modN, qn_nn, qn_np, qn_pn, qn_nlt, qn_pln, qn_nle, qn_ple, qn_0, qn_1, qn_2, qn_3, qn_4, qn_5, qn_6, qn_7, qn_8, qn_9, qn_10, qn_11, qn_12, qn_13, qn_14, qn_15, qn_16, qn_19, qn_20, qn_21, qn_24, qn_27, qn_29, qn_30, qn_31, qn_32, qn_33, qn_39, qn_40, qn_42, qn_48, qn_50, qn_54, qn_57, qn_59, qn_60, qn_63, qn_72, qn_96, qn_97, qn_99, qn_100, qn_122, qn_128, qn_150, qn_192, qn_199, qn_200, qn_201, qn_236, qn_240, qn_300, qn_998, qn_999, qn_1000, qn_2000, qn_2230, qn_9999, qn_10000, qn_114602, qn_180392, qn_664272, qn_1000000, qn_3379448, qn_10256063, qv_s, qv_n, qo_0_0, qo_0_1, qo_0_2, qo_0_3, qo_0_4, qo_0_5, qo_0_6, qo_0_7, qp_0_7, qo_1_0, qo_1_1, qo_1_2, qo_1_3, qo_1_4, qo_1_5, qo_1_6, qo_1_7, qp_1_7, qo_1_8, qp_1_8, qo_1_9, qp_1_9, qo_1_10, qp_1_10, qo_1_11, qp_1_11, qo_1_12, qp_1_12, qo_1_13, qp_1_13, qo_6_0, qo_6_1, qo_6_2, qo_6_3, qo_6_4, qp_6_4, qo_6_5, qp_6_5, qo_11_0, qo_11_1, qo_11_2, qo_11_3, qp_11_3, qo_15_0, qo_15_1, qo_15_2, qo_15_3, qp_15_3, qo_129_0, qo_129_1, qp_129_1, qo_129_2, qp_129_2, qo_129_3, qp_129_3, qo_129_4, qp_129_4, qo_129_5, qp_129_5, qo_129_6, qp_129_6, qo_129_7, qp_129_7, qo_129_8, qp_129_8, qo_131_0, qo_131_1, qo_131_2, qo_131_3, qo_131_4, qo_131_5, qo_131_6, qp_131_6, qo_131_7, qo_131_8, qp_131_8, qo_131_9, qp_131_9, qo_131_10, qp_131_10, qo_152_0, qo_152_1, qo_155_0, qo_155_1, qo_155_2, qo_159_0, qo_159_1, qo_159_2, qo_159_3, qp_159_3, qo_159_4, qp_159_4, qf_site_0, qf_sitew_0, qf_site_1, qf_sitew_1, qf_site_2, qf_sitew_2, qf_site_3, qf_sitew_3, qf_site_4, qf_sitew_4, qf_site_5, qf_sitew_5, qf_site_6, qf_sitew_6, qf_site_7, qf_sitew_7, qf_site_8, qf_sitew_8, qf_site_9, qf_sitew_9, qf_site_10, qf_site_11, qf_plug_0, qf_plugw_0, qf_plug_1, qf_plugw_1, qf_plug_2, qf_plugw_2, qf_plug_3, qf_plugw_3, qf_plug_4, qf_plugw_4, qf_plug_5, qf_plugw_5, qf_car_0, qf_carw_0, qf_car_1, qf_carw_1, qf_car_2, qf_carw_2, qf_car_3, qf_carw_3, qf_car_4, qf_carw_4, qf_car_5, qf_carw_5, qf_car_6, qf_carw_6, qf_car_7, qf_carw_7, qf_car_8, qf_carw_8, qf_car_9, qf_carw_9, qf_car_10, qf_carw_10, qf_car_11, qf_carw_11, qf_car_12, qf_carw_12, qf_car_13, qf_carw_13, qf_car_14, qf_carw_14, qa_5, qa_7, qa_8, qa_9, qa_10, qa_12, qa_13, qa_14, qa_16, qa_17, qa_18, qa_130, qa_132, qa_133, qa_134, qa_135, qa_151, qa_153, qa_154, qa_156, qa_157, qa_158, qa_177, qa_queue, qa_splug, qa_arr, qa_chg, qa_best, qa_sco, qw_5, qw_7, qw_8, qw_9, qw_10, qw_12, qw_13, qw_14, qw_16, qw_17, qw_18, qw_130, qw_132, qw_133, qw_134, qw_135, qw_151, qw_153, qw_154, qw_156, qw_157, qw_158, qw_177, qw_queue, qw_splug, qw_arr, qw_chg, qw_best, qw_sco, qr_site, qr_plug, qr_car, qr_arr, qr_chg, qr_best, qr_sco, qs_site, qs_plug, qs_car, qc_0, qc_1, qc_6, qc_11, qc_15, qc_129, qc_131, qc_152, qc_155, qc_159, c_X4_layOutLegs_1, b_X4_layOutLegs_1, u_X4_layOutLegs_1, kS, kk]) (by
      rintro e g ⟨⟨u, rfl⟩, k6, hq, fr⟩
      have kS : g 1 7 = _ := Eq.trans (by rw [fr 1 (by omega)]; try rfl) (hh.nS)
      simp -implicitDefEqProofs (disch := omega) [zq_r1, ze_c, ze_li, zq_li1, ze_lr, zq_lr1, zq_lr2, ze_ll, zq_ll1, ze_u, zq_u1, ze_b, zq_b1, zq_b3, ze_fi, ze_fd, ze_fl, ze_fs, ze_gi, ze_gl, ze_gn, ze_gf, zq_gf1, ze_al, zq_al1, zq_al3, ze_aa, zq_aa1, zq_aa3, ze_ev0, ze_ev, zq_ev1, zq_ev3, ze_ca, zq_ca1, ze_xc, zq_xc1, zq_xc3, ze_ck, zq_ck1, ze_rc, zq_rc1, ze_c1, zq_c11, ze_c2, zq_c21, zq_c23, ze_and, zq_andt, zq_andf, ze_or, zq_ort, zq_orf, ze_not, zq_not1, ze_it, zq_itt, zq_itf, zq_itd, ze_skip, ze_brk, ze_cnt, ze_ret0, ze_seq, zq_seq0, zq_seq1, zq_seq2, zq_seq3, ze_si, zq_si1, ze_sr, zq_sr1, ze_inc, zq_inc1, ze_ok0, ze_okS, zq_oki, zq_okr, zq_oka, zq_okf, zq_h1, ze_pf, zq_pf1, zq_pf3, ze_pfo, zq_pfo1, zq_pfo21, zq_pfo31, zq_pfo41, ze_as, zq_as1, zq_as21, zq_as31, ze_aso, zq_aso1, zq_aso21, zq_aso31, zq_aso41, zq_aso51, ze_if, zq_ift, zq_iff, zq_ifd, ze_ret, zq_ret1, ze_pk0, ze_pk1, ze_sw, zq_sw1, ze_cps, zq_cps1, ze_one, zq_o1t, zq_o1f, zq_o20, zq_o22, zq_o21, zq_o23, zq_o30, zq_len1, zq_pad0, zq_padS, ze_sem, ze_fl0, ze_flI, ze_flR, ze_flA, ze_flL, zq_semi, zq_semv, zq_semb0, zq_semb1, List.getElem?_cons_zero, List.getElem?_cons_succ, List.set_cons_zero, List.set_cons_succ, List.length_cons, List.length_nil, List.cons_append, List.nil_append, q_outT, q_outF, q_inT, q_inF, qn_an, qn_ltt, qn_ltf, qn_let, qn_lef, qn_eqt, qn_eqf, qn_sub, nI_add, pk_mul, qn_div, qn_modN, qn_nn, qn_np, qn_pn, qn_nlt, qn_pln, qn_nle, qn_ple, qn_0, qn_1, qn_2, qn_3, qn_4, qn_5, qn_6, qn_7, qn_8, qn_9, qn_10, qn_11, qn_12, qn_13, qn_14, qn_15, qn_16, qn_19, qn_20, qn_21, qn_24, qn_27, qn_29, qn_30, qn_31, qn_32, qn_33, qn_39, qn_40, qn_42, qn_48, qn_50, qn_54, qn_57, qn_59, qn_60, qn_63, qn_72, qn_96, qn_97, qn_99, qn_100, qn_122, qn_128, qn_150, qn_192, qn_199, qn_200, qn_201, qn_236, qn_240, qn_300, qn_998, qn_999, qn_1000, qn_2000, qn_2230, qn_9999, qn_10000, qn_114602, qn_180392, qn_664272, qn_1000000, qn_3379448, qn_10256063, qv_s, qv_n, qo_0_0, qo_0_1, qo_0_2, qo_0_3, qo_0_4, qo_0_5, qo_0_6, qo_0_7, qp_0_7, qo_1_0, qo_1_1, qo_1_2, qo_1_3, qo_1_4, qo_1_5, qo_1_6, qo_1_7, qp_1_7, qo_1_8, qp_1_8, qo_1_9, qp_1_9, qo_1_10, qp_1_10, qo_1_11, qp_1_11, qo_1_12, qp_1_12, qo_1_13, qp_1_13, qo_6_0, qo_6_1, qo_6_2, qo_6_3, qo_6_4, qp_6_4, qo_6_5, qp_6_5, qo_11_0, qo_11_1, qo_11_2, qo_11_3, qp_11_3, qo_15_0, qo_15_1, qo_15_2, qo_15_3, qp_15_3, qo_129_0, qo_129_1, qp_129_1, qo_129_2, qp_129_2, qo_129_3, qp_129_3, qo_129_4, qp_129_4, qo_129_5, qp_129_5, qo_129_6, qp_129_6, qo_129_7, qp_129_7, qo_129_8, qp_129_8, qo_131_0, qo_131_1, qo_131_2, qo_131_3, qo_131_4, qo_131_5, qo_131_6, qp_131_6, qo_131_7, qo_131_8, qp_131_8, qo_131_9, qp_131_9, qo_131_10, qp_131_10, qo_152_0, qo_152_1, qo_155_0, qo_155_1, qo_155_2, qo_159_0, qo_159_1, qo_159_2, qo_159_3, qp_159_3, qo_159_4, qp_159_4, qf_site_0, qf_sitew_0, qf_site_1, qf_sitew_1, qf_site_2, qf_sitew_2, qf_site_3, qf_sitew_3, qf_site_4, qf_sitew_4, qf_site_5, qf_sitew_5, qf_site_6, qf_sitew_6, qf_site_7, qf_sitew_7, qf_site_8, qf_sitew_8, qf_site_9, qf_sitew_9, qf_site_10, qf_site_11, qf_plug_0, qf_plugw_0, qf_plug_1, qf_plugw_1, qf_plug_2, qf_plugw_2, qf_plug_3, qf_plugw_3, qf_plug_4, qf_plugw_4, qf_plug_5, qf_plugw_5, qf_car_0, qf_carw_0, qf_car_1, qf_carw_1, qf_car_2, qf_carw_2, qf_car_3, qf_carw_3, qf_car_4, qf_carw_4, qf_car_5, qf_carw_5, qf_car_6, qf_carw_6, qf_car_7, qf_carw_7, qf_car_8, qf_carw_8, qf_car_9, qf_carw_9, qf_car_10, qf_carw_10, qf_car_11, qf_carw_11, qf_car_12, qf_carw_12, qf_car_13, qf_carw_13, qf_car_14, qf_carw_14, qa_5, qa_7, qa_8, qa_9, qa_10, qa_12, qa_13, qa_14, qa_16, qa_17, qa_18, qa_130, qa_132, qa_133, qa_134, qa_135, qa_151, qa_153, qa_154, qa_156, qa_157, qa_158, qa_177, qa_queue, qa_splug, qa_arr, qa_chg, qa_best, qa_sco, qw_5, qw_7, qw_8, qw_9, qw_10, qw_12, qw_13, qw_14, qw_16, qw_17, qw_18, qw_130, qw_132, qw_133, qw_134, qw_135, qw_151, qw_153, qw_154, qw_156, qw_157, qw_158, qw_177, qw_queue, qw_splug, qw_arr, qw_chg, qw_best, qw_sco, qr_site, qr_plug, qr_car, qr_arr, qr_chg, qr_best, qr_sco, qs_site, qs_plug, qs_car, qc_0, qc_1, qc_6, qc_11, qc_15, qc_129, qc_131, qc_152, qc_155, qc_159, c_X4_layOutLegs_1, b_X4_layOutLegs_1, u_X4_layOutLegs_1, kS]) (f := 1000) (e := [.ref 131, .ref 1, .ref (53 + c), .int (nI a), .int (nI b), .int (nI a), .int (nI 0), .float 0]) (h := zk_up h 131 6 (nI 0)) (by omega) ⟨⟨_, rfl⟩, qv_s ⟨rfl, rfl⟩, fun k x hk => by simp [qpls] at hk, fun k hk => qup_c (by omega)⟩
  obtain ⟨e1, g, z1, ⟨u, rfl⟩, k6, hq, fr⟩ := l1
  have hlen := qpls_len W a b W.nS
  have hwl : qwy W a b (qpls W a b W.nS) (qpls W a b W.nS).length ≤ b := qwy_in hab
  have hg : qC g W := qC_of hh (fun k h1 h2 => fr k (by omega))
  have e2 := qC_leg hf hg (c := c) (n := b - qwy W a b (qpls W a b W.nS) (qpls W a b W.nS).length) (m := (qpls W a b W.nS).length) hc (by omega) (by omega) k6
  have eL : qlL W a b (qpls W a b W.nS) (qpls W a b W.nS).length = b - qwy W a b (qpls W a b W.nS) (qpls W a b W.nS).length := by
    unfold qlL; rw [qwy_n]
  have eL1 : qLT W a b (qpls W a b W.nS) (qpls W a b W.nS).length = (b - qwy W a b (qpls W a b W.nS) (qpls W a b W.nS).length + 7) / 8 := by unfold qLT; rw [eL]
  have eL2 : qLC W c a b (qpls W a b W.nS) (qpls W a b W.nS).length = qcn W c (b - qwy W a b (qpls W a b W.nS) (qpls W a b W.nS).length) := by unfold qLC; rw [eL]
  rw [eL1, eL2]
  generalize hl : qpls W a b W.nS = l at k6 hq hlen hwl e2 z1 eL ⊢
  generalize hz : qwy W a b l l.length = z at e2 hwl z1 eL ⊢
  refine ⟨zk_up (zk_up g 134 l.length (nI ((b - z + 7) / 8))) 135 l.length (nI (qcn W c (b - z))), ?_, ?_, ?_, ?_, ?_, ?_⟩
  · simp -implicitDefEqProofs (disch := omega) [zq_r1, ze_c, ze_li, zq_li1, ze_lr, zq_lr1, zq_lr2, ze_ll, zq_ll1, ze_u, zq_u1, ze_b, zq_b1, zq_b3, ze_fi, ze_fd, ze_fl, ze_fs, ze_gi, ze_gl, ze_gn, ze_gf, zq_gf1, ze_al, zq_al1, zq_al3, ze_aa, zq_aa1, zq_aa3, ze_ev0, ze_ev, zq_ev1, zq_ev3, ze_ca, zq_ca1, ze_xc, zq_xc1, zq_xc3, ze_ck, zq_ck1, ze_rc, zq_rc1, ze_c1, zq_c11, ze_c2, zq_c21, zq_c23, ze_and, zq_andt, zq_andf, ze_or, zq_ort, zq_orf, ze_not, zq_not1, ze_it, zq_itt, zq_itf, zq_itd, ze_skip, ze_brk, ze_cnt, ze_ret0, ze_seq, zq_seq0, zq_seq1, zq_seq2, zq_seq3, ze_si, zq_si1, ze_sr, zq_sr1, ze_inc, zq_inc1, ze_ok0, ze_okS, zq_oki, zq_okr, zq_oka, zq_okf, zq_h1, ze_pf, zq_pf1, zq_pf3, ze_pfo, zq_pfo1, zq_pfo21, zq_pfo31, zq_pfo41, ze_as, zq_as1, zq_as21, zq_as31, ze_aso, zq_aso1, zq_aso21, zq_aso31, zq_aso41, zq_aso51, ze_if, zq_ift, zq_iff, zq_ifd, ze_ret, zq_ret1, ze_pk0, ze_pk1, ze_sw, zq_sw1, ze_cps, zq_cps1, ze_one, zq_o1t, zq_o1f, zq_o20, zq_o22, zq_o21, zq_o23, zq_o30, zq_len1, zq_pad0, zq_padS, ze_sem, ze_fl0, ze_flI, ze_flR, ze_flA, ze_flL, zq_semi, zq_semv, zq_semb0, zq_semb1, List.getElem?_cons_zero, List.getElem?_cons_succ, List.set_cons_zero, List.set_cons_succ, List.length_cons, List.length_nil, List.cons_append, List.nil_append, q_outT, q_outF, q_inT, q_inF, qn_an, qn_ltt, qn_ltf, qn_let, qn_lef, qn_eqt, qn_eqf, qn_sub, nI_add, pk_mul, qn_div, qn_modN, qn_nn, qn_np, qn_pn, qn_nlt, qn_pln, qn_nle, qn_ple, qn_0, qn_1, qn_2, qn_3, qn_4, qn_5, qn_6, qn_7, qn_8, qn_9, qn_10, qn_11, qn_12, qn_13, qn_14, qn_15, qn_16, qn_19, qn_20, qn_21, qn_24, qn_27, qn_29, qn_30, qn_31, qn_32, qn_33, qn_39, qn_40, qn_42, qn_48, qn_50, qn_54, qn_57, qn_59, qn_60, qn_63, qn_72, qn_96, qn_97, qn_99, qn_100, qn_122, qn_128, qn_150, qn_192, qn_199, qn_200, qn_201, qn_236, qn_240, qn_300, qn_998, qn_999, qn_1000, qn_2000, qn_2230, qn_9999, qn_10000, qn_114602, qn_180392, qn_664272, qn_1000000, qn_3379448, qn_10256063, qv_s, qv_n, qo_0_0, qo_0_1, qo_0_2, qo_0_3, qo_0_4, qo_0_5, qo_0_6, qo_0_7, qp_0_7, qo_1_0, qo_1_1, qo_1_2, qo_1_3, qo_1_4, qo_1_5, qo_1_6, qo_1_7, qp_1_7, qo_1_8, qp_1_8, qo_1_9, qp_1_9, qo_1_10, qp_1_10, qo_1_11, qp_1_11, qo_1_12, qp_1_12, qo_1_13, qp_1_13, qo_6_0, qo_6_1, qo_6_2, qo_6_3, qo_6_4, qp_6_4, qo_6_5, qp_6_5, qo_11_0, qo_11_1, qo_11_2, qo_11_3, qp_11_3, qo_15_0, qo_15_1, qo_15_2, qo_15_3, qp_15_3, qo_129_0, qo_129_1, qp_129_1, qo_129_2, qp_129_2, qo_129_3, qp_129_3, qo_129_4, qp_129_4, qo_129_5, qp_129_5, qo_129_6, qp_129_6, qo_129_7, qp_129_7, qo_129_8, qp_129_8, qo_131_0, qo_131_1, qo_131_2, qo_131_3, qo_131_4, qo_131_5, qo_131_6, qp_131_6, qo_131_7, qo_131_8, qp_131_8, qo_131_9, qp_131_9, qo_131_10, qp_131_10, qo_152_0, qo_152_1, qo_155_0, qo_155_1, qo_155_2, qo_159_0, qo_159_1, qo_159_2, qo_159_3, qp_159_3, qo_159_4, qp_159_4, qf_site_0, qf_sitew_0, qf_site_1, qf_sitew_1, qf_site_2, qf_sitew_2, qf_site_3, qf_sitew_3, qf_site_4, qf_sitew_4, qf_site_5, qf_sitew_5, qf_site_6, qf_sitew_6, qf_site_7, qf_sitew_7, qf_site_8, qf_sitew_8, qf_site_9, qf_sitew_9, qf_site_10, qf_site_11, qf_plug_0, qf_plugw_0, qf_plug_1, qf_plugw_1, qf_plug_2, qf_plugw_2, qf_plug_3, qf_plugw_3, qf_plug_4, qf_plugw_4, qf_plug_5, qf_plugw_5, qf_car_0, qf_carw_0, qf_car_1, qf_carw_1, qf_car_2, qf_carw_2, qf_car_3, qf_carw_3, qf_car_4, qf_carw_4, qf_car_5, qf_carw_5, qf_car_6, qf_carw_6, qf_car_7, qf_carw_7, qf_car_8, qf_carw_8, qf_car_9, qf_carw_9, qf_car_10, qf_carw_10, qf_car_11, qf_carw_11, qf_car_12, qf_carw_12, qf_car_13, qf_carw_13, qf_car_14, qf_carw_14, qa_5, qa_7, qa_8, qa_9, qa_10, qa_12, qa_13, qa_14, qa_16, qa_17, qa_18, qa_130, qa_132, qa_133, qa_134, qa_135, qa_151, qa_153, qa_154, qa_156, qa_157, qa_158, qa_177, qa_queue, qa_splug, qa_arr, qa_chg, qa_best, qa_sco, qw_5, qw_7, qw_8, qw_9, qw_10, qw_12, qw_13, qw_14, qw_16, qw_17, qw_18, qw_130, qw_132, qw_133, qw_134, qw_135, qw_151, qw_153, qw_154, qw_156, qw_157, qw_158, qw_177, qw_queue, qw_splug, qw_arr, qw_chg, qw_best, qw_sco, qr_site, qr_plug, qr_car, qr_arr, qr_chg, qr_best, qr_sco, qs_site, qs_plug, qs_car, qc_0, qc_1, qc_6, qc_11, qc_15, qc_129, qc_131, qc_152, qc_155, qc_159, f_X4_layOutLegs, b_X4_layOutLegs, z1, e2]
  · rw [qv_n (by omega), qv_n (by omega)]; exact k6
  · intro k x hkx
    have hkl := (List.getElem?_eq_some_iff.1 hkx).1
    obtain ⟨a1, a2, a3, a4⟩ := hq k x hkx
    refine ⟨?_, ?_, ?_, ?_⟩
    · simp (disch := omega) only [↓qv_n]; exact a1
    · simp (disch := omega) only [↓qv_n]; exact a2
    · simp (disch := omega) only [↓qv_n]; exact a3
    · simp (disch := omega) only [↓qv_n]; exact a4
  · simp (disch := omega) only [↓qv_n, ↓qv_s]
  · simp (disch := omega) only [↓qv_s]
  · intro k hk; rw [qup_c (by omega), qup_c (by omega)]; exact fr k hk
