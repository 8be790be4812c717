/-! gainOf -/
def qmn (x y : Int32) : Int32 := if x < y then x else y
theorem qmn_c (x y : Int32) : (if y < x then y else x) = qmn x y := by
  unfold qmn
  by_cases h1 : y < x <;> by_cases h2 : x < y <;> simp only [h1, h2, if_true, if_false]
  · exact absurd (Int32.lt_trans h1 h2) (Int32.lt_irrefl)
  · have e1 : ¬ y.toInt < x.toInt := fun z => h1 (Int32.lt_iff_toInt_lt.2 z)
    have e2 : ¬ x.toInt < y.toInt := fun z => h2 (Int32.lt_iff_toInt_lt.2 z)
    exact Int32.toInt_inj.1 (by omega)
def qg1 (b c g : Int32) : Int32 := if 19 * b ≤ 20 * c then g / 4 else if 4 * b ≤ 5 * c then g / 2 else g
def qg2 (g : Int32) : Int32 := if g < 1 then 1 else g
def qgm (b r k m c : Int32) : Int32 := qmn (qg2 (qg1 b c (qmn r m * (100 - k) / 100))) (b - c)
theorem q_gC {h : zk_H} {c : Nat} (hc : c < 12) (m x : Int32) : f_X10_gainOf SHP [.ref 1, .ref (53 + c), .int m, .int x] h = some (.int (qgm (h (53 + c) 0) (h (53 + c) 2) (h 1 10) m x), h) := by
  by_cases h1 : 19 * h (53 + c) 0 ≤ 20 * x <;> by_cases h2 : 4 * h (53 + c) 0 ≤ 5 * x <;> simp [f_X10_gainOf, b_X10_gainOf, qf_car_0 c hc, qf_car_2 c hc, qo_1_10, h1, h2, qgm, qg1, qg2, qmn_c, qc_0, qc_1, qc_178, zk_sem, zk_flat, zk_env, Value.category, zk_ret, zk_ret0, zk_it, zk_or, zk_and, zk_not, zk_c1, zk_c2, zk_li, zk_lr, zk_ll, zk_c, zk_u, zk_b, zk_fi, zk_fd, zk_gi, zk_gn, zk_gl, zk_fl, zk_fs, zk_gf, zk_al, zk_aa, zk_ca, zk_ck, zk_rc, zk_ev, zk_seq, zk_skip, zk_if, zk_si, zk_sr, zk_inc, zk_okS, zk_pf, zk_pfo, zk_as, zk_aso, zk_xc, zk_rok, narrow]
theorem q_gR {h : zk_H} {c p : Nat} (hc : c < 12) (hp : p < 16) (x : Int32) : f_X12_gainOf SHP [.ref 178, .int (nI c), .int (nI p), .int x] h = some (.int (qgm (h 183 (16 * c)) (h 183 (16 * c + 2)) (h 179 7) (h 182 (6 * p + 1)) x), h) := by
  have a7 : zk_rdA SHP (.ref 179) (.int 7) h = some (.int (h 179 7)) := qa_179 7 (by decide) h
  have e0 : (6 : Int32) * nI p + 1 = nI (6 * p + 1) := by
    rw [show (6 : Int32) = nI 6 from rfl, pk_mul, nI_1]
  have e : zk_rdA SHP (.ref 182) (.int (nI (6 * p + 1))) h = some (.int (h 182 (6 * p + 1))) := qa_182 _ (by omega) h
  generalize hb : h 183 (16 * c) = b
  generalize hr : h 183 (16 * c + 2) = r
  generalize hm : h 182 (6 * p + 1) = m at e
  generalize hk : h 179 7 = k at a7
  by_cases h0 : r < m <;> by_cases h1 : 19 * b ≤ 20 * x <;> by_cases h2 : 4 * b ≤ 5 * x <;> simp only [f_X12_gainOf, qgm, qg1, qmn, h0, h1, h2, if_true, if_false]
  all_goals
    generalize hg : qg2 _ = g2
    unfold qg2 at hg
    split at hg <;> subst hg <;> rename_i h3 <;> simp [b_X12_gainOf, q_get0 c hc, q_get2 c hc, qo_178_0, qo_178_3, a7, e0, e, hb, hr, h0, h1, h2, h3, qc_0, qc_1, qc_178, zk_sem, zk_flat, zk_env, Value.category, zk_ret, zk_ret0, zk_it, zk_or, zk_and, zk_not, zk_c1, zk_c2, zk_li, zk_lr, zk_ll, zk_c, zk_u, zk_b, zk_fi, zk_fd, zk_gi, zk_gn, zk_gl, zk_fl, zk_fs, zk_gf, zk_al, zk_aa, zk_ca, zk_ck, zk_rc, zk_ev, zk_seq, zk_skip, zk_if, zk_si, zk_sr, zk_inc, zk_okS, zk_pf, zk_pfo, zk_as, zk_aso, zk_xc, zk_rok, narrow]
    all_goals (split <;> simp_all)
