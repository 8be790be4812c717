/-! numbers: every int a natural one -/
theorem qn_ltt {a b : Nat} (h : a < b) (hb : b < 2147483648) : (nI a < nI b) = True := eq_true (nI_lt h hb)
theorem qn_ltf {a b : Nat} (h : b ≤ a) (ha : a < 2147483648) : (nI a < nI b) = False := eq_false (nI_nlt h ha)
theorem qn_let {a b : Nat} (h : a ≤ b) (hb : b < 2147483648) : (nI a ≤ nI b) = True := eq_true (nI_le h hb)
theorem qn_lef {a b : Nat} (h : b < a) (ha : a < 2147483648) : (nI a ≤ nI b) = False := eq_false (nI_ge h ha)
theorem qn_eqt {a b : Nat} (h : a = b) : (nI a = nI b) = True := eq_true (by rw [h])
theorem qn_eqf {a b : Nat} (h : a ≠ b) (ha : a < 2147483648) (hb : b < 2147483648) : (nI a = nI b) = False := eq_false (fun e => h ((nI_eq ha hb).1 e))
theorem qn_sub {a b : Nat} (h : b ≤ a) : nI a - nI b = nI (a - b) := pk_sub h
theorem qn_div {a d : Nat} (h0 : 0 < d) (ha : a < 2147483648) (hd : d < 2147483648) : nI a / nI d = nI (a / d) := pk_div ha h0 hd
theorem qn_rem {a d : Nat} (h0 : 0 < d) (ha : a < 2147483648) (hd : d < 2147483648) : nI a - nI a / nI d * nI d = nI (a % d) := pk_rem ha h0 hd
theorem qn_remv {a d : Nat} (h0 : 0 < d) (ha : a < 2147483648) (hd : d < 2147483648) : nI a - nI (a / d) * nI d = nI (a % d) := by
  rw [← pk_div ha h0 hd]; exact pk_rem ha h0 hd
theorem qn_modN (a d : Nat) : a - a / d * d = a % d := by
  have := Nat.div_add_mod' a d
  omega
theorem qn_negI {b : Nat} (hb : b < 1073741824) : (- nI b).toInt = - (b : Int) := by
  rw [← Int32.zero_sub, show (0 : Int32) = nI 0 from rfl, pk_sub_toInt (by omega) hb]
  omega
theorem qn_np {a b : Nat} (hb : 0 < b) (hb2 : b < 1073741824) (ha : a < 2147483648) : (- nI b = nI a) = False := by
  refine eq_false (fun e => ?_)
  have e1 := congrArg Int32.toInt e
  rw [qn_negI hb2, nI_toInt ha] at e1
  omega
theorem qn_pn {a b : Nat} (hb : 0 < b) (hb2 : b < 1073741824) (ha : a < 2147483648) : (nI a = - nI b) = False := by
  refine eq_false (fun e => ?_)
  have e1 := congrArg Int32.toInt e
  rw [qn_negI hb2, nI_toInt ha] at e1
  omega
theorem qn_nlt {a b : Nat} (hb : 0 < b) (hb2 : b < 1073741824) (ha : a < 2147483648) : (- nI b < nI a) = True := by
  refine eq_true ?_
  rw [Int32.lt_iff_toInt_lt, qn_negI hb2, nI_toInt ha]
  omega
theorem qn_pln {a b : Nat} (hb2 : b < 1073741824) (ha : a < 2147483648) : (nI a < - nI b) = False := by
  refine eq_false ?_
  rw [Int32.lt_iff_toInt_lt, qn_negI hb2, nI_toInt ha]
  omega
theorem qn_nle {a b : Nat} (hb2 : b < 1073741824) (ha : a < 2147483648) : (- nI b ≤ nI a) = True := by
  refine eq_true ?_
  rw [Int32.le_iff_toInt_le, qn_negI hb2, nI_toInt ha]
  omega
theorem qn_ple {a b : Nat} (hb : 0 < b) (hb2 : b < 1073741824) (ha : a < 2147483648) : (nI a ≤ - nI b) = False := by
  refine eq_false ?_
  rw [Int32.le_iff_toInt_le, qn_negI hb2, nI_toInt ha]
  omega
theorem qn_neg0 {b : Nat} (hb : 0 < b) (hb2 : b < 1073741824) : (- nI b < nI 0) = True := qn_nlt hb hb2 (by omega)
theorem qn_nn {a b : Nat} (h : a < b) : nI a - nI b = - nI (b - a) := by
  rw [← qn_sub (a := b) (b := a) (by omega), Int32.neg_sub]
theorem qn_an (a b : Nat) : nI a + - nI b = nI a - nI b := (Int32.sub_eq_add_neg _ _).symm
theorem qn_0 : (0 : Int32) = nI 0 := rfl
theorem qn_1 : (1 : Int32) = nI 1 := rfl
theorem qn_2 : (2 : Int32) = nI 2 := rfl
theorem qn_3 : (3 : Int32) = nI 3 := rfl
theorem qn_4 : (4 : Int32) = nI 4 := rfl
theorem qn_5 : (5 : Int32) = nI 5 := rfl
theorem qn_6 : (6 : Int32) = nI 6 := rfl
theorem qn_7 : (7 : Int32) = nI 7 := rfl
theorem qn_8 : (8 : Int32) = nI 8 := rfl
theorem qn_9 : (9 : Int32) = nI 9 := rfl
theorem qn_10 : (10 : Int32) = nI 10 := rfl
theorem qn_11 : (11 : Int32) = nI 11 := rfl
theorem qn_12 : (12 : Int32) = nI 12 := rfl
theorem qn_13 : (13 : Int32) = nI 13 := rfl
theorem qn_14 : (14 : Int32) = nI 14 := rfl
theorem qn_15 : (15 : Int32) = nI 15 := rfl
theorem qn_16 : (16 : Int32) = nI 16 := rfl
theorem qn_19 : (19 : Int32) = nI 19 := rfl
theorem qn_20 : (20 : Int32) = nI 20 := rfl
theorem qn_21 : (21 : Int32) = nI 21 := rfl
theorem qn_24 : (24 : Int32) = nI 24 := rfl
theorem qn_27 : (27 : Int32) = nI 27 := rfl
theorem qn_29 : (29 : Int32) = nI 29 := rfl
theorem qn_30 : (30 : Int32) = nI 30 := rfl
theorem qn_31 : (31 : Int32) = nI 31 := rfl
theorem qn_32 : (32 : Int32) = nI 32 := rfl
theorem qn_33 : (33 : Int32) = nI 33 := rfl
theorem qn_39 : (39 : Int32) = nI 39 := rfl
theorem qn_40 : (40 : Int32) = nI 40 := rfl
theorem qn_42 : (42 : Int32) = nI 42 := rfl
theorem qn_48 : (48 : Int32) = nI 48 := rfl
theorem qn_50 : (50 : Int32) = nI 50 := rfl
theorem qn_54 : (54 : Int32) = nI 54 := rfl
theorem qn_57 : (57 : Int32) = nI 57 := rfl
theorem qn_59 : (59 : Int32) = nI 59 := rfl
theorem qn_60 : (60 : Int32) = nI 60 := rfl
theorem qn_63 : (63 : Int32) = nI 63 := rfl
theorem qn_72 : (72 : Int32) = nI 72 := rfl
theorem qn_96 : (96 : Int32) = nI 96 := rfl
theorem qn_97 : (97 : Int32) = nI 97 := rfl
theorem qn_99 : (99 : Int32) = nI 99 := rfl
theorem qn_100 : (100 : Int32) = nI 100 := rfl
theorem qn_122 : (122 : Int32) = nI 122 := rfl
theorem qn_128 : (128 : Int32) = nI 128 := rfl
theorem qn_150 : (150 : Int32) = nI 150 := rfl
theorem qn_192 : (192 : Int32) = nI 192 := rfl
theorem qn_199 : (199 : Int32) = nI 199 := rfl
theorem qn_200 : (200 : Int32) = nI 200 := rfl
theorem qn_201 : (201 : Int32) = nI 201 := rfl
theorem qn_236 : (236 : Int32) = nI 236 := rfl
theorem qn_240 : (240 : Int32) = nI 240 := rfl
theorem qn_300 : (300 : Int32) = nI 300 := rfl
theorem qn_998 : (998 : Int32) = nI 998 := rfl
theorem qn_999 : (999 : Int32) = nI 999 := rfl
theorem qn_1000 : (1000 : Int32) = nI 1000 := rfl
theorem qn_2000 : (2000 : Int32) = nI 2000 := rfl
theorem qn_2230 : (2230 : Int32) = nI 2230 := rfl
theorem qn_9999 : (9999 : Int32) = nI 9999 := rfl
theorem qn_10000 : (10000 : Int32) = nI 10000 := rfl
theorem qn_114602 : (114602 : Int32) = nI 114602 := rfl
theorem qn_180392 : (180392 : Int32) = nI 180392 := rfl
theorem qn_664272 : (664272 : Int32) = nI 664272 := rfl
theorem qn_1000000 : (1000000 : Int32) = nI 1000000 := rfl
theorem qn_3379448 : (3379448 : Int32) = nI 3379448 := rfl
theorem qn_10256063 : (10256063 : Int32) = nI 10256063 := rfl
/-! one cell read behind a write -/
theorem qv_s {h : zk_H} {a i a' i' : Nat} {x : Int32} (e : a' = a ∧ i' = i) : zk_up h a i x a' i' = x := if_pos e
theorem qv_n {h : zk_H} {a i a' i' : Nat} {x : Int32} (e : a' ≠ a ∨ i' ≠ i) : zk_up h a i x a' i' = h a' i' := if_neg (by omega)
theorem qhe {h : zk_H} {a b i j : Nat} (e : a = b ∧ i = j) : h a i = h b j := by rw [e.1, e.2]
/-! loops -/
def zk_one (c : zk_Cn) (b u : zk_Sm) (e : List Value) (h : zk_H) : Option ((Nat × Value × List Value × zk_H) ⊕ (List Value × zk_H)) :=
  (c e h).bind fun q => if q.1 then (b e q.2).bind fun r => if r.1 = 1 then some (.inl (0, .null, r.2.2.1, r.2.2.2)) else if r.1 = 3 then some (.inl r) else (u r.2.2.1 r.2.2.2).bind fun t => if t.1 = 0 then some (.inr (t.2.2.1, t.2.2.2)) else none else some (.inl (0, .null, e, q.2))
theorem q_l0 {c : zk_Cn} {b u : zk_Sm} {e : List Value} {h : zk_H} {f : Nat} {q : Nat × Value × List Value × zk_H} (z : zk_one c b u e h = some (.inl q)) : zk_loop c b u (f + 1) e h = some q := by
  unfold zk_one at z
  unfold zk_loop
  cases hc : c e h with
  | none => rw [hc] at z; simp at z
  | some q1 =>
    rw [hc] at z
    simp only [Option.bind_some] at z ⊢
    by_cases q2 : q1.1 = true
    · rw [if_pos q2] at z ⊢
      cases hb : b e q1.2 with
      | none => rw [hb] at z; simp at z
      | some r =>
        rw [hb] at z
        simp only [Option.bind_some] at z ⊢
        by_cases r1 : r.1 = 1
        · rw [if_pos r1] at z ⊢; cases z; rfl
        · rw [if_neg r1] at z ⊢
          by_cases r3 : r.1 = 3
          · rw [if_pos r3] at z ⊢; cases z; rfl
          · rw [if_neg r3] at z
            cases hu : u r.2.2.1 r.2.2.2 with
            | none => rw [hu] at z; simp at z
            | some t =>
              rw [hu] at z
              simp only [Option.bind_some] at z
              split at z <;> cases z
    · rw [if_neg q2] at z ⊢; cases z; rfl
theorem q_l1 {c : zk_Cn} {b u : zk_Sm} {e e1 : List Value} {h h1 : zk_H} {f : Nat} (z : zk_one c b u e h = some (.inr (e1, h1))) : zk_loop c b u (f + 1) e h = zk_loop c b u f e1 h1 := by
  unfold zk_one at z
  rw [zk_loop]
  cases hc : c e h with
  | none => rw [hc] at z; simp at z
  | some q1 =>
    rw [hc] at z
    simp only [hc, Option.bind_some] at z ⊢
    by_cases q2 : q1.1 = true
    · rw [if_pos q2] at z ⊢
      cases hb : b e q1.2 with
      | none => rw [hb] at z; simp at z
      | some r =>
        rw [hb] at z
        simp only [hb, Option.bind_some] at z ⊢
        by_cases r1 : r.1 = 1
        · rw [if_pos r1] at z; cases z
        · rw [if_neg r1] at z ⊢
          by_cases r3 : r.1 = 3
          · rw [if_pos r3] at z; cases z
          · rw [if_neg r3] at z ⊢
            cases hu : u r.2.2.1 r.2.2.2 with
            | none => rw [hu] at z; simp at z
            | some t =>
              rw [hu] at z
              simp only [hu, Option.bind_some] at z ⊢
              by_cases t0 : t.1 = 0
              · rw [if_pos t0] at z ⊢; cases z; rfl
              · rw [if_neg t0] at z; cases z
    · rw [if_neg q2] at z; cases z
/-- a loop with a measure that falls -/
theorem q_whl {c : zk_Cn} {b u : zk_Sm} {P : Nat → List Value → zk_H → Prop} {Q : Nat × Value × List Value × zk_H → Prop}
    (st : ∀ k e h, P k e h → (∃ q, zk_one c b u e h = some (.inl q) ∧ Q q) ∨ (∃ e' h' k', zk_one c b u e h = some (.inr (e', h')) ∧ k' < k ∧ P k' e' h')) :
    ∀ (f k : Nat) (e : List Value) (h : zk_H), k < f → P k e h → ∃ q, zk_loop c b u f e h = some q ∧ Q q := by
  intro f
  induction f with
  | zero => intro k e h hk; omega
  | succ f ih =>
    intro k e h hk hP
    rcases st k e h hP with ⟨q, z, hq⟩ | ⟨e1, h1, k1, z, hk1, hP1⟩
    · exact ⟨q, q_l0 z, hq⟩
    · rw [q_l1 z]; exact ih k1 e1 h1 (by omega) hP1
/-- a loop that counts up to n -/
theorem q_for {c : zk_Cn} {b u : zk_Sm} {P : Nat → List Value → zk_H → Prop} (n : Nat)
    (st : ∀ i e h, i < n → P i e h → ∃ e' h', zk_one c b u e h = some (.inr (e', h')) ∧ P (i + 1) e' h')
    (en : ∀ e h, P n e h → zk_one c b u e h = some (.inl (0, .null, e, h))) {f : Nat} {e : List Value} {h : zk_H} (hf : n < f) (h0 : P 0 e h) :
    ∃ e' h', zk_loop c b u f e h = some (0, .null, e', h') ∧ P n e' h' := by
  have := q_whl (c := c) (b := b) (u := u) (P := fun k e h => k ≤ n ∧ P (n - k) e h) (Q := fun q => ∃ e' h', q = (0, .null, e', h') ∧ P n e' h') ?_ f n e h hf ⟨Nat.le_refl _, by rw [Nat.sub_self]; exact h0⟩
  · obtain ⟨q, z, e', h', rfl, hp⟩ := this
    exact ⟨e', h', z, hp⟩
  · intro k e h ⟨hk, hP⟩
    cases k with
    | zero => exact Or.inl ⟨_, en e h hP, e, h, rfl, hP⟩
    | succ k =>
      obtain ⟨e1, h1, z, hp⟩ := st (n - (k + 1)) e h (by omega) hP
      refine Or.inr ⟨e1, h1, k, z, by omega, by omega, ?_⟩
      rw [show n - k = n - (k + 1) + 1 by omega]; exact hp
/-- the same, with what it does as functions -/
theorem q_forF {c : zk_Cn} {b u : zk_Sm} (n : Nat) (E : Nat → List Value) (H : Nat → zk_H)
    (st : ∀ i, i < n → zk_one c b u (E i) (H i) = some (.inr (E (i + 1), H (i + 1))))
    (en : zk_one c b u (E n) (H n) = some (.inl (0, .null, E n, H n))) {f : Nat} (hf : n < f) :
    zk_loop c b u f (E 0) (H 0) = some (0, .null, E n, H n) := by
  obtain ⟨e', h', z, rfl, rfl⟩ := q_for (c := c) (b := b) (u := u) (P := fun i e h => e = E i ∧ h = H i) n
    (fun i e h hi ⟨he, hh⟩ => ⟨E (i + 1), H (i + 1), by rw [he, hh]; exact st i hi, rfl, rfl⟩) (fun e h ⟨he, hh⟩ => by rw [he, hh]; exact en) hf ⟨rfl, rfl⟩
  exact z
theorem q_forG {c : zk_Cn} {b u : zk_Sm} {e e' : List Value} {h h' : zk_H} (n : Nat) (E : Nat → List Value) (H : Nat → zk_H)
    (st : ∀ i, i < n → zk_one c b u (E i) (H i) = some (.inr (E (i + 1), H (i + 1))))
    (en : zk_one c b u (E n) (H n) = some (.inl (0, .null, E n, H n))) (e0 : E 0 = e) (h0 : H 0 = h) (e1 : E n = e') (h1 : H n = h') {f : Nat} (hf : n < f) :
    zk_loop c b u f e h = some (0, .null, e', h') := by
  rw [← e0, ← h0, ← e1, ← h1]
  exact q_forF n E H st en hf
/-! the reference's cars, any field -/
theorem q_getN (c k : Nat) (hc : c < 12) (hk : k < 16) (h : zk_H) : f_X12_get SHP [.ref 178, .int (nI c), .int (nI k)] h = some (.int (h 183 (16 * c + k)), h) := by
  simp (disch := omega) [f_X12_get, b_X12_get, List.getElem?_cons_zero, List.getElem?_cons_succ, List.set_cons_zero, List.set_cons_succ, List.length_cons, List.length_nil, zk_sem, zk_flat, zk_env, Value.category, zk_ret, zk_ret0, zk_it, zk_or, zk_and, zk_not, zk_c1, zk_c2, zk_li, zk_lr, zk_ll, zk_c, zk_u, zk_b, zk_fi, zk_fd, zk_gi, zk_gn, zk_gl, zk_fl, zk_fs, zk_gf, zk_al, zk_aa, zk_ca, zk_ck, zk_rc, zk_ev, zk_seq, zk_skip, zk_if, zk_si, zk_sr, zk_inc, zk_okS, zk_pf, zk_pfo, zk_as, zk_aso, zk_xc, zk_rok, zk_sw, zk_pick, zk_brk, zk_cnt, zk_one, narrow, qn_an, nI_add, pk_mul, qn_0, qn_1, qn_2, qn_3, qn_4, qn_5, qn_6, qn_7, qn_8, qn_9, qn_10, qn_11, qn_12, qn_13, qn_14, qn_15, qn_16, qn_19, qn_20, qn_21, qn_24, qn_27, qn_29, qn_30, qn_31, qn_32, qn_33, qn_39, qn_40, qn_42, qn_48, qn_50, qn_54, qn_57, qn_59, qn_60, qn_63, qn_72, qn_96, qn_97, qn_99, qn_100, qn_122, qn_128, qn_150, qn_192, qn_199, qn_200, qn_201, qn_236, qn_240, qn_300, qn_998, qn_999, qn_1000, qn_2000, qn_2230, qn_9999, qn_10000, qn_114602, qn_180392, qn_664272, qn_1000000, qn_3379448, qn_10256063, qo_178_4, qa_183]
theorem q_putN (c k : Nat) (hc : c < 12) (hk : k < 16) (x : Int32) (h : zk_H) : f_X12_put SHP [.ref 178, .int (nI c), .int (nI k), .int x] h = some (.null, zk_up h 183 (16 * c + k) x) := by
  simp (disch := omega) [f_X12_put, b_X12_put, List.getElem?_cons_zero, List.getElem?_cons_succ, List.set_cons_zero, List.set_cons_succ, List.length_cons, List.length_nil, zk_sem, zk_flat, zk_env, Value.category, zk_ret, zk_ret0, zk_it, zk_or, zk_and, zk_not, zk_c1, zk_c2, zk_li, zk_lr, zk_ll, zk_c, zk_u, zk_b, zk_fi, zk_fd, zk_gi, zk_gn, zk_gl, zk_fl, zk_fs, zk_gf, zk_al, zk_aa, zk_ca, zk_ck, zk_rc, zk_ev, zk_seq, zk_skip, zk_if, zk_si, zk_sr, zk_inc, zk_okS, zk_pf, zk_pfo, zk_as, zk_aso, zk_xc, zk_rok, zk_sw, zk_pick, zk_brk, zk_cnt, zk_one, narrow, qn_an, nI_add, pk_mul, qn_0, qn_1, qn_2, qn_3, qn_4, qn_5, qn_6, qn_7, qn_8, qn_9, qn_10, qn_11, qn_12, qn_13, qn_14, qn_15, qn_16, qn_19, qn_20, qn_21, qn_24, qn_27, qn_29, qn_30, qn_31, qn_32, qn_33, qn_39, qn_40, qn_42, qn_48, qn_50, qn_54, qn_57, qn_59, qn_60, qn_63, qn_72, qn_96, qn_97, qn_99, qn_100, qn_122, qn_128, qn_150, qn_192, qn_199, qn_200, qn_201, qn_236, qn_240, qn_300, qn_998, qn_999, qn_1000, qn_2000, qn_2230, qn_9999, qn_10000, qn_114602, qn_180392, qn_664272, qn_1000000, qn_3379448, qn_10256063, qo_178_4, qw_183]
theorem q_moreN (c k : Nat) (hc : c < 12) (hk : k < 16) (x : Int32) (h : zk_H) : f_X12_more SHP [.ref 178, .int (nI c), .int (nI k), .int x] h = some (.null, zk_up h 183 (16 * c + k) (h 183 (16 * c + k) + x)) := by
  simp (disch := omega) [f_X12_more, b_X12_more, List.getElem?_cons_zero, List.getElem?_cons_succ, List.set_cons_zero, List.set_cons_succ, List.length_cons, List.length_nil, zk_sem, zk_flat, zk_env, Value.category, zk_ret, zk_ret0, zk_it, zk_or, zk_and, zk_not, zk_c1, zk_c2, zk_li, zk_lr, zk_ll, zk_c, zk_u, zk_b, zk_fi, zk_fd, zk_gi, zk_gn, zk_gl, zk_fl, zk_fs, zk_gf, zk_al, zk_aa, zk_ca, zk_ck, zk_rc, zk_ev, zk_seq, zk_skip, zk_if, zk_si, zk_sr, zk_inc, zk_okS, zk_pf, zk_pfo, zk_as, zk_aso, zk_xc, zk_rok, zk_sw, zk_pick, zk_brk, zk_cnt, zk_one, narrow, qn_an, nI_add, pk_mul, qn_0, qn_1, qn_2, qn_3, qn_4, qn_5, qn_6, qn_7, qn_8, qn_9, qn_10, qn_11, qn_12, qn_13, qn_14, qn_15, qn_16, qn_19, qn_20, qn_21, qn_24, qn_27, qn_29, qn_30, qn_31, qn_32, qn_33, qn_39, qn_40, qn_42, qn_48, qn_50, qn_54, qn_57, qn_59, qn_60, qn_63, qn_72, qn_96, qn_97, qn_99, qn_100, qn_122, qn_128, qn_150, qn_192, qn_199, qn_200, qn_201, qn_236, qn_240, qn_300, qn_998, qn_999, qn_1000, qn_2000, qn_2230, qn_9999, qn_10000, qn_114602, qn_180392, qn_664272, qn_1000000, qn_3379448, qn_10256063, qo_178_4, qa_183, qw_183]
/-! ranges, both sides -/
theorem q_outT {v a b : Nat} (e : v < a ∨ b < v) (hv : v < 2147483648) (ha : a < 2147483648) (hb : b < 2147483648) (h : zk_H) : f_X11_isOutside SHP [.int (nI v), .int (nI a), .int (nI b)] h = some (.int (nI 1), h) := by
  rw [q_out, if_pos (by rw [nI_ltI hv ha, nI_ltI hb hv]; exact e)]; rfl
theorem q_outF {v a b : Nat} (e : a ≤ v) (e2 : v ≤ b) (hb : b < 2147483648) (h : zk_H) : f_X11_isOutside SHP [.int (nI v), .int (nI a), .int (nI b)] h = some (.int (nI 0), h) := by
  rw [q_out, if_neg (by rw [nI_ltI (by omega) (by omega), nI_ltI (by omega) (by omega)]; omega)]; rfl
theorem q_inF {v a b : Nat} (e : v < a ∨ b < v) (hv : v < 2147483648) (ha : a < 2147483648) (hb : b < 2147483648) (h : zk_H) : f_X12_in SHP [.int (nI v), .int (nI a), .int (nI b)] h = some (.int (nI 0), h) := by
  rw [q_in, if_neg (by rw [nI_leI ha hv, nI_leI hv hb]; omega)]; rfl
theorem q_inT {v a b : Nat} (e : a ≤ v) (e2 : v ≤ b) (hb : b < 2147483648) (h : zk_H) : f_X12_in SHP [.int (nI v), .int (nI a), .int (nI b)] h = some (.int (nI 1), h) := by
  rw [q_in, if_pos (by rw [nI_leI (by omega) (by omega), nI_leI (by omega) (by omega)]; exact ⟨e, e2⟩)]; rfl
theorem qx_in (v : Int32) (a b : Nat) (hab : a ≤ b) (hb : b < 2147483648) : (∃ k, v = nI k ∧ a ≤ k ∧ k ≤ b) ∨ ((∀ h, f_X11_isOutside SHP [.int v, .int (nI a), .int (nI b)] h = some (.int (nI 1), h)) ∧ (∀ h, f_X12_in SHP [.int v, .int (nI a), .int (nI b)] h = some (.int (nI 0), h)) ∧ ∀ k, a ≤ k → k ≤ b → v ≠ nI k) := by
  by_cases hv : nI a ≤ v ∧ v ≤ nI b
  · exact Or.inl (qx_rng hab hb hv)
  · refine Or.inr ⟨fun h => ?_, fun h => ?_, ?_⟩
    · rw [q_out, if_pos ((qx_oi v (nI a) (nI b)).2 hv)]; rfl
    · rw [q_in, if_neg hv]; rfl
    · intro k h1 h2 e
      exact hv (e ▸ ⟨nI_le h1 (by omega), nI_le h2 hb⟩)
theorem qx_site (x : Int32) {W : qW} (hf : qWf W) : (∃ s, s < W.nS ∧ x = nI s) ∨ ((∀ h, qC h W → f_X10_hasSite SHP [.ref 1, .int x] h = some (.int (nI 0), h)) ∧ ∀ h, qR (fun r => h (179 + r)) W → f_X12_isSite SHP [.ref 178, .int x] h = some (.int (nI 0), h)) := by
  have hn := hf.hS
  rcases pk_ix x (n := W.nS) (by omega) with hx | hx | hx
  · exact Or.inr ⟨fun h hh => qh_nSite hh (Or.inl hx), fun h hh => qi_nSite hf hh (Or.inl hx)⟩
  · exact Or.inr ⟨fun h hh => qh_nSite hh (Or.inr hx), fun h hh => qi_nSite hf hh (Or.inr hx)⟩
  · exact Or.inl hx
theorem qx_plug (x : Int32) {W : qW} (hf : qWf W) : (∃ s, s < W.nP ∧ x = nI s) ∨ ((∀ h, qC h W → f_X10_hasPlug SHP [.ref 1, .int x] h = some (.int (nI 0), h)) ∧ ∀ h, qR (fun r => h (179 + r)) W → f_X12_isPlug SHP [.ref 178, .int x] h = some (.int (nI 0), h)) := by
  have hn := hf.hP
  rcases pk_ix x (n := W.nP) (by omega) with hx | hx | hx
  · exact Or.inr ⟨fun h hh => qh_nPlug hh (Or.inl hx), fun h hh => qi_nPlug hf hh (Or.inl hx)⟩
  · exact Or.inr ⟨fun h hh => qh_nPlug hh (Or.inr hx), fun h hh => qi_nPlug hf hh (Or.inr hx)⟩
  · exact Or.inl hx
theorem qx_car (x : Int32) {W : qW} (hf : qWf W) : (∃ s, s < W.nC ∧ x = nI s) ∨ ((∀ h, qC h W → f_X10_hasCar SHP [.ref 1, .int x] h = some (.int (nI 0), h)) ∧ ∀ h, qR (fun r => h (179 + r)) W → f_X12_isCar SHP [.ref 178, .int x] h = some (.int (nI 0), h)) := by
  have hn := hf.hC
  rcases pk_ix x (n := W.nC) (by omega) with hx | hx | hx
  · exact Or.inr ⟨fun h hh => qh_nCar hh (Or.inl hx), fun h hh => qi_nCar hf hh (Or.inl hx)⟩
  · exact Or.inr ⟨fun h hh => qh_nCar hh (Or.inr hx), fun h hh => qi_nCar hf hh (Or.inr hx)⟩
  · exact Or.inl hx
theorem qx_b (x : Int32) : ∃ f, f ≤ 1 ∧ zl_b x = nI f := by
  unfold zl_b
  split
  · exact ⟨0, by omega, rfl⟩
  · exact ⟨1, by omega, rfl⟩
