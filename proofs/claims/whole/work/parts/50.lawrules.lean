/-! the law: its script is an old array; the run's cells are the class's and the reference's -/
abbrev M_law : zk_M := (RL, cL_law, 4, 12, 424)
def zl_Scr (κ : zk_K) (ω : zk_O) (L : Nat) (xs : Nat → Int32) : Prop := match κ, ω with
  | (p, l, e, R, s, m, args, below, meth, c, Q, ce, sl, A), (ad, D, cs, ex, adV) => va_X (ex 100) L xs s s.heap ∧ ex 100 < s.heap.size ∧ ¬ A (ex 100)
section ZL
variable {κ : zk_K} {ω : zk_O} {L : Nat} {xs : Nat → Int32} {pc i : Nat} {stk : List Value} {h : zk_H}
theorem zl_sld {env : List Value} {j : Int32} (g : zk_ok M_law κ ω) (hs : zl_Scr κ ω L xs) (hd : decode cL_law pc = .ok (.iaload, 1)) (hi : vp_in j L) (k : zk_At κ ω (pc + 1) env (.int (xs j.toNatClampNeg) :: stk) SHP h) : zk_At κ ω pc env (.int j :: .retAddr 100 :: stk) SHP h := by
  obtain ⟨p, l, e, R, s, m, args, below, meth, c, Q, ce, sl, A⟩ := κ
  obtain ⟨ad, D, cs, ex, adV⟩ := ω
  obtain ⟨hx, hb, hml, hown, hts, hK, hR, hA, hX⟩ := g
  intro H locs ls hl hP hD hS
  exact va_sld hx hb hs.1 hs.2.1 hs.2.2 hS hi hd (k H locs ls hl hP hD hS)
theorem zl_slen {env : List Value} (g : zk_ok M_law κ ω) (hs : zl_Scr κ ω L xs) (hd : decode cL_law pc = .ok (.arraylength, 1)) (k : zk_At κ ω (pc + 1) env (.int (nI L) :: stk) SHP h) : zk_At κ ω pc env (.retAddr 100 :: stk) SHP h := by
  obtain ⟨p, l, e, R, s, m, args, below, meth, c, Q, ce, sl, A⟩ := κ
  obtain ⟨ad, D, cs, ex, adV⟩ := ω
  obtain ⟨hx, hb, hml, hown, hts, hK, hR, hA, hX⟩ := g
  intro H locs ls hl hP hD hS
  exact va_slen hx hb hs.1 hs.2.1 hs.2.2 hS hd (k H locs ls hl hP hD hS)
abbrev zl_env (i : Nat) : List Value := [.retAddr 100, .ref 0, .ref 178, .int (nI i)]
theorem zl_arg {c : Nat} (g : zk_ok M_law κ ω) (hs : zl_Scr κ ω L xs) (hi : i + 6 ≤ L) (hL : L ≤ 3072) (hc : c < 6) (d0 : decode cL_law pc = .ok (.aload_n 0, 1)) (d1 : decode cL_law (pc + 1) = .ok (.iload_n 3, 1)) (d2 : decode cL_law (pc + 2) = .ok (.iconst (c : Int), 1)) (d3 : decode cL_law (pc + 3) = .ok (.iadd, 1)) (d4 : decode cL_law (pc + 4) = .ok (.iaload, 1)) (k : zk_At κ ω (pc + 5) (zl_env i) (.int (xs (i + c)) :: stk) SHP h) : zk_At κ ω pc (zl_env i) stk SHP h := by
  have hcI : Int32.ofInt (c : Int) = nI c := rfl
  refine zk_aload_nS (i := 0) (x := 100) g d0 rfl ?_
  refine zk_iload_n (i := 3) (x := nI i) g d1 rfl ?_
  refine zk_iconst g d2 hcI ?_
  refine zk_iadd g d3 ?_
  rw [nI_add]
  refine zl_sld g hs d4 (vp_in_nI (by omega) (by omega)) ?_
  rw [nI_clamp (by omega)]
  exact k
def zl_b (x : Int32) : Int32 := if x = 0 then 0 else 1
theorem zl_boo {c : Nat} (g : zk_ok M_law κ ω) (hs : zl_Scr κ ω L xs) (hi : i + 6 ≤ L) (hL : L ≤ 3072) (hc : c < 6) (d0 : decode cL_law pc = .ok (.aload_n 0, 1)) (d1 : decode cL_law (pc + 1) = .ok (.iload_n 3, 1)) (d2 : decode cL_law (pc + 2) = .ok (.iconst (c : Int), 1)) (d3 : decode cL_law (pc + 3) = .ok (.iadd, 1)) (d4 : decode cL_law (pc + 4) = .ok (.iaload, 1)) (d5 : decode cL_law (pc + 5) = .ok (.ifCond .eq 7, 3)) (d6 : decode cL_law (pc + 8) = .ok (.iconst 1, 1)) (d7 : decode cL_law (pc + 9) = .ok (.goto 4, 3)) (d8 : decode cL_law (pc + 12) = .ok (.iconst 0, 1)) (k : zk_At κ ω (pc + 13) (zl_env i) (.int (zl_b (xs (i + c))) :: stk) SHP h) : zk_At κ ω pc (zl_env i) stk SHP h := by
  refine zl_arg g hs hi hL hc d0 d1 d2 d3 d4 ?_
  refine zk_j1eq (t := pc + 12) g d5 (by omega) (fun q => ?_) (fun q => ?_)
  · refine zk_iconst g d8 rfl ?_
    simp only [zl_b, if_pos q] at k
    exact k
  · refine zk_iconst g d6 rfl ?_
    refine zk_goto (t := pc + 13) g d7 (by omega) ?_
    simp only [zl_b, if_neg q] at k
    exact k
def zl_lg (a b : Int32) : Int64 := (a.toInt64 <<< ((32 : Int32).toInt64 &&& 63)) ||| (b.toInt64 &&& 4294967295)
theorem zl_lon (g : zk_ok M_law κ ω) (hs : zl_Scr κ ω L xs) (hi : i + 6 ≤ L) (hL : L ≤ 3072) (hw : Cond.constantLong RL 49 4294967295 ∈ zk_tbl) (d0 : decode cL_law pc = .ok (.aload_n 0, 1)) (d1 : decode cL_law (pc + 1) = .ok (.iload_n 3, 1)) (d2 : decode cL_law (pc + 2) = .ok (.iconst 1, 1)) (d3 : decode cL_law (pc + 3) = .ok (.iadd, 1)) (d4 : decode cL_law (pc + 4) = .ok (.iaload, 1)) (d5 : decode cL_law (pc + 5) = .ok (.i2l, 1)) (d6 : decode cL_law (pc + 6) = .ok (.bipush 32, 2)) (d7 : decode cL_law (pc + 8) = .ok (.lshl, 1)) (e0 : decode cL_law (pc + 9) = .ok (.aload_n 0, 1)) (e1 : decode cL_law (pc + 10) = .ok (.iload_n 3, 1)) (e2 : decode cL_law (pc + 11) = .ok (.iconst 2, 1)) (e3 : decode cL_law (pc + 12) = .ok (.iadd, 1)) (e4 : decode cL_law (pc + 13) = .ok (.iaload, 1)) (e5 : decode cL_law (pc + 14) = .ok (.i2l, 1)) (e6 : decode cL_law (pc + 15) = .ok (.ldc2_w 49, 3)) (e7 : decode cL_law (pc + 18) = .ok (.land, 1)) (e8 : decode cL_law (pc + 19) = .ok (.lor, 1)) (k : zk_At κ ω (pc + 20) (zl_env i) (.long (zl_lg (xs (i + 1)) (xs (i + 2))) :: stk) SHP h) : zk_At κ ω pc (zl_env i) stk SHP h := by
  refine zl_arg (c := 1) g hs hi hL (by decide) d0 d1 d2 d3 d4 ?_
  refine zk_i2l g d5 ?_
  refine zk_bipush (v := 32) g d6 rfl ?_
  refine zk_lshl g d7 ?_
  refine zl_arg (c := 2) g hs hi hL (by decide) e0 e1 e2 e3 e4 ?_
  refine zk_i2l g e5 ?_
  refine zk_ldc2 g e6 hw ?_
  refine zk_land g e7 ?_
  refine zk_lor g e8 ?_
  exact k
end ZL
def zl_ok2 (Inv : zk_H → Prop) (f g : zk_Fn) (av : List Value) : Prop := ∀ h, Inv h → ∃ (r : Int32) (h1 h2 : zk_H), f (.ref 0 :: av) h = some (.int r, h1) ∧ g (.ref 178 :: av) h1 = some (.int r, h2) ∧ Inv h2
theorem zi_s0 : ∃ fs, SHP[0]? = some (.inl (11, fs)) := ⟨_, rfl⟩
theorem zi_s178 : ∃ fs, SHP[178]? = some (.inl (12, fs)) := ⟨_, rfl⟩
