theorem zk_iconst {T : zk_M} {κ : zk_K} {ω : zk_O} {pc : Nat} {env stk : List Value} {SH : List zk_Sh} {h : zk_H} {n : Int} {v : Int32} (g : zk_ok T κ ω) (hd : decode T.2.1 pc = .ok (.iconst n, 1)) (hv : Int32.ofInt n = v) (k : zk_At κ ω (pc + 1) env (.int v :: stk) SH h) : zk_At κ ω pc env stk SH h := by
  obtain ⟨p, l, e, R, s, m, args, below, meth, c, Q, ce, sl, A⟩ := κ
  obtain ⟨ad, D, cs, ex, adV⟩ := ω
  obtain ⟨hx, hb, hml, hown, hts, hK, hR, hA, hX⟩ := g
  intro H locs ls hl hP hD hS
  exact lv_iconst hx hb hd hv (k H locs ls hl hP hD hS)
theorem zk_bipush {T : zk_M} {κ : zk_K} {ω : zk_O} {pc : Nat} {env stk : List Value} {SH : List zk_Sh} {h : zk_H} {n : Int} {v : Int32} (g : zk_ok T κ ω) (hd : decode T.2.1 pc = .ok (.bipush n, 2)) (hv : (Int8.ofInt n).toInt32 = v) (k : zk_At κ ω (pc + 2) env (.int v :: stk) SH h) : zk_At κ ω pc env stk SH h := by
  obtain ⟨p, l, e, R, s, m, args, below, meth, c, Q, ce, sl, A⟩ := κ
  obtain ⟨ad, D, cs, ex, adV⟩ := ω
  obtain ⟨hx, hb, hml, hown, hts, hK, hR, hA, hX⟩ := g
  intro H locs ls hl hP hD hS
  exact lv_bipush hx hb hd hv (k H locs ls hl hP hD hS)
theorem zk_sipush {T : zk_M} {κ : zk_K} {ω : zk_O} {pc : Nat} {env stk : List Value} {SH : List zk_Sh} {h : zk_H} {n : Int} {v : Int32} (g : zk_ok T κ ω) (hd : decode T.2.1 pc = .ok (.sipush n, 3)) (hv : (Int16.ofInt n).toInt32 = v) (k : zk_At κ ω (pc + 3) env (.int v :: stk) SH h) : zk_At κ ω pc env stk SH h := by
  obtain ⟨p, l, e, R, s, m, args, below, meth, c, Q, ce, sl, A⟩ := κ
  obtain ⟨ad, D, cs, ex, adV⟩ := ω
  obtain ⟨hx, hb, hml, hown, hts, hK, hR, hA, hX⟩ := g
  intro H locs ls hl hP hD hS
  exact lv_sipush hx hb hd hv (k H locs ls hl hP hD hS)
theorem zk_ldc {T : zk_M} {κ : zk_K} {ω : zk_O} {pc : Nat} {env stk : List Value} {SH : List zk_Sh} {h : zk_H} {i : Nat} {v : Int32} (g : zk_ok T κ ω) (hd : decode T.2.1 pc = .ok (.ldc i, 2)) (hw : Cond.constant T.1 i v ∈ zk_tbl) (k : zk_At κ ω (pc + 2) env (.int v :: stk) SH h) : zk_At κ ω pc env stk SH h := by
  obtain ⟨p, l, e, R, s, m, args, below, meth, c, Q, ce, sl, A⟩ := κ
  obtain ⟨ad, D, cs, ex, adV⟩ := ω
  obtain ⟨hx, hb, hml, hown, hts, hK, hR, hA, hX⟩ := g
  intro H locs ls hl hP hD hS
  exact lv_ldc hx hb hown (hts _ hw) hd (k H locs ls hl hP hD hS)
theorem zk_ldcw {T : zk_M} {κ : zk_K} {ω : zk_O} {pc : Nat} {env stk : List Value} {SH : List zk_Sh} {h : zk_H} {i : Nat} {v : Int32} (g : zk_ok T κ ω) (hd : decode T.2.1 pc = .ok (.ldc_w i, 3)) (hw : Cond.constant T.1 i v ∈ zk_tbl) (k : zk_At κ ω (pc + 3) env (.int v :: stk) SH h) : zk_At κ ω pc env stk SH h := by
  obtain ⟨p, l, e, R, s, m, args, below, meth, c, Q, ce, sl, A⟩ := κ
  obtain ⟨ad, D, cs, ex, adV⟩ := ω
  obtain ⟨hx, hb, hml, hown, hts, hK, hR, hA, hX⟩ := g
  intro H locs ls hl hP hD hS
  exact lv_ldcw hx hb hown (hts _ hw) hd (k H locs ls hl hP hD hS)
theorem zk_ldc2 {T : zk_M} {κ : zk_K} {ω : zk_O} {pc : Nat} {env stk : List Value} {SH : List zk_Sh} {h : zk_H} {i : Nat} {v : Int64} (g : zk_ok T κ ω) (hd : decode T.2.1 pc = .ok (.ldc2_w i, 3)) (hw : Cond.constantLong T.1 i v ∈ zk_tbl) (k : zk_At κ ω (pc + 3) env (.long v :: stk) SH h) : zk_At κ ω pc env stk SH h := by
  obtain ⟨p, l, e, R, s, m, args, below, meth, c, Q, ce, sl, A⟩ := κ
  obtain ⟨ad, D, cs, ex, adV⟩ := ω
  obtain ⟨hx, hb, hml, hown, hts, hK, hR, hA, hX⟩ := g
  intro H locs ls hl hP hD hS
  exact lv_ldc2 hx hb hown (hts _ hw) hd (k H locs ls hl hP hD hS)
theorem zk_iload {T : zk_M} {κ : zk_K} {ω : zk_O} {pc : Nat} {env stk : List Value} {SH : List zk_Sh} {h : zk_H} {i : Nat} {x : Int32} (g : zk_ok T κ ω) (hd : decode T.2.1 pc = .ok (.iload i, 2)) (he : env[i]? = some (.int x)) (k : zk_At κ ω (pc + 2) env (.int x :: stk) SH h) : zk_At κ ω pc env stk SH h := by
  obtain ⟨p, l, e, R, s, m, args, below, meth, c, Q, ce, sl, A⟩ := κ
  obtain ⟨ad, D, cs, ex, adV⟩ := ω
  obtain ⟨hx, hb, hml, hown, hts, hK, hR, hA, hX⟩ := g
  intro H locs ls hl hP hD hS
  exact lv_iload hx hb hd (zk_lv_get hl he (by simp)) (k H locs ls hl hP hD hS)
theorem zk_iload_n {T : zk_M} {κ : zk_K} {ω : zk_O} {pc : Nat} {env stk : List Value} {SH : List zk_Sh} {h : zk_H} {i : Fin 4} {x : Int32} (g : zk_ok T κ ω) (hd : decode T.2.1 pc = .ok (.iload_n i, 1)) (he : env[(i : Nat)]? = some (.int x)) (k : zk_At κ ω (pc + 1) env (.int x :: stk) SH h) : zk_At κ ω pc env stk SH h := by
  obtain ⟨p, l, e, R, s, m, args, below, meth, c, Q, ce, sl, A⟩ := κ
  obtain ⟨ad, D, cs, ex, adV⟩ := ω
  obtain ⟨hx, hb, hml, hown, hts, hK, hR, hA, hX⟩ := g
  intro H locs ls hl hP hD hS
  exact lv_iload_n hx hb hd rfl (zk_lv_get hl he (by simp)) (k H locs ls hl hP hD hS)
theorem zk_lload_n {T : zk_M} {κ : zk_K} {ω : zk_O} {pc : Nat} {env stk : List Value} {SH : List zk_Sh} {h : zk_H} {i : Fin 4} {x : Int64} (g : zk_ok T κ ω) (hd : decode T.2.1 pc = .ok (.lload_n i, 1)) (he : env[(i : Nat)]? = some (.long x)) (k : zk_At κ ω (pc + 1) env (.long x :: stk) SH h) : zk_At κ ω pc env stk SH h := by
  obtain ⟨p, l, e, R, s, m, args, below, meth, c, Q, ce, sl, A⟩ := κ
  obtain ⟨ad, D, cs, ex, adV⟩ := ω
  obtain ⟨hx, hb, hml, hown, hts, hK, hR, hA, hX⟩ := g
  intro H locs ls hl hP hD hS
  exact lv_lload_n hx hb hd rfl (zk_lv_get hl he (by simp)) (k H locs ls hl hP hD hS)
theorem zk_aload {T : zk_M} {κ : zk_K} {ω : zk_O} {pc : Nat} {env stk : List Value} {SH : List zk_Sh} {h : zk_H} {i x : Nat} (g : zk_ok T κ ω) (hd : decode T.2.1 pc = .ok (.aload i, 2)) (he : env[i]? = some (.ref x)) (k : zk_At κ ω (pc + 2) env (.ref x :: stk) SH h) : zk_At κ ω pc env stk SH h := by
  obtain ⟨p, l, e, R, s, m, args, below, meth, c, Q, ce, sl, A⟩ := κ
  obtain ⟨ad, D, cs, ex, adV⟩ := ω
  obtain ⟨hx, hb, hml, hown, hts, hK, hR, hA, hX⟩ := g
  intro H locs ls hl hP hD hS
  exact lv_aload hx hb hd (zk_lv_get hl he (by simp)) (k H locs ls hl hP hD hS)
theorem zk_aload_n {T : zk_M} {κ : zk_K} {ω : zk_O} {pc : Nat} {env stk : List Value} {SH : List zk_Sh} {h : zk_H} {i : Fin 4} {x : Nat} (g : zk_ok T κ ω) (hd : decode T.2.1 pc = .ok (.aload_n i, 1)) (he : env[(i : Nat)]? = some (.ref x)) (k : zk_At κ ω (pc + 1) env (.ref x :: stk) SH h) : zk_At κ ω pc env stk SH h := by
  obtain ⟨p, l, e, R, s, m, args, below, meth, c, Q, ce, sl, A⟩ := κ
  obtain ⟨ad, D, cs, ex, adV⟩ := ω
  obtain ⟨hx, hb, hml, hown, hts, hK, hR, hA, hX⟩ := g
  intro H locs ls hl hP hD hS
  exact lv_aload_n hx hb hd rfl (zk_lv_get hl he (by simp)) (k H locs ls hl hP hD hS)
theorem zk_aloadS {T : zk_M} {κ : zk_K} {ω : zk_O} {pc : Nat} {env stk : List Value} {SH : List zk_Sh} {h : zk_H} {i x : Nat} (g : zk_ok T κ ω) (hd : decode T.2.1 pc = .ok (.aload i, 2)) (he : env[i]? = some (.retAddr x)) (k : zk_At κ ω (pc + 2) env (.retAddr x :: stk) SH h) : zk_At κ ω pc env stk SH h := by
  obtain ⟨p, l, e, R, s, m, args, below, meth, c, Q, ce, sl, A⟩ := κ
  obtain ⟨ad, D, cs, ex, adV⟩ := ω
  obtain ⟨hx, hb, hml, hown, hts, hK, hR, hA, hX⟩ := g
  intro H locs ls hl hP hD hS
  exact lv_aload hx hb hd (zk_lv_get hl he (by simp)) (k H locs ls hl hP hD hS)
theorem zk_aload_nS {T : zk_M} {κ : zk_K} {ω : zk_O} {pc : Nat} {env stk : List Value} {SH : List zk_Sh} {h : zk_H} {i : Fin 4} {x : Nat} (g : zk_ok T κ ω) (hd : decode T.2.1 pc = .ok (.aload_n i, 1)) (he : env[(i : Nat)]? = some (.retAddr x)) (k : zk_At κ ω (pc + 1) env (.retAddr x :: stk) SH h) : zk_At κ ω pc env stk SH h := by
  obtain ⟨p, l, e, R, s, m, args, below, meth, c, Q, ce, sl, A⟩ := κ
  obtain ⟨ad, D, cs, ex, adV⟩ := ω
  obtain ⟨hx, hb, hml, hown, hts, hK, hR, hA, hX⟩ := g
  intro H locs ls hl hP hD hS
  exact lv_aload_n hx hb hd rfl (zk_lv_get hl he (by simp)) (k H locs ls hl hP hD hS)
theorem zk_istore {T : zk_M} {κ : zk_K} {ω : zk_O} {pc : Nat} {env stk : List Value} {SH : List zk_Sh} {h : zk_H} {i : Nat} {x : Int32} (g : zk_ok T κ ω) (hd : decode T.2.1 pc = .ok (.istore i, 2)) (hi : i < T.2.2.1) (hs : zk_okS env i = true) (k : zk_At κ ω (pc + 2) (env.set i (.int x)) stk SH h) : zk_At κ ω pc env (.int x :: stk) SH h := by
  obtain ⟨p, l, e, R, s, m, args, below, meth, c, Q, ce, sl, A⟩ := κ
  obtain ⟨ad, D, cs, ex, adV⟩ := ω
  obtain ⟨hx, hb, hml, hown, hts, hK, hR, hA, hX⟩ := g
  intro H locs ls hl hP hD hS
  exact lv_istore hx hb hd (zk_lv_has hl) (by rw [hml]; exact hi) rfl (fun ls' hl' => k H locs ls' (zk_lv_st (v := .int x) hs hl') hP hD hS)
theorem zk_istore_n {T : zk_M} {κ : zk_K} {ω : zk_O} {pc : Nat} {env stk : List Value} {SH : List zk_Sh} {h : zk_H} {i : Fin 4} {x : Int32} (g : zk_ok T κ ω) (hd : decode T.2.1 pc = .ok (.istore_n i, 1)) (hi : (i : Nat) < T.2.2.1) (hs : zk_okS env (i : Nat) = true) (k : zk_At κ ω (pc + 1) (env.set (i : Nat) (.int x)) stk SH h) : zk_At κ ω pc env (.int x :: stk) SH h := by
  obtain ⟨p, l, e, R, s, m, args, below, meth, c, Q, ce, sl, A⟩ := κ
  obtain ⟨ad, D, cs, ex, adV⟩ := ω
  obtain ⟨hx, hb, hml, hown, hts, hK, hR, hA, hX⟩ := g
  intro H locs ls hl hP hD hS
  exact lv_istore_n hx hb hd rfl (zk_lv_has hl) (by rw [hml]; exact hi) rfl (fun ls' hl' => k H locs ls' (zk_lv_st (v := .int x) hs hl') hP hD hS)
theorem zk_astore {T : zk_M} {κ : zk_K} {ω : zk_O} {pc : Nat} {env stk : List Value} {SH : List zk_Sh} {h : zk_H} {i : Nat} {x : Nat} (g : zk_ok T κ ω) (hd : decode T.2.1 pc = .ok (.astore i, 2)) (hi : i < T.2.2.1) (hs : zk_okS env i = true) (k : zk_At κ ω (pc + 2) (env.set i (.ref x)) stk SH h) : zk_At κ ω pc env (.ref x :: stk) SH h := by
  obtain ⟨p, l, e, R, s, m, args, below, meth, c, Q, ce, sl, A⟩ := κ
  obtain ⟨ad, D, cs, ex, adV⟩ := ω
  obtain ⟨hx, hb, hml, hown, hts, hK, hR, hA, hX⟩ := g
  intro H locs ls hl hP hD hS
  exact lv_astore hx hb hd (zk_lv_has hl) (by rw [hml]; exact hi) rfl (fun ls' hl' => k H locs ls' (zk_lv_st (v := .ref x) hs hl') hP hD hS)
theorem zk_astore_n {T : zk_M} {κ : zk_K} {ω : zk_O} {pc : Nat} {env stk : List Value} {SH : List zk_Sh} {h : zk_H} {i : Fin 4} {x : Nat} (g : zk_ok T κ ω) (hd : decode T.2.1 pc = .ok (.astore_n i, 1)) (hi : (i : Nat) < T.2.2.1) (hs : zk_okS env (i : Nat) = true) (k : zk_At κ ω (pc + 1) (env.set (i : Nat) (.ref x)) stk SH h) : zk_At κ ω pc env (.ref x :: stk) SH h := by
  obtain ⟨p, l, e, R, s, m, args, below, meth, c, Q, ce, sl, A⟩ := κ
  obtain ⟨ad, D, cs, ex, adV⟩ := ω
  obtain ⟨hx, hb, hml, hown, hts, hK, hR, hA, hX⟩ := g
  intro H locs ls hl hP hD hS
  exact lv_astore_n hx hb hd rfl (zk_lv_has hl) (by rw [hml]; exact hi) rfl (fun ls' hl' => k H locs ls' (zk_lv_st (v := .ref x) hs hl') hP hD hS)
theorem zk_iinc {T : zk_M} {κ : zk_K} {ω : zk_O} {pc : Nat} {env stk : List Value} {SH : List zk_Sh} {h : zk_H} {i : Nat} {n : Int} {x v : Int32} (g : zk_ok T κ ω) (hd : decode T.2.1 pc = .ok (.iinc i n, 3)) (he : env[i]? = some (.int x)) (hv : x + Int32.ofInt n = v) (hi : i < T.2.2.1) (hs : zk_okS env i = true) (k : zk_At κ ω (pc + 3) (env.set i (.int v)) stk SH h) : zk_At κ ω pc env stk SH h := by
  obtain ⟨p, l, e, R, s, m, args, below, meth, c, Q, ce, sl, A⟩ := κ
  obtain ⟨ad, D, cs, ex, adV⟩ := ω
  obtain ⟨hx, hb, hml, hown, hts, hK, hR, hA, hX⟩ := g
  intro H locs ls hl hP hD hS
  obtain ⟨j, hj⟩ := List.getElem?_of_mem (zk_lst_mem (ad := ad) (ex := ex) (q := (i, .int x)).mpr ⟨.int x, he, by simp, rfl⟩)
  exact lv_iinc hx hb hd (zk_lv_has hl) hj hv (by rw [hml]; exact hi) rfl (fun ls' hl' => k H locs ls' (zk_lv_st (v := .int v) hs hl') hP hD hS)
theorem zk_iadd {T : zk_M} {κ : zk_K} {ω : zk_O} {pc : Nat} {env stk : List Value} {SH : List zk_Sh} {h : zk_H} {x y : Int32} (g : zk_ok T κ ω) (hd : decode T.2.1 pc = .ok (.iadd, 1)) (k : zk_At κ ω (pc + 1) env (.int (x + y) :: stk) SH h) : zk_At κ ω pc env (.int y :: .int x :: stk) SH h := by
  obtain ⟨p, l, e, R, s, m, args, below, meth, c, Q, ce, sl, A⟩ := κ
  obtain ⟨ad, D, cs, ex, adV⟩ := ω
  obtain ⟨hx, hb, hml, hown, hts, hK, hR, hA, hX⟩ := g
  intro H locs ls hl hP hD hS
  exact lv_iadd hx hb hd (k H locs ls hl hP hD hS)
theorem zk_isub {T : zk_M} {κ : zk_K} {ω : zk_O} {pc : Nat} {env stk : List Value} {SH : List zk_Sh} {h : zk_H} {x y : Int32} (g : zk_ok T κ ω) (hd : decode T.2.1 pc = .ok (.isub, 1)) (k : zk_At κ ω (pc + 1) env (.int (x - y) :: stk) SH h) : zk_At κ ω pc env (.int y :: .int x :: stk) SH h := by
  obtain ⟨p, l, e, R, s, m, args, below, meth, c, Q, ce, sl, A⟩ := κ
  obtain ⟨ad, D, cs, ex, adV⟩ := ω
  obtain ⟨hx, hb, hml, hown, hts, hK, hR, hA, hX⟩ := g
  intro H locs ls hl hP hD hS
  exact lv_isub hx hb hd (k H locs ls hl hP hD hS)
theorem zk_imul {T : zk_M} {κ : zk_K} {ω : zk_O} {pc : Nat} {env stk : List Value} {SH : List zk_Sh} {h : zk_H} {x y : Int32} (g : zk_ok T κ ω) (hd : decode T.2.1 pc = .ok (.imul, 1)) (k : zk_At κ ω (pc + 1) env (.int (x * y) :: stk) SH h) : zk_At κ ω pc env (.int y :: .int x :: stk) SH h := by
  obtain ⟨p, l, e, R, s, m, args, below, meth, c, Q, ce, sl, A⟩ := κ
  obtain ⟨ad, D, cs, ex, adV⟩ := ω
  obtain ⟨hx, hb, hml, hown, hts, hK, hR, hA, hX⟩ := g
  intro H locs ls hl hP hD hS
  exact lv_imul hx hb hd (k H locs ls hl hP hD hS)
theorem zk_iand {T : zk_M} {κ : zk_K} {ω : zk_O} {pc : Nat} {env stk : List Value} {SH : List zk_Sh} {h : zk_H} {x y : Int32} (g : zk_ok T κ ω) (hd : decode T.2.1 pc = .ok (.iand, 1)) (k : zk_At κ ω (pc + 1) env (.int (x &&& y) :: stk) SH h) : zk_At κ ω pc env (.int y :: .int x :: stk) SH h := by
  obtain ⟨p, l, e, R, s, m, args, below, meth, c, Q, ce, sl, A⟩ := κ
  obtain ⟨ad, D, cs, ex, adV⟩ := ω
  obtain ⟨hx, hb, hml, hown, hts, hK, hR, hA, hX⟩ := g
  intro H locs ls hl hP hD hS
  exact lv_iand hx hb hd (k H locs ls hl hP hD hS)
theorem zk_ior {T : zk_M} {κ : zk_K} {ω : zk_O} {pc : Nat} {env stk : List Value} {SH : List zk_Sh} {h : zk_H} {x y : Int32} (g : zk_ok T κ ω) (hd : decode T.2.1 pc = .ok (.ior, 1)) (k : zk_At κ ω (pc + 1) env (.int (x ||| y) :: stk) SH h) : zk_At κ ω pc env (.int y :: .int x :: stk) SH h := by
  obtain ⟨p, l, e, R, s, m, args, below, meth, c, Q, ce, sl, A⟩ := κ
  obtain ⟨ad, D, cs, ex, adV⟩ := ω
  obtain ⟨hx, hb, hml, hown, hts, hK, hR, hA, hX⟩ := g
  intro H locs ls hl hP hD hS
  exact lv_ior hx hb hd (k H locs ls hl hP hD hS)
theorem zk_ishl {T : zk_M} {κ : zk_K} {ω : zk_O} {pc : Nat} {env stk : List Value} {SH : List zk_Sh} {h : zk_H} {x y : Int32} (g : zk_ok T κ ω) (hd : decode T.2.1 pc = .ok (.ishl, 1)) (k : zk_At κ ω (pc + 1) env (.int (x <<< (y &&& 31)) :: stk) SH h) : zk_At κ ω pc env (.int y :: .int x :: stk) SH h := by
  obtain ⟨p, l, e, R, s, m, args, below, meth, c, Q, ce, sl, A⟩ := κ
  obtain ⟨ad, D, cs, ex, adV⟩ := ω
  obtain ⟨hx, hb, hml, hown, hts, hK, hR, hA, hX⟩ := g
  intro H locs ls hl hP hD hS
  exact lv_ishl hx hb hd (k H locs ls hl hP hD hS)
theorem zk_ishr {T : zk_M} {κ : zk_K} {ω : zk_O} {pc : Nat} {env stk : List Value} {SH : List zk_Sh} {h : zk_H} {x y : Int32} (g : zk_ok T κ ω) (hd : decode T.2.1 pc = .ok (.ishr, 1)) (k : zk_At κ ω (pc + 1) env (.int (x >>> (y &&& 31)) :: stk) SH h) : zk_At κ ω pc env (.int y :: .int x :: stk) SH h := by
  obtain ⟨p, l, e, R, s, m, args, below, meth, c, Q, ce, sl, A⟩ := κ
  obtain ⟨ad, D, cs, ex, adV⟩ := ω
  obtain ⟨hx, hb, hml, hown, hts, hK, hR, hA, hX⟩ := g
  intro H locs ls hl hP hD hS
  exact lv_ishr hx hb hd (k H locs ls hl hP hD hS)
theorem zk_iushr {T : zk_M} {κ : zk_K} {ω : zk_O} {pc : Nat} {env stk : List Value} {SH : List zk_Sh} {h : zk_H} {x y : Int32} (g : zk_ok T κ ω) (hd : decode T.2.1 pc = .ok (.iushr, 1)) (k : zk_At κ ω (pc + 1) env (.int ((x.toUInt32 >>> (y.toUInt32 &&& Int32.toUInt32 31)).toInt32) :: stk) SH h) : zk_At κ ω pc env (.int y :: .int x :: stk) SH h := by
  obtain ⟨p, l, e, R, s, m, args, below, meth, c, Q, ce, sl, A⟩ := κ
  obtain ⟨ad, D, cs, ex, adV⟩ := ω
  obtain ⟨hx, hb, hml, hown, hts, hK, hR, hA, hX⟩ := g
  intro H locs ls hl hP hD hS
  exact lv_iushr hx hb hd rfl (k H locs ls hl hP hD hS)
theorem zk_idiv {T : zk_M} {κ : zk_K} {ω : zk_O} {pc : Nat} {env stk : List Value} {SH : List zk_Sh} {h : zk_H} {x y : Int32} (g : zk_ok T κ ω) (hd : decode T.2.1 pc = .ok (.idiv, 1)) (hy : ¬ y = 0) (k : zk_At κ ω (pc + 1) env (.int (x / y) :: stk) SH h) : zk_At κ ω pc env (.int y :: .int x :: stk) SH h := by
  obtain ⟨p, l, e, R, s, m, args, below, meth, c, Q, ce, sl, A⟩ := κ
  obtain ⟨ad, D, cs, ex, adV⟩ := ω
  obtain ⟨hx, hb, hml, hown, hts, hK, hR, hA, hX⟩ := g
  intro H locs ls hl hP hD hS
  exact lv_idiv hx hb hd hy (k H locs ls hl hP hD hS)
theorem zk_irem {T : zk_M} {κ : zk_K} {ω : zk_O} {pc : Nat} {env stk : List Value} {SH : List zk_Sh} {h : zk_H} {x y : Int32} (g : zk_ok T κ ω) (hd : decode T.2.1 pc = .ok (.irem, 1)) (hy : ¬ y = 0) (k : zk_At κ ω (pc + 1) env (.int (x - x / y * y) :: stk) SH h) : zk_At κ ω pc env (.int y :: .int x :: stk) SH h := by
  obtain ⟨p, l, e, R, s, m, args, below, meth, c, Q, ce, sl, A⟩ := κ
  obtain ⟨ad, D, cs, ex, adV⟩ := ω
  obtain ⟨hx, hb, hml, hown, hts, hK, hR, hA, hX⟩ := g
  intro H locs ls hl hP hD hS
  exact lv_irem hx hb hd hy (k H locs ls hl hP hD hS)
theorem zk_ineg {T : zk_M} {κ : zk_K} {ω : zk_O} {pc : Nat} {env stk : List Value} {SH : List zk_Sh} {h : zk_H} {x : Int32} (g : zk_ok T κ ω) (hd : decode T.2.1 pc = .ok (.ineg, 1)) (k : zk_At κ ω (pc + 1) env (.int (-x) :: stk) SH h) : zk_At κ ω pc env (.int x :: stk) SH h := by
  obtain ⟨p, l, e, R, s, m, args, below, meth, c, Q, ce, sl, A⟩ := κ
  obtain ⟨ad, D, cs, ex, adV⟩ := ω
  obtain ⟨hx, hb, hml, hown, hts, hK, hR, hA, hX⟩ := g
  intro H locs ls hl hP hD hS
  exact lv_ineg hx hb hd (k H locs ls hl hP hD hS)
theorem zk_i2l {T : zk_M} {κ : zk_K} {ω : zk_O} {pc : Nat} {env stk : List Value} {SH : List zk_Sh} {h : zk_H} {x : Int32} (g : zk_ok T κ ω) (hd : decode T.2.1 pc = .ok (.i2l, 1)) (k : zk_At κ ω (pc + 1) env (.long x.toInt64 :: stk) SH h) : zk_At κ ω pc env (.int x :: stk) SH h := by
  obtain ⟨p, l, e, R, s, m, args, below, meth, c, Q, ce, sl, A⟩ := κ
  obtain ⟨ad, D, cs, ex, adV⟩ := ω
  obtain ⟨hx, hb, hml, hown, hts, hK, hR, hA, hX⟩ := g
  intro H locs ls hl hP hD hS
  exact lv_i2l hx hb hd rfl (k H locs ls hl hP hD hS)
theorem zk_l2i {T : zk_M} {κ : zk_K} {ω : zk_O} {pc : Nat} {env stk : List Value} {SH : List zk_Sh} {h : zk_H} {x : Int64} (g : zk_ok T κ ω) (hd : decode T.2.1 pc = .ok (.l2i, 1)) (k : zk_At κ ω (pc + 1) env (.int x.toInt32 :: stk) SH h) : zk_At κ ω pc env (.long x :: stk) SH h := by
  obtain ⟨p, l, e, R, s, m, args, below, meth, c, Q, ce, sl, A⟩ := κ
  obtain ⟨ad, D, cs, ex, adV⟩ := ω
  obtain ⟨hx, hb, hml, hown, hts, hK, hR, hA, hX⟩ := g
  intro H locs ls hl hP hD hS
  exact lv_l2i hx hb hd rfl (k H locs ls hl hP hD hS)
theorem zk_land {T : zk_M} {κ : zk_K} {ω : zk_O} {pc : Nat} {env stk : List Value} {SH : List zk_Sh} {h : zk_H} {x y : Int64} (g : zk_ok T κ ω) (hd : decode T.2.1 pc = .ok (.land, 1)) (k : zk_At κ ω (pc + 1) env (.long (x &&& y) :: stk) SH h) : zk_At κ ω pc env (.long y :: .long x :: stk) SH h := by
  obtain ⟨p, l, e, R, s, m, args, below, meth, c, Q, ce, sl, A⟩ := κ
  obtain ⟨ad, D, cs, ex, adV⟩ := ω
  obtain ⟨hx, hb, hml, hown, hts, hK, hR, hA, hX⟩ := g
  intro H locs ls hl hP hD hS
  exact lv_land hx hb hd (k H locs ls hl hP hD hS)
theorem zk_lor {T : zk_M} {κ : zk_K} {ω : zk_O} {pc : Nat} {env stk : List Value} {SH : List zk_Sh} {h : zk_H} {x y : Int64} (g : zk_ok T κ ω) (hd : decode T.2.1 pc = .ok (.lor, 1)) (k : zk_At κ ω (pc + 1) env (.long (x ||| y) :: stk) SH h) : zk_At κ ω pc env (.long y :: .long x :: stk) SH h := by
  obtain ⟨p, l, e, R, s, m, args, below, meth, c, Q, ce, sl, A⟩ := κ
  obtain ⟨ad, D, cs, ex, adV⟩ := ω
  obtain ⟨hx, hb, hml, hown, hts, hK, hR, hA, hX⟩ := g
  intro H locs ls hl hP hD hS
  exact lv_lor hx hb hd (k H locs ls hl hP hD hS)
theorem zk_lshl {T : zk_M} {κ : zk_K} {ω : zk_O} {pc : Nat} {env stk : List Value} {SH : List zk_Sh} {h : zk_H} {x : Int64} {y : Int32} (g : zk_ok T κ ω) (hd : decode T.2.1 pc = .ok (.lshl, 1)) (k : zk_At κ ω (pc + 1) env (.long (x <<< (y.toInt64 &&& 63)) :: stk) SH h) : zk_At κ ω pc env (.int y :: .long x :: stk) SH h := by
  obtain ⟨p, l, e, R, s, m, args, below, meth, c, Q, ce, sl, A⟩ := κ
  obtain ⟨ad, D, cs, ex, adV⟩ := ω
  obtain ⟨hx, hb, hml, hown, hts, hK, hR, hA, hX⟩ := g
  intro H locs ls hl hP hD hS
  exact lv_lshl hx hb hd rfl (k H locs ls hl hP hD hS)
theorem zk_lushr {T : zk_M} {κ : zk_K} {ω : zk_O} {pc : Nat} {env stk : List Value} {SH : List zk_Sh} {h : zk_H} {x : Int64} {y : Int32} (g : zk_ok T κ ω) (hd : decode T.2.1 pc = .ok (.lushr, 1)) (k : zk_At κ ω (pc + 1) env (.long ((x.toUInt64 >>> (y.toInt64.toUInt64 &&& Int64.toUInt64 63)).toInt64) :: stk) SH h) : zk_At κ ω pc env (.int y :: .long x :: stk) SH h := by
  obtain ⟨p, l, e, R, s, m, args, below, meth, c, Q, ce, sl, A⟩ := κ
  obtain ⟨ad, D, cs, ex, adV⟩ := ω
  obtain ⟨hx, hb, hml, hown, hts, hK, hR, hA, hX⟩ := g
  intro H locs ls hl hP hD hS
  exact lv_lushr hx hb hd rfl (k H locs ls hl hP hD hS)
theorem zk_dup {T : zk_M} {κ : zk_K} {ω : zk_O} {pc : Nat} {env stk : List Value} {SH : List zk_Sh} {h : zk_H} {v : Value} (g : zk_ok T κ ω) (hd : decode T.2.1 pc = .ok (.dup, 1)) (hc : v.category = 1) (k : zk_At κ ω (pc + 1) env (v :: v :: stk) SH h) : zk_At κ ω pc env (v :: stk) SH h := by
  obtain ⟨p, l, e, R, s, m, args, below, meth, c, Q, ce, sl, A⟩ := κ
  obtain ⟨ad, D, cs, ex, adV⟩ := ω
  obtain ⟨hx, hb, hml, hown, hts, hK, hR, hA, hX⟩ := g
  intro H locs ls hl hP hD hS
  exact lv_dup hx hb hd (by rw [zk_cat]; exact hc) (k H locs ls hl hP hD hS)
theorem zk_dup2 {T : zk_M} {κ : zk_K} {ω : zk_O} {pc : Nat} {env stk : List Value} {SH : List zk_Sh} {h : zk_H} {v w : Value} (g : zk_ok T κ ω) (hd : decode T.2.1 pc = .ok (.dup2, 1)) (hc : v.category = 1) (hc2 : w.category = 1) (k : zk_At κ ω (pc + 1) env (v :: w :: v :: w :: stk) SH h) : zk_At κ ω pc env (v :: w :: stk) SH h := by
  obtain ⟨p, l, e, R, s, m, args, below, meth, c, Q, ce, sl, A⟩ := κ
  obtain ⟨ad, D, cs, ex, adV⟩ := ω
  obtain ⟨hx, hb, hml, hown, hts, hK, hR, hA, hX⟩ := g
  intro H locs ls hl hP hD hS
  exact lv_dup2_11 hx hb hd (by rw [zk_cat]; exact hc) (by rw [zk_cat]; exact hc2) (k H locs ls hl hP hD hS)
theorem zk_pop {T : zk_M} {κ : zk_K} {ω : zk_O} {pc : Nat} {env stk : List Value} {SH : List zk_Sh} {h : zk_H} {v : Value} (g : zk_ok T κ ω) (hd : decode T.2.1 pc = .ok (.pop, 1)) (hc : v.category = 1) (k : zk_At κ ω (pc + 1) env stk SH h) : zk_At κ ω pc env (v :: stk) SH h := by
  obtain ⟨p, l, e, R, s, m, args, below, meth, c, Q, ce, sl, A⟩ := κ
  obtain ⟨ad, D, cs, ex, adV⟩ := ω
  obtain ⟨hx, hb, hml, hown, hts, hK, hR, hA, hX⟩ := g
  intro H locs ls hl hP hD hS
  exact lv_pop hx hb hd (by rw [zk_cat]; exact hc) (k H locs ls hl hP hD hS)
theorem zk_goto {T : zk_M} {κ : zk_K} {ω : zk_O} {pc : Nat} {env stk : List Value} {SH : List zk_Sh} {h : zk_H} {o : Int} {t : Nat} (g : zk_ok T κ ω) (hd : decode T.2.1 pc = .ok (.goto o, 3)) (ht : (pc : Int) + o = (t : Int)) (k : zk_At κ ω t env stk SH h) : zk_At κ ω pc env stk SH h := by
  obtain ⟨p, l, e, R, s, m, args, below, meth, c, Q, ce, sl, A⟩ := κ
  obtain ⟨ad, D, cs, ex, adV⟩ := ω
  obtain ⟨hx, hb, hml, hown, hts, hK, hR, hA, hX⟩ := g
  intro H locs ls hl hP hD hS
  exact lv_goto hx hb hd ht (k H locs ls hl hP hD hS)
theorem zk_j2eq {T : zk_M} {κ : zk_K} {ω : zk_O} {pc : Nat} {env stk : List Value} {SH : List zk_Sh} {h : zk_H} {x y : Int32} {o : Int} {t : Nat} (g : zk_ok T κ ω) (hd : decode T.2.1 pc = .ok (.if_icmp .eq o, 3)) (ht : (pc : Int) + o = (t : Int)) (kt : x = y → zk_At κ ω t env stk SH h) (kf : ¬ (x = y) → zk_At κ ω (pc + 3) env stk SH h) : zk_At κ ω pc env (.int y :: .int x :: stk) SH h := by
  obtain ⟨p, l, e, R, s, m, args, below, meth, c, Q, ce, sl, A⟩ := κ
  obtain ⟨ad, D, cs, ex, adV⟩ := ω
  obtain ⟨hx, hb, hml, hown, hts, hK, hR, hA, hX⟩ := g
  intro H locs ls hl hP hD hS
  exact lv_icmp_eq hx hb hd ht (fun q => kt q H locs ls hl hP hD hS) (fun q => kf q H locs ls hl hP hD hS)
theorem zk_j1eq {T : zk_M} {κ : zk_K} {ω : zk_O} {pc : Nat} {env stk : List Value} {SH : List zk_Sh} {h : zk_H} {x : Int32} {o : Int} {t : Nat} (g : zk_ok T κ ω) (hd : decode T.2.1 pc = .ok (.ifCond .eq o, 3)) (ht : (pc : Int) + o = (t : Int)) (kt : x = 0 → zk_At κ ω t env stk SH h) (kf : ¬ (x = 0) → zk_At κ ω (pc + 3) env stk SH h) : zk_At κ ω pc env (.int x :: stk) SH h := by
  obtain ⟨p, l, e, R, s, m, args, below, meth, c, Q, ce, sl, A⟩ := κ
  obtain ⟨ad, D, cs, ex, adV⟩ := ω
  obtain ⟨hx, hb, hml, hown, hts, hK, hR, hA, hX⟩ := g
  intro H locs ls hl hP hD hS
  exact lv_if_eq hx hb hd ht (fun q => kt q H locs ls hl hP hD hS) (fun q => kf q H locs ls hl hP hD hS)
theorem zk_j2ne {T : zk_M} {κ : zk_K} {ω : zk_O} {pc : Nat} {env stk : List Value} {SH : List zk_Sh} {h : zk_H} {x y : Int32} {o : Int} {t : Nat} (g : zk_ok T κ ω) (hd : decode T.2.1 pc = .ok (.if_icmp .ne o, 3)) (ht : (pc : Int) + o = (t : Int)) (kt : ¬ x = y → zk_At κ ω t env stk SH h) (kf : ¬ (¬ x = y) → zk_At κ ω (pc + 3) env stk SH h) : zk_At κ ω pc env (.int y :: .int x :: stk) SH h := by
  obtain ⟨p, l, e, R, s, m, args, below, meth, c, Q, ce, sl, A⟩ := κ
  obtain ⟨ad, D, cs, ex, adV⟩ := ω
  obtain ⟨hx, hb, hml, hown, hts, hK, hR, hA, hX⟩ := g
  intro H locs ls hl hP hD hS
  exact lv_icmp_ne hx hb hd ht (fun q => kt q H locs ls hl hP hD hS) (fun q => kf (fun z => z q) H locs ls hl hP hD hS)
theorem zk_j1ne {T : zk_M} {κ : zk_K} {ω : zk_O} {pc : Nat} {env stk : List Value} {SH : List zk_Sh} {h : zk_H} {x : Int32} {o : Int} {t : Nat} (g : zk_ok T κ ω) (hd : decode T.2.1 pc = .ok (.ifCond .ne o, 3)) (ht : (pc : Int) + o = (t : Int)) (kt : ¬ x = 0 → zk_At κ ω t env stk SH h) (kf : ¬ (¬ x = 0) → zk_At κ ω (pc + 3) env stk SH h) : zk_At κ ω pc env (.int x :: stk) SH h := by
  obtain ⟨p, l, e, R, s, m, args, below, meth, c, Q, ce, sl, A⟩ := κ
  obtain ⟨ad, D, cs, ex, adV⟩ := ω
  obtain ⟨hx, hb, hml, hown, hts, hK, hR, hA, hX⟩ := g
  intro H locs ls hl hP hD hS
  exact lv_if_ne hx hb hd ht (fun q => kt q H locs ls hl hP hD hS) (fun q => kf (fun z => z q) H locs ls hl hP hD hS)
theorem zk_j2lt {T : zk_M} {κ : zk_K} {ω : zk_O} {pc : Nat} {env stk : List Value} {SH : List zk_Sh} {h : zk_H} {x y : Int32} {o : Int} {t : Nat} (g : zk_ok T κ ω) (hd : decode T.2.1 pc = .ok (.if_icmp .lt o, 3)) (ht : (pc : Int) + o = (t : Int)) (kt : x < y → zk_At κ ω t env stk SH h) (kf : ¬ (x < y) → zk_At κ ω (pc + 3) env stk SH h) : zk_At κ ω pc env (.int y :: .int x :: stk) SH h := by
  obtain ⟨p, l, e, R, s, m, args, below, meth, c, Q, ce, sl, A⟩ := κ
  obtain ⟨ad, D, cs, ex, adV⟩ := ω
  obtain ⟨hx, hb, hml, hown, hts, hK, hR, hA, hX⟩ := g
  intro H locs ls hl hP hD hS
  exact lv_icmp_lt hx hb hd ht (fun q => kt q H locs ls hl hP hD hS) (fun q => kf q H locs ls hl hP hD hS)
theorem zk_j1lt {T : zk_M} {κ : zk_K} {ω : zk_O} {pc : Nat} {env stk : List Value} {SH : List zk_Sh} {h : zk_H} {x : Int32} {o : Int} {t : Nat} (g : zk_ok T κ ω) (hd : decode T.2.1 pc = .ok (.ifCond .lt o, 3)) (ht : (pc : Int) + o = (t : Int)) (kt : x < 0 → zk_At κ ω t env stk SH h) (kf : ¬ (x < 0) → zk_At κ ω (pc + 3) env stk SH h) : zk_At κ ω pc env (.int x :: stk) SH h := by
  obtain ⟨p, l, e, R, s, m, args, below, meth, c, Q, ce, sl, A⟩ := κ
  obtain ⟨ad, D, cs, ex, adV⟩ := ω
  obtain ⟨hx, hb, hml, hown, hts, hK, hR, hA, hX⟩ := g
  intro H locs ls hl hP hD hS
  exact lv_if_lt hx hb hd ht (fun q => kt q H locs ls hl hP hD hS) (fun q => kf q H locs ls hl hP hD hS)
theorem zk_j2ge {T : zk_M} {κ : zk_K} {ω : zk_O} {pc : Nat} {env stk : List Value} {SH : List zk_Sh} {h : zk_H} {x y : Int32} {o : Int} {t : Nat} (g : zk_ok T κ ω) (hd : decode T.2.1 pc = .ok (.if_icmp .ge o, 3)) (ht : (pc : Int) + o = (t : Int)) (kt : y ≤ x → zk_At κ ω t env stk SH h) (kf : ¬ (y ≤ x) → zk_At κ ω (pc + 3) env stk SH h) : zk_At κ ω pc env (.int y :: .int x :: stk) SH h := by
  obtain ⟨p, l, e, R, s, m, args, below, meth, c, Q, ce, sl, A⟩ := κ
  obtain ⟨ad, D, cs, ex, adV⟩ := ω
  obtain ⟨hx, hb, hml, hown, hts, hK, hR, hA, hX⟩ := g
  intro H locs ls hl hP hD hS
  exact lv_icmp_ge hx hb hd ht (fun q => kt q H locs ls hl hP hD hS) (fun q => kf q H locs ls hl hP hD hS)
theorem zk_j1ge {T : zk_M} {κ : zk_K} {ω : zk_O} {pc : Nat} {env stk : List Value} {SH : List zk_Sh} {h : zk_H} {x : Int32} {o : Int} {t : Nat} (g : zk_ok T κ ω) (hd : decode T.2.1 pc = .ok (.ifCond .ge o, 3)) (ht : (pc : Int) + o = (t : Int)) (kt : 0 ≤ x → zk_At κ ω t env stk SH h) (kf : ¬ (0 ≤ x) → zk_At κ ω (pc + 3) env stk SH h) : zk_At κ ω pc env (.int x :: stk) SH h := by
  obtain ⟨p, l, e, R, s, m, args, below, meth, c, Q, ce, sl, A⟩ := κ
  obtain ⟨ad, D, cs, ex, adV⟩ := ω
  obtain ⟨hx, hb, hml, hown, hts, hK, hR, hA, hX⟩ := g
  intro H locs ls hl hP hD hS
  exact lv_if_ge hx hb hd ht (fun q => kt q H locs ls hl hP hD hS) (fun q => kf q H locs ls hl hP hD hS)
theorem zk_j2gt {T : zk_M} {κ : zk_K} {ω : zk_O} {pc : Nat} {env stk : List Value} {SH : List zk_Sh} {h : zk_H} {x y : Int32} {o : Int} {t : Nat} (g : zk_ok T κ ω) (hd : decode T.2.1 pc = .ok (.if_icmp .gt o, 3)) (ht : (pc : Int) + o = (t : Int)) (kt : y < x → zk_At κ ω t env stk SH h) (kf : ¬ (y < x) → zk_At κ ω (pc + 3) env stk SH h) : zk_At κ ω pc env (.int y :: .int x :: stk) SH h := by
  obtain ⟨p, l, e, R, s, m, args, below, meth, c, Q, ce, sl, A⟩ := κ
  obtain ⟨ad, D, cs, ex, adV⟩ := ω
  obtain ⟨hx, hb, hml, hown, hts, hK, hR, hA, hX⟩ := g
  intro H locs ls hl hP hD hS
  exact lv_icmp_gt hx hb hd ht (fun q => kt q H locs ls hl hP hD hS) (fun q => kf q H locs ls hl hP hD hS)
theorem zk_j1gt {T : zk_M} {κ : zk_K} {ω : zk_O} {pc : Nat} {env stk : List Value} {SH : List zk_Sh} {h : zk_H} {x : Int32} {o : Int} {t : Nat} (g : zk_ok T κ ω) (hd : decode T.2.1 pc = .ok (.ifCond .gt o, 3)) (ht : (pc : Int) + o = (t : Int)) (kt : 0 < x → zk_At κ ω t env stk SH h) (kf : ¬ (0 < x) → zk_At κ ω (pc + 3) env stk SH h) : zk_At κ ω pc env (.int x :: stk) SH h := by
  obtain ⟨p, l, e, R, s, m, args, below, meth, c, Q, ce, sl, A⟩ := κ
  obtain ⟨ad, D, cs, ex, adV⟩ := ω
  obtain ⟨hx, hb, hml, hown, hts, hK, hR, hA, hX⟩ := g
  intro H locs ls hl hP hD hS
  exact lv_if_gt hx hb hd ht (fun q => kt q H locs ls hl hP hD hS) (fun q => kf q H locs ls hl hP hD hS)
theorem zk_j2le {T : zk_M} {κ : zk_K} {ω : zk_O} {pc : Nat} {env stk : List Value} {SH : List zk_Sh} {h : zk_H} {x y : Int32} {o : Int} {t : Nat} (g : zk_ok T κ ω) (hd : decode T.2.1 pc = .ok (.if_icmp .le o, 3)) (ht : (pc : Int) + o = (t : Int)) (kt : x ≤ y → zk_At κ ω t env stk SH h) (kf : ¬ (x ≤ y) → zk_At κ ω (pc + 3) env stk SH h) : zk_At κ ω pc env (.int y :: .int x :: stk) SH h := by
  obtain ⟨p, l, e, R, s, m, args, below, meth, c, Q, ce, sl, A⟩ := κ
  obtain ⟨ad, D, cs, ex, adV⟩ := ω
  obtain ⟨hx, hb, hml, hown, hts, hK, hR, hA, hX⟩ := g
  intro H locs ls hl hP hD hS
  exact lv_icmp_le hx hb hd ht (fun q => kt q H locs ls hl hP hD hS) (fun q => kf q H locs ls hl hP hD hS)
theorem zk_j1le {T : zk_M} {κ : zk_K} {ω : zk_O} {pc : Nat} {env stk : List Value} {SH : List zk_Sh} {h : zk_H} {x : Int32} {o : Int} {t : Nat} (g : zk_ok T κ ω) (hd : decode T.2.1 pc = .ok (.ifCond .le o, 3)) (ht : (pc : Int) + o = (t : Int)) (kt : x ≤ 0 → zk_At κ ω t env stk SH h) (kf : ¬ (x ≤ 0) → zk_At κ ω (pc + 3) env stk SH h) : zk_At κ ω pc env (.int x :: stk) SH h := by
  obtain ⟨p, l, e, R, s, m, args, below, meth, c, Q, ce, sl, A⟩ := κ
  obtain ⟨ad, D, cs, ex, adV⟩ := ω
  obtain ⟨hx, hb, hml, hown, hts, hK, hR, hA, hX⟩ := g
  intro H locs ls hl hP hD hS
  exact lv_if_le hx hb hd ht (fun q => kt q H locs ls hl hP hD hS) (fun q => kf q H locs ls hl hP hD hS)
