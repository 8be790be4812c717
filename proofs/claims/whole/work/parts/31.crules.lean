/-! one instruction of a constructor -/
section ZCR
variable {T : zk_M} {κ : zc_K} {ω : zc_O} {pc : Nat} {env stk : List Value} {SH : List zk_Sh} {h : zk_H} {ce sl : Nat}
theorem zc_iconst {n : Int} (g : zc_ok T κ ω) (hd : decode T.2.1 pc = .ok (.iconst n, 1)) (k : zc_At κ ω (pc + 1, env, .int (Int32.ofInt n) :: stk, SH, h, ce, sl)) : zc_At κ ω (pc, env, stk, SH, h, ce, sl) := by
  obtain ⟨p, l, e, R, s, m, args, below, meth, c, Q⟩ := κ
  obtain ⟨B, D, cs⟩ := ω
  obtain ⟨hx, hb, hml, hown, hts, hK, hR, hB, hX, hnm⟩ := g
  intro H locs ls hl hP hS hz
  exact lv_iconst hx hb hd rfl (k H locs ls hl hP hS hz)
theorem zc_bipush {n : Int} (g : zc_ok T κ ω) (hd : decode T.2.1 pc = .ok (.bipush n, 2)) (k : zc_At κ ω (pc + 2, env, .int ((Int8.ofInt n).toInt32) :: stk, SH, h, ce, sl)) : zc_At κ ω (pc, env, stk, SH, h, ce, sl) := by
  obtain ⟨p, l, e, R, s, m, args, below, meth, c, Q⟩ := κ
  obtain ⟨B, D, cs⟩ := ω
  obtain ⟨hx, hb, hml, hown, hts, hK, hR, hB, hX, hnm⟩ := g
  intro H locs ls hl hP hS hz
  exact lv_bipush hx hb hd rfl (k H locs ls hl hP hS hz)
theorem zc_sipush {n : Int} (g : zc_ok T κ ω) (hd : decode T.2.1 pc = .ok (.sipush n, 3)) (k : zc_At κ ω (pc + 3, env, .int ((Int16.ofInt n).toInt32) :: stk, SH, h, ce, sl)) : zc_At κ ω (pc, env, stk, SH, h, ce, sl) := by
  obtain ⟨p, l, e, R, s, m, args, below, meth, c, Q⟩ := κ
  obtain ⟨B, D, cs⟩ := ω
  obtain ⟨hx, hb, hml, hown, hts, hK, hR, hB, hX, hnm⟩ := g
  intro H locs ls hl hP hS hz
  exact lv_sipush hx hb hd rfl (k H locs ls hl hP hS hz)
theorem zc_aload_n {i : Fin 4} {x : Nat} (g : zc_ok T κ ω) (hd : decode T.2.1 pc = .ok (.aload_n i, 1)) (he : env[(i : Nat)]? = some (.ref x)) (k : zc_At κ ω (pc + 1, env, .ref x :: stk, SH, h, ce, sl)) : zc_At κ ω (pc, env, stk, SH, h, ce, sl) := by
  obtain ⟨p, l, e, R, s, m, args, below, meth, c, Q⟩ := κ
  obtain ⟨B, D, cs⟩ := ω
  obtain ⟨hx, hb, hml, hown, hts, hK, hR, hB, hX, hnm⟩ := g
  intro H locs ls hl hP hS hz
  exact lv_aload_n hx hb hd rfl (zk_lv_get hl he (by simp)) (k H locs ls hl hP hS hz)
theorem zc_iload_n {i : Fin 4} {x : Int32} (g : zc_ok T κ ω) (hd : decode T.2.1 pc = .ok (.iload_n i, 1)) (he : env[(i : Nat)]? = some (.int x)) (k : zc_At κ ω (pc + 1, env, .int x :: stk, SH, h, ce, sl)) : zc_At κ ω (pc, env, stk, SH, h, ce, sl) := by
  obtain ⟨p, l, e, R, s, m, args, below, meth, c, Q⟩ := κ
  obtain ⟨B, D, cs⟩ := ω
  obtain ⟨hx, hb, hml, hown, hts, hK, hR, hB, hX, hnm⟩ := g
  intro H locs ls hl hP hS hz
  exact lv_iload_n hx hb hd rfl (zk_lv_get hl he (by simp)) (k H locs ls hl hP hS hz)
theorem zc_istore_n {i : Fin 4} {x : Int32} (g : zc_ok T κ ω) (hd : decode T.2.1 pc = .ok (.istore_n i, 1)) (hi : (i : Nat) < T.2.2.1) (hs : zk_okS env (i : Nat) = true) (k : zc_At κ ω (pc + 1, env.set (i : Nat) (.int x), stk, SH, h, ce, sl)) : zc_At κ ω (pc, env, .int x :: stk, SH, h, ce, sl) := by
  obtain ⟨p, l, e, R, s, m, args, below, meth, c, Q⟩ := κ
  obtain ⟨B, D, cs⟩ := ω
  obtain ⟨hx, hb, hml, hown, hts, hK, hR, hB, hX, hnm⟩ := g
  intro H locs ls hl hP hS hz
  exact lv_istore_n hx hb hd rfl (zk_lv_has hl) (by rw [hml]; exact hi) rfl (fun ls' hl' => k H locs ls' (zk_lv_st (v := .int x) hs hl') hP hS hz)
theorem zc_iinc {i : Nat} {n : Int} {x : Int32} (g : zc_ok T κ ω) (hd : decode T.2.1 pc = .ok (.iinc i n, 3)) (he : env[i]? = some (.int x)) (hi : i < T.2.2.1) (hs : zk_okS env i = true) (k : zc_At κ ω (pc + 3, env.set i (.int (x + Int32.ofInt n)), stk, SH, h, ce, sl)) : zc_At κ ω (pc, env, stk, SH, h, ce, sl) := by
  obtain ⟨p, l, e, R, s, m, args, below, meth, c, Q⟩ := κ
  obtain ⟨B, D, cs⟩ := ω
  obtain ⟨hx, hb, hml, hown, hts, hK, hR, hB, hX, hnm⟩ := g
  intro H locs ls hl hP hS hz
  obtain ⟨j, hj⟩ := List.getElem?_of_mem (zk_lst_mem (ad := zc_ad B) (ex := id) (q := (i, .int x)).mpr ⟨.int x, he, by simp, rfl⟩)
  exact lv_iinc hx hb hd (zk_lv_has hl) hj rfl (by rw [hml]; exact hi) rfl (fun ls' hl' => k H locs ls' (zk_lv_st (v := .int (x + Int32.ofInt n)) hs hl') hP hS hz)
theorem zc_dup {v : Value} (g : zc_ok T κ ω) (hd : decode T.2.1 pc = .ok (.dup, 1)) (hc : v.category = 1) (k : zc_At κ ω (pc + 1, env, v :: v :: stk, SH, h, ce, sl)) : zc_At κ ω (pc, env, v :: stk, SH, h, ce, sl) := by
  obtain ⟨p, l, e, R, s, m, args, below, meth, c, Q⟩ := κ
  obtain ⟨B, D, cs⟩ := ω
  obtain ⟨hx, hb, hml, hown, hts, hK, hR, hB, hX, hnm⟩ := g
  intro H locs ls hl hP hS hz
  exact lv_dup hx hb hd (by rw [zk_cat]; exact hc) (k H locs ls hl hP hS hz)
theorem zc_goto {o : Int} {t : Nat} (g : zc_ok T κ ω) (hd : decode T.2.1 pc = .ok (.goto o, 3)) (ht : (pc : Int) + o = (t : Int)) (k : zc_At κ ω (t, env, stk, SH, h, ce, sl)) : zc_At κ ω (pc, env, stk, SH, h, ce, sl) := by
  obtain ⟨p, l, e, R, s, m, args, below, meth, c, Q⟩ := κ
  obtain ⟨B, D, cs⟩ := ω
  obtain ⟨hx, hb, hml, hown, hts, hK, hR, hB, hX, hnm⟩ := g
  intro H locs ls hl hP hS hz
  exact lv_goto hx hb hd ht (k H locs ls hl hP hS hz)
theorem zc_ifge {x y : Int32} {o : Int} {t : Nat} (g : zc_ok T κ ω) (hd : decode T.2.1 pc = .ok (.if_icmp .ge o, 3)) (ht : (pc : Int) + o = (t : Int)) (k : zc_At κ ω (if y ≤ x then t else pc + 3, env, stk, SH, h, ce, sl)) : zc_At κ ω (pc, env, .int y :: .int x :: stk, SH, h, ce, sl) := by
  obtain ⟨p, l, e, R, s, m, args, below, meth, c, Q⟩ := κ
  obtain ⟨B, D, cs⟩ := ω
  obtain ⟨hx, hb, hml, hown, hts, hK, hR, hB, hX, hnm⟩ := g
  intro H locs ls hl hP hS hz
  have k' := k H locs ls hl hP hS hz
  exact lv_icmp_ge hx hb hd ht (fun q => by rw [if_pos q] at k'; exact k') (fun q => by rw [if_neg q] at k'; exact k')
theorem zc_getf {i ci j a : Nat} {fs : List zk_Fd} {f : zk_Fd} {v : Value} (g : zc_ok T κ ω) (hd : decode T.2.1 pc = .ok (.getfield i, 3)) (hf : zk_FL T.1 i ci j) (hs : SH[a]? = some (.inl (ci, fs))) (hk : fs[j]? = some f) (hv : zk_av h a j f = some v) (k : zc_At κ ω (pc + 3, env, v :: stk, SH, h, ce, sl)) : zc_At κ ω (pc, env, .ref a :: stk, SH, h, ce, sl) := by
  obtain ⟨p, l, e, R, s, m, args, below, meth, c, Q⟩ := κ
  obtain ⟨B, D, cs⟩ := ω
  obtain ⟨hx, hb, hml, hown, hts, hK, hR, hB, hX, hnm⟩ := g
  intro H locs ls hl hP hS hz
  obtain ⟨C, Tb, N, hc, hkN, hlk, hin⟩ := hf
  have e1 : zk_fv (zc_ad B) (h a) j f = zk_cv (zc_ad B) id v := by
    cases f with
    | none => simp only [zk_av, Option.some.injEq] at hv; subst hv; rfl
    | some r => cases r with
      | none => simp [zk_av] at hv
      | some r => simp only [zk_av, Option.some.injEq] at hv; subst hv; rfl
  refine va_get (D := D) (ci := ci) (v := zk_cv (zc_ad B) id v) (C := C) (T := Tb) (N := N) hx hb hts hin hown hK hP a (zk_lay_at hs) hc j hkN (hts _ hlk) (fun _ z => z) ?_ hd (k H locs ls hl hP hS hz)
  rw [← e1]
  simp [List.getElem?_mapIdx, hk]
theorem zc_iast {a n : Nat} {i x : Int32} (g : zc_ok T κ ω) (hd : decode T.2.1 pc = .ok (.iastore, 1)) (hs : SH[a]? = some (.inr (.inl n))) (hi : vp_in i n) (k : zc_At κ ω (pc + 1, env, stk, SH, zk_up h a i.toNatClampNeg x, ce, sl)) : zc_At κ ω (pc, env, .int x :: .int i :: .ref a :: stk, SH, h, ce, sl) := by
  obtain ⟨p, l, e, R, s, m, args, below, meth, c, Q⟩ := κ
  obtain ⟨B, D, cs⟩ := ω
  obtain ⟨hx, hb, hml, hown, hts, hK, hR, hB, hX, hnm⟩ := g
  intro H locs ls hl hP hS hz
  have ha := zk_lay_at (ad := zc_ad B) (cs := cs) (h := h) hs
  have ht : (zk_tys cs)[0]? = some (cs 0, .int) := rfl
  refine W.iast hx hb (hP a _ ha) ((hK.2 0 _ ht).1 n (fun j => .int (h a j))) (fun q => by cases q) (by show ¬ (i < 0 ∨ (arrV _ _ _).slots.size ≤ _); rw [arrV_size]; exact hi) rfl rfl hd fun H1 e1 z oq => ?_
  have hD : va_D (fun q => B ≤ q) (zk_lay (zc_ad B) cs SH h) := zc_D
  have hP1 := hP.set hD ha (e := .inl (cs 0, n, .inl (upd (h a) i.toNatClampNeg x))) (by
    show H1[zc_ad B a]? = some (vp_cell _ _)
    rw [e1]
    show some (Cell.setSlot (vp_cell _ (n, .inl (h a))) _ _) = _
    rw [vp_cell_i, vp_cell_i, arrV_store]
    congr 2
    funext q
    by_cases hq : q = i.toNatClampNeg
    · subst hq
      simp [updV, upd]
    · simp [updV, upd, hq]) oq
  rw [← zk_up_row h a _ x, show (.inl (cs 0, n, .inl (zk_up h a i.toNatClampNeg x a)) : va_E) = zk_ce (zc_ad B) cs (.inr (.inl n)) (zk_up h a i.toNatClampNeg x a) from rfl, zk_lay_set (h := h) (h' := zk_up h a i.toNatClampNeg x) (sh := .inr (.inl n)) hs (fun b hb => zk_up_ne h _ x hb)] at hP1
  exact k H1 _ ls hl hP1 (hS.put z oq (hD.2 a _ ha)) (z.trans hz)
end ZCR
