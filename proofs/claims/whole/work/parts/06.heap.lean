/-! fields and arrays -/
def zk_FL (own : String) (i ci k : Nat) : Prop := ∃ (C : String) (Tb : u_T) (N : Nat), vwCl[ci]? = some (C, Tb, N) ∧ k < N ∧ Cond.fieldLink own i (Tb k).1 (Tb k).2.1 (Tb k).2.2.1 ∈ zk_tbl ∧ ∀ w ∈ u_ws C Tb N, w ∈ zk_tbl
def zk_FP (own : String) (i ci k : Nat) (ty : FieldType) : Prop := ∃ (C : String) (Tb : u_T) (N : Nat) (ty0 : Nat → FieldType), vwCl[ci]? = some (C, Tb, N) ∧ k < N ∧ Cond.fieldLink own i (Tb k).1 (Tb k).2.1 (Tb k).2.2.1 ∈ zk_tbl ∧ (∀ w ∈ u_ws C Tb N, w ∈ zk_tbl) ∧ (∀ k, k < N → parseFieldDescriptor (Tb k).2.2.1 = some (ty0 k)) ∧ (∀ a, a < N → ∀ b, b < N → a ≠ b → (Tb a).2.1 ≠ (Tb b).2.1) ∧ (Tb k).2.2.2 = false ∧ parseFieldDescriptor (Tb k).2.2.1 = some ty
def zk_av (h : zk_H) (a k : Nat) (f : zk_Fd) : Option Value := match f with
  | none => some (.int (h a k))
  | some (some r) => some (.ref r)
  | some none => none
theorem zk_getf {T : zk_M} {κ : zk_K} {ω : zk_O} {pc : Nat} {env stk : List Value} {SH : List zk_Sh} {h : zk_H} {i ci k a : Nat} {fs : List zk_Fd} {f : zk_Fd} {v : Value} (g : zk_ok T κ ω) (hd : decode T.2.1 pc = .ok (.getfield i, 3)) (hf : zk_FL T.1 i ci k) (hs : SH[a]? = some (.inl (ci, fs))) (hk : fs[k]? = some f) (hv : zk_av h a k f = some v) (kk : zk_At κ ω (pc + 3) env (v :: stk) SH h) : zk_At κ ω pc env (.ref a :: stk) SH h := by
  obtain ⟨p, l, e, R, s, m, args, below, meth, c, Q, ce, sl, A⟩ := κ
  obtain ⟨ad, D, cs, ex, adV⟩ := ω
  obtain ⟨hx, hb, hml, hown, hts, hK, hR, hA, hX⟩ := g
  intro H locs ls hl hP hD hS
  obtain ⟨C, Tb, N, hc, hkN, hlk, hin⟩ := hf
  have e1 : zk_fv ad (h a) k f = zk_cv ad ex v := by
    cases f with
    | none => simp only [zk_av, Option.some.injEq] at hv; subst hv; rfl
    | some r => cases r with
      | none => simp [zk_av] at hv
      | some r => simp only [zk_av, Option.some.injEq] at hv; subst hv; rfl
  refine va_get (D := D) (ci := ci) (v := zk_cv ad ex v) (C := C) (T := Tb) (N := N) hx hb hts hin hown hK hP a (zk_lay_at hs) hc k hkN (hts _ hlk) (fun _ z => z) ?_ hd (kk H locs ls hl hP hD hS)
  rw [← e1]
  simp [List.getElem?_mapIdx, hk]
theorem zk_putf {T : zk_M} {κ : zk_K} {ω : zk_O} {pc : Nat} {env stk : List Value} {SH : List zk_Sh} {h : zk_H} {i ci k a : Nat} {fs : List zk_Fd} {x : Int32} {ty : FieldType} (g : zk_ok T κ ω) (hd : decode T.2.1 pc = .ok (.putfield i, 3)) (hf : zk_FP T.1 i ci k ty) (hn : narrow ty (.int x) = .int x) (hfit : fits ty (.int x) = true) (hs : SH[a]? = some (.inl (ci, fs))) (hk : fs[k]? = some none) (kk : zk_At κ ω (pc + 3) env stk SH (zk_up h a k x)) : zk_At κ ω pc env (.int x :: .ref a :: stk) SH h := by
  obtain ⟨p, l, e, R, s, m, args, below, meth, c, Q, ce, sl, A⟩ := κ
  obtain ⟨ad, D, cs, ex, adV⟩ := ω
  obtain ⟨hx, hb, hml, hown, hts, hK, hR, hA, hX⟩ := g
  intro H locs ls hl hP hD hS
  obtain ⟨C, Tb, N, ty0, hc, hkN, hlk, hin, hty, hnm, hfin, hpd⟩ := hf
  refine va_put (D := D) (ci := ci) (v := .int x) (C := C) (T := Tb) (N := N) (ty := ty) hx hb hts hin ty0 hty hnm hown hK hP hD hS a (zk_lay_at hs) hc k hkN (hts _ hlk) (fun _ z => z) hfin hpd hn hfit (by rw [List.length_mapIdx]; exact (List.getElem?_eq_some_iff.mp hk).1) hd (fun H1 locs1 hP1 hD1 hS1 => ?_)
  have e1 : (zk_lay ad cs SH h).set a (ad a, .inr (ci, (fs.mapIdx (fun i f => zk_fv ad (h a) i f)).set k (.int x))) = zk_lay ad cs SH (zk_up h a k x) := by
    rw [zk_set_row (h a) fs k x hk, ← zk_up_row h a k x]
    exact zk_lay_set (h := h) (h' := zk_up h a k x) (sh := .inl (ci, fs)) hs (fun b hb => zk_up_ne h k x hb)
  rw [e1] at hP1 hD1
  exact kk H1 locs1 ls hl hP1 hD1 hS1
theorem zk_iald {T : zk_M} {κ : zk_K} {ω : zk_O} {pc : Nat} {env stk : List Value} {SH : List zk_Sh} {h : zk_H} {a n : Nat} {i : Int32} (g : zk_ok T κ ω) (hd : decode T.2.1 pc = .ok (.iaload, 1)) (hs : SH[a]? = some (.inr (.inl n))) (hi : vp_in i n) (kk : zk_At κ ω (pc + 1) env (.int (h a i.toNatClampNeg) :: stk) SH h) : zk_At κ ω pc env (.int i :: .ref a :: stk) SH h := by
  obtain ⟨p, l, e, R, s, m, args, below, meth, c, Q, ce, sl, A⟩ := κ
  obtain ⟨ad, D, cs, ex, adV⟩ := ω
  obtain ⟨hx, hb, hml, hown, hts, hK, hR, hA, hX⟩ := g
  intro H locs ls hl hP hD hS
  exact va_iald (D := D) (tys := zk_tys cs) hx hb hK hP a 0 (zk_lay_at hs) rfl hi hd (kk H locs ls hl hP hD hS)
theorem zk_iast {T : zk_M} {κ : zk_K} {ω : zk_O} {pc : Nat} {env stk : List Value} {SH : List zk_Sh} {h : zk_H} {a n : Nat} {i x : Int32} (g : zk_ok T κ ω) (hd : decode T.2.1 pc = .ok (.iastore, 1)) (hs : SH[a]? = some (.inr (.inl n))) (hi : vp_in i n) (kk : zk_At κ ω (pc + 1) env stk SH (zk_up h a i.toNatClampNeg x)) : zk_At κ ω pc env (.int x :: .int i :: .ref a :: stk) SH h := by
  obtain ⟨p, l, e, R, s, m, args, below, meth, c, Q, ce, sl, A⟩ := κ
  obtain ⟨ad, D, cs, ex, adV⟩ := ω
  obtain ⟨hx, hb, hml, hown, hts, hK, hR, hA, hX⟩ := g
  intro H locs ls hl hP hD hS
  refine va_iast (D := D) (tys := zk_tys cs) hx hb hK hP hD hS a 0 (zk_lay_at hs) rfl hi hd (fun H1 locs1 hP1 hD1 hS1 => ?_)
  have e1 : (zk_lay ad cs SH h).set a (ad a, .inl (cs 0, n, .inl (upd (h a) i.toNatClampNeg x))) = zk_lay ad cs SH (zk_up h a i.toNatClampNeg x) := by
    rw [← zk_up_row h a _ x]
    exact zk_lay_set (h := h) (h' := zk_up h a i.toNatClampNeg x) (sh := .inr (.inl n)) hs (fun b hb => zk_up_ne h _ x hb)
  rw [e1] at hP1 hD1
  exact kk H1 locs1 ls hl hP1 hD1 hS1
theorem zk_aald {T : zk_M} {κ : zk_K} {ω : zk_O} {pc : Nat} {env stk : List Value} {SH : List zk_Sh} {h : zk_H} {a ti r : Nat} {tb : List (Option Nat)} {i : Int32} (g : zk_ok T κ ω) (hd : decode T.2.1 pc = .ok (.aaload, 1)) (hs : SH[a]? = some (.inr (.inr (ti + 1, tb)))) (ht : ti < 4) (hi : ¬ i < 0) (hr : tb[i.toNatClampNeg]? = some (some r)) (kk : zk_At κ ω (pc + 1) env (.ref r :: stk) SH h) : zk_At κ ω pc env (.int i :: .ref a :: stk) SH h := by
  obtain ⟨p, l, e, R, s, m, args, below, meth, c, Q, ce, sl, A⟩ := κ
  obtain ⟨ad, D, cs, ex, adV⟩ := ω
  obtain ⟨hx, hb, hml, hown, hts, hK, hR, hA, hX⟩ := g
  intro H locs ls hl hP hD hS
  have hlt : i.toNatClampNeg < tb.length := (List.getElem?_eq_some_iff.mp hr).1
  have hin : vp_in i tb.length := fun z => z.elim hi (fun q => absurd hlt (Nat.not_lt.mpr q))
  have htt : (zk_tys cs)[ti + 1]? = some (cs (ti + 1), zk_ty (ti + 1)) := by
    match ti, ht with
    | 0, _ => rfl
    | 1, _ => rfl
    | 2, _ => rfl
    | 3, _ => rfl
  have hrf : (zk_ty (ti + 1)).isReference = true := by
    match ti, ht with
    | 0, _ => rfl
    | 1, _ => rfl
    | 2, _ => rfl
    | 3, _ => rfl
  have ha := zk_lay_at (ad := ad) (cs := cs) (h := h) hs
  refine W.aald (v := .ref (ad r)) (ty := zk_ty (ti + 1)) hx hb (hP a _ ha) ((hK.2 _ _ htt).1 tb.length (fun j => va_rf ((tb.getD j none).map ad))) hrf (fun q => by cases q) (by show ¬ (i < 0 ∨ (arrV _ _ _).slots.size ≤ _); rw [arrV_size]; exact hin) (by show (arrV _ _ _).slots[_]? = _; rw [arrV_read _ _ hlt]; simp [List.getD, hr, va_rf]) rfl rfl hd (kk H locs ls hl hP hD hS)
theorem zk_alen {T : zk_M} {κ : zk_K} {ω : zk_O} {pc : Nat} {env stk : List Value} {SH : List zk_Sh} {h : zk_H} {a n : Nat} (g : zk_ok T κ ω) (hd : decode T.2.1 pc = .ok (.arraylength, 1)) (hs : SH[a]? = some (.inr (.inl n))) (kk : zk_At κ ω (pc + 1) env (.int (Int32.ofNat n) :: stk) SH h) : zk_At κ ω pc env (.ref a :: stk) SH h := by
  obtain ⟨p, l, e, R, s, m, args, below, meth, c, Q, ce, sl, A⟩ := κ
  obtain ⟨ad, D, cs, ex, adV⟩ := ω
  obtain ⟨hx, hb, hml, hown, hts, hK, hR, hA, hX⟩ := g
  intro H locs ls hl hP hD hS
  exact va_alen (D := D) (tys := zk_tys cs) (ty := .int) (v := Int32.ofNat n) hx hb hK hP a 0 (zk_lay_at hs) rfl rfl hd (kk H locs ls hl hP hD hS)
/-- System.arraycopy of ints -/
def zk_cp (h : zk_H) (a sp b dp n : Nat) : zk_H := fun c j => if c = b then va_cpy (h a) (h b) sp dp n j else h c j
theorem zk_acopy {T : zk_M} {κ : zk_K} {ω : zk_O} {pc : Nat} {env stk : List Value} {SH : List zk_Sh} {h : zk_H} {a b na nb i : Nat} {sp dp n : Int32} (g : zk_ok T κ ω) (hd : decode T.2.1 pc = .ok (.invokestatic i, 3)) (hw : Cond.methodLink T.1 i arraycopyName ∈ zk_tbl ∧ Cond.native arraycopyName ∈ zk_tbl ∧ Cond.static arraycopyName ∈ zk_tbl ∧ Cond.initialized "java/lang/System" ∈ zk_tbl) (hst : (stk.map fun v => v.category).sum ≤ 8) (hfr : 1 ≤ T.2.2.2.1) (hlo : 8 + (nativeFrameWords "java/lang/System" "arraycopy" 5 + 11) ≤ T.2.2.2.2) (ha : SH[a]? = some (.inr (.inl na))) (hbb : SH[b]? = some (.inr (.inl nb))) (h1 : ¬ sp < 0) (h2 : ¬ dp < 0) (h3 : ¬ n < 0) (h4 : sp.toNatClampNeg + n.toNatClampNeg ≤ na) (h5 : dp.toNatClampNeg + n.toNatClampNeg ≤ nb) (kk : zk_At κ ω (pc + 3) env stk SH (zk_cp h a sp.toNatClampNeg b dp.toNatClampNeg n.toNatClampNeg)) : zk_At κ ω pc env (.int n :: .int dp :: .ref b :: .int sp :: .ref a :: stk) SH h := by
  obtain ⟨p, l, e, R, s, m, args, below, meth, c, Q, ce, sl, A⟩ := κ
  obtain ⟨ad, D, cs, ex, adV⟩ := ω
  obtain ⟨hx, hb, hml, hown, hts, hK, hR, hA, hX⟩ := g
  intro H locs ls hl hP hD hS
  refine va_copyi (D := D) (tys := zk_tys cs) (ty := .int) hx hb hl.1.symm hown (hts _ hw.1) (hts _ hw.2.1) (hts _ hw.2.2.1) (hts _ hw.2.2.2) hK hP hD hS a b 0 0 (zk_lay_at ha) (zk_lay_at hbb) rfl rfl rfl h1 h2 h3 h4 h5 (fun _ _ => rfl) (Nat.le_trans hfr hR.1) (by rw [zk_wsum]; exact Nat.le_trans (by omega) (Nat.le_trans hlo hR.2.1)) hd (fun H1 locs1 hP1 hD1 hS1 => ?_)
  have e1 : (zk_lay ad cs SH h).set b (ad b, .inl (cs 0, nb, .inl (va_cpy (h a) (h b) sp.toNatClampNeg dp.toNatClampNeg n.toNatClampNeg))) = zk_lay ad cs SH (zk_cp h a sp.toNatClampNeg b dp.toNatClampNeg n.toNatClampNeg) := by
    have e2 : va_cpy (h a) (h b) sp.toNatClampNeg dp.toNatClampNeg n.toNatClampNeg = zk_cp h a sp.toNatClampNeg b dp.toNatClampNeg n.toNatClampNeg b := by
      funext j
      simp [zk_cp]
    rw [e2]
    exact zk_lay_set (h := h) (sh := .inr (.inl nb)) hbb (fun q hq => by funext j; simp [zk_cp, hq])
  rw [e1] at hP1 hD1
  exact kk H1 locs1 ls hl hP1 hD1 hS1
/-! Math -/
theorem zk_min {T : zk_M} {κ : zk_K} {ω : zk_O} {pc : Nat} {env stk : List Value} {SH : List zk_Sh} {h : zk_H} {i : Nat} {x y : Int32} (g : zk_ok T κ ω) (hd : decode T.2.1 pc = .ok (.invokestatic i, 3)) (hw : Cond.methodLink T.1 i Lib.Math.min.name ∈ zk_tbl ∧ Cond.static Lib.Math.min.name ∈ zk_tbl ∧ Cond.initialized "java/lang/Math" ∈ zk_tbl ∧ Cond.code Lib.Math.min.name Lib.Math.min.code 2 (some .int) ∈ zk_tbl) (hst : (stk.map fun v => v.category).sum ≤ 8) (hfr : 1 ≤ T.2.2.2.1) (hlo : 21 ≤ T.2.2.2.2) (kk : zk_At κ ω (pc + 3) env (.int (if y < x then y else x) :: stk) SH h) : zk_At κ ω pc env (.int y :: .int x :: stk) SH h := by
  obtain ⟨p, l, e, R, s, m, args, below, meth, c, Q, ce, sl, A⟩ := κ
  obtain ⟨ad, D, cs, ex, adV⟩ := ω
  obtain ⟨hx, hb, hml, hown, hts, hK, hR, hA, hX⟩ := g
  intro H locs ls hl hP hD hS
  exact va_mmin hx hb hl.1.symm hown (hts _ hw.1) (hts _ hw.2.1) (hts _ hw.2.2.1) (hts _ hw.2.2.2) (Nat.le_trans hfr hR.1) (by rw [zk_wsum]; exact Nat.le_trans (by omega) (Nat.le_trans hlo hR.2.1)) hR.2.2.1 hR.2.2.2 hd (kk H locs ls hl hP hD hS)
theorem zk_max {T : zk_M} {κ : zk_K} {ω : zk_O} {pc : Nat} {env stk : List Value} {SH : List zk_Sh} {h : zk_H} {i : Nat} {x y : Int32} (g : zk_ok T κ ω) (hd : decode T.2.1 pc = .ok (.invokestatic i, 3)) (hw : Cond.methodLink T.1 i Lib.Math.max.name ∈ zk_tbl ∧ Cond.static Lib.Math.max.name ∈ zk_tbl ∧ Cond.initialized "java/lang/Math" ∈ zk_tbl ∧ Cond.code Lib.Math.max.name Lib.Math.max.code 2 (some .int) ∈ zk_tbl) (hst : (stk.map fun v => v.category).sum ≤ 8) (hfr : 1 ≤ T.2.2.2.1) (hlo : 21 ≤ T.2.2.2.2) (kk : zk_At κ ω (pc + 3) env (.int (if x < y then y else x) :: stk) SH h) : zk_At κ ω pc env (.int y :: .int x :: stk) SH h := by
  obtain ⟨p, l, e, R, s, m, args, below, meth, c, Q, ce, sl, A⟩ := κ
  obtain ⟨ad, D, cs, ex, adV⟩ := ω
  obtain ⟨hx, hb, hml, hown, hts, hK, hR, hA, hX⟩ := g
  intro H locs ls hl hP hD hS
  exact va_mmax hx hb hl.1.symm hown (hts _ hw.1) (hts _ hw.2.1) (hts _ hw.2.2.1) (hts _ hw.2.2.2) (Nat.le_trans hfr hR.1) (by rw [zk_wsum]; exact Nat.le_trans (by omega) (Nat.le_trans hlo hR.2.1)) hR.2.2.1 hR.2.2.2 hd (kk H locs ls hl hP hD hS)
theorem zk_abs {T : zk_M} {κ : zk_K} {ω : zk_O} {pc : Nat} {env stk : List Value} {SH : List zk_Sh} {h : zk_H} {i : Nat} {x : Int32} (g : zk_ok T κ ω) (hd : decode T.2.1 pc = .ok (.invokestatic i, 3)) (hw : Cond.methodLink T.1 i Lib.Math.abs.name ∈ zk_tbl ∧ Cond.static Lib.Math.abs.name ∈ zk_tbl ∧ Cond.initialized "java/lang/Math" ∈ zk_tbl ∧ Cond.code Lib.Math.abs.name Lib.Math.abs.code 1 (some .int) ∈ zk_tbl) (hst : (stk.map fun v => v.category).sum ≤ 8) (hfr : 1 ≤ T.2.2.2.1) (hlo : 21 ≤ T.2.2.2.2) (kk : zk_At κ ω (pc + 3) env (.int (if 0 ≤ x then x else 0 - x) :: stk) SH h) : zk_At κ ω pc env (.int x :: stk) SH h := by
  obtain ⟨p, l, e, R, s, m, args, below, meth, c, Q, ce, sl, A⟩ := κ
  obtain ⟨ad, D, cs, ex, adV⟩ := ω
  obtain ⟨hx, hb, hml, hown, hts, hK, hR, hA, hX⟩ := g
  intro H locs ls hl hP hD hS
  exact va_mabs hx hb hl.1.symm hown (hts _ hw.1) (hts _ hw.2.1) (hts _ hw.2.2.1) (hts _ hw.2.2.2) (Nat.le_trans hfr hR.1) (by rw [zk_wsum]; exact Nat.le_trans (by omega) (Nat.le_trans hlo hR.2.1)) hR.2.2.1 hR.2.2.2 hd (kk H locs ls hl hP hD hS)
