/-! contracts and calls -/
theorem zk_good : ∀ w ∈ zk_tbl, (w.onTables && w.keeps) = true ∨ ∃ ty, w = .arrayClass ty := by
  exact fun w hw => good_of_word (List.mem_filter.mp hw).2
def zk_rv (ret : Option FieldType) (v : Value) : Option Value := match ret with
  | none => none
  | some _ => some v
def zk_rl (ret : Option FieldType) (v : Value) : List Value := match ret with
  | none => []
  | some _ => [v]
abbrev zk_Fn : Type := List Value → zk_H → Option (Value × zk_H)
abbrev zk_Pc (D : va_G) (cs : Nat → ClassId) (ad ex adV : Nat → Nat) (SH : List zk_Sh) (h : zk_H) (sz : Nat) (av : List Value) : Array Value → State → Prop := va_Pc (av.map (zk_cv ad ex)) (fun U => U.heap.size = sz ∧ va_P D vwCl (zk_lay ad cs SH h) U.heap ∧ va_K D vwCl (zk_tys cs) U ∧ va_D (fun _ => True) (zk_lay ad cs SH h) ∧ zk_Ex ex adV (va_A (zk_lay ad cs SH h) sz) U U.heap)
abbrev zk_Qc (D : va_G) (cs : Nat → ClassId) (ad ex : Nat → Nat) (SH : List zk_Sh) (h : zk_H) (sz : Nat) (ret : Option FieldType) (v : Value) (h' : zk_H) : Array Value → State → Outcome → State → Prop := fun _ st oc t => (oc = .returned (zk_rv ret (zk_cv ad ex v)) ∧ va_P D vwCl (zk_lay ad cs SH h') t.heap ∧ va_K D vwCl (zk_tys cs) t ∧ va_D (va_A (zk_lay ad cs SH h) sz) (zk_lay ad cs SH h')) ∧ va_F (va_A (zk_lay ad cs SH h) sz) st t
def zk_Met (SH : List zk_Sh) (T : zk_M) (y : MethodName) (ret : Option FieldType) (f : zk_Fn) : Prop :=
  ∀ (l : Launch) (D : va_G) (cs : Nat → ClassId) (ad ex adV : Nat → Nat) (sz : Nat) (av : List Value) (h : zk_H) (v : Value) (h' : zk_H), f av h = some (v, h') →
    Met l y (.code y T.2.1 T.2.2.1 ret :: zk_tbl) { frames := T.2.2.2.1, cells := 0, slots := 0, locals := T.2.2.2.2 } (zk_Pc D cs ad ex adV SH h sz av) (zk_Qc D cs ad ex SH h sz ret v h') 0 0 (va_A (zk_lay ad cs SH h) sz)
theorem zk_blind {D : va_G} {cs : Nat → ClassId} {ad ex adV : Nat → Nat} {SH : List zk_Sh} {h : zk_H} {sz : Nat} {av : List Value} : FrameBlind (zk_Pc D cs ad ex adV SH h sz av) := by
  intro a U g mk q
  obtain ⟨q0, q1, qP, qK, qD, qX⟩ := q
  exact ⟨q0, q1, qP, va_K.moved (u := U) (U := U.calling g mk a) (Vm.Alike.refl U.vm) qK, qD, qX.fb (u := U) (U := U.calling g mk a) rfl⟩
def zk_LB (T : zk_M) (y : MethodName) (ret : Option FieldType) (n : Nat) : Prop := Cond.code y T.2.1 T.2.2.1 ret ∈ zk_tbl ∧ Cond.initialized y.cls ∈ zk_tbl ∧ (y.cls ≠ "java/lang/invoke/MethodHandle" ∧ y.cls ≠ "java/lang/invoke/VarHandle" ∧ (parseMethodDescriptor y.desc).map (fun d => d.parameters.length) = some n)
def zk_room (T T2 : zk_M) : Prop := T2.2.2.2.1 + 1 ≤ T.2.2.2.1 ∧ 8 + (T2.2.2.1 + 11) + T2.2.2.2.2 ≤ T.2.2.2.2
theorem zk_gin {T : zk_M} {y : MethodName} {ret : Option FieldType} {n : Nat} (h : zk_LB T y ret n) : GoodIn zk_tbl (.code y T.2.1 T.2.2.1 ret :: zk_tbl) := by
  intro w hw
  rcases List.mem_cons.mp hw with e | e
  · subst e
    exact ⟨h.1, zk_good _ h.1⟩
  · exact ⟨e, zk_good _ e⟩
/-- behind a call -/
theorem zk_back {T : zk_M} {p : Program} {l : Launch} {e : Jvm.Env} {R : Room} {s : State} {m : MethodId} {args : Array Value} {below : List Frame} {meth : Method} {c : Code} {Q : State → Prop} {ce sl : Nat} {A : Nat → Prop} {ad : Nat → Nat} {D : va_G} {cs : Nat → ClassId} {ex adV : Nat → Nat} {pc : Nat} {env stk st0 : List Value} {SH : List zk_Sh} {h h' : zk_H} {ret : Option FieldType} {v : Value} {a : Array Value} {H : Heap} {locs : List Loc} {ls : Array Slot}
    (g : zk_ok T (p, l, e, R, s, m, args, below, meth, c, Q, ce, sl, A) (ad, D, cs, ex, adV)) (kk : zk_At (p, l, e, R, s, m, args, below, meth, c, Q, ce, sl, A) (ad, D, cs, ex, adV) (pc + 3) env (zk_rl ret v ++ stk) SH h') (hl : zk_lv ad ex c.maxLocals env ls) (hD : va_D A (zk_lay ad cs SH h)) (hS : va_S A s.heap H locs)
    (hr : va_Run p l e R s m args below meth c H locs ce sl 0 0 (F0 m pc ls (st0.map (zk_cv ad ex))) (stk.map (zk_cv ad ex)) (zk_Qc D cs ad ex SH h H.size ret v h' a) (va_A (zk_lay ad cs SH h) H.size)) : W p l e R s m args below meth c H locs ce sl Q (F0 m pc ls (st0.map (zk_cv ad ex))) := by
  obtain ⟨hx, hb, hml, hown, hts, hK, hR, hA, hX⟩ := g
  have hF : ∀ q, va_A (zk_lay ad cs SH h) H.size q → A q := by
    rintro q (⟨k, x, hk⟩ | hq)
    · exact hD.2 k _ hk
    · exact hA q (Nat.le_trans hS.1 hq)
  intro T0 hT X
  obtain ⟨v0, st₀, t, T', L, h0, X', hL, e1, e2, ⟨⟨hv, hP1, hK1, hD1⟩, hz, hkq⟩, st⟩ := hr T0 hT X
  have hv2 : v0.toList ++ stk.map (zk_cv ad ex) = (zk_rl ret v ++ stk).map (zk_cv ad ex) := by
    have hv3 : v0 = zk_rv ret (zk_cv ad ex v) := by
      injection hv
    rw [hv3]
    cases ret <;> simp [zk_rv, zk_rl]
  rw [h0] at hz hkq
  have hS1 : va_S A s.heap T'.heap (locs ++ L) := ⟨Nat.le_trans hS.1 (by rw [e1]; exact hz), fun q h1 h2 => by rw [e1, hkq q (Nat.lt_of_lt_of_le h1 hS.1) (fun z => h2 (hF q z))]; exact hS.2.1 q h1 h2, fun q hq => by
      rcases List.mem_append.mp hq with h | h
      · exact hS.2.2 q h
      · exact hF _ (hL q h)⟩
  obtain ⟨t2, a1, b1⟩ := kk T'.heap (locs ++ L) ls hl (by rw [e1]; exact hP1) (hD1.weaken (fun _ q _ z => hF q.1 z)) hS1 T' rfl X'
  refine ⟨t2, st t2 ?_, b1⟩
  have e3 : ({ F0 m pc ls (st0.map (zk_cv ad ex)) with pc := (F0 m pc ls (st0.map (zk_cv ad ex))).pc + 3, stack := v0.toList ++ stk.map (zk_cv ad ex) } : JFrame) = F0 m (pc + 3) ls ((zk_rl ret v ++ stk).map (zk_cv ad ex)) := by
    rw [hv2]
  rw [e3]
  exact a1
theorem zk_pre {T : zk_M} {p : Program} {l : Launch} {e : Jvm.Env} {R : Room} {s : State} {m : MethodId} {args : Array Value} {below : List Frame} {meth : Method} {c : Code} {Q : State → Prop} {ce sl : Nat} {A : Nat → Prop} {ad : Nat → Nat} {D : va_G} {cs : Nat → ClassId} {ex adV : Nat → Nat} {av : List Value} {SH : List zk_Sh} {h : zk_H} {H : Heap} {locs : List Loc} (g : zk_ok T (p, l, e, R, s, m, args, below, meth, c, Q, ce, sl, A) (ad, D, cs, ex, adV)) (hP : va_P D vwCl (zk_lay ad cs SH h) H) (hD : va_D A (zk_lay ad cs SH h)) (hS : va_S A s.heap H locs) : PreS s H (zk_Pc D cs ad ex adV SH h H.size av) (av.map (zk_cv ad ex)) := by
  obtain ⟨hx, hb, hml, hown, hts, hK, hR, hA, hX⟩ := g
  have hF : ∀ q, va_A (zk_lay ad cs SH h) H.size q → A q := by
    rintro q (⟨k, x, hk⟩ | hq)
    · exact hD.2 k _ hk
    · exact hA q (Nat.le_trans hS.1 hq)
  refine ⟨zk_blind, fun U hU hW => ⟨rfl, by rw [hU], by rw [hU]; exact hP, va_K.moved hW.alike hK, hD.weaken (fun _ _ _ _ => trivial), by rw [hU]; exact hX.mv hW hS hF⟩⟩
theorem zk_invS {T T2 : zk_M} {κ : zk_K} {ω : zk_O} {pc : Nat} {env stk : List Value} {SH : List zk_Sh} {h h' : zk_H} {i : Nat} {y : MethodName} {ret : Option FieldType} {f : zk_Fn} {av : List Value} {v : Value} (g : zk_ok T κ ω) (hd : decode T.2.1 pc = .ok (.invokestatic i, 3)) (hM : zk_Met SH T2 y ret f) (hw : (Cond.methodLink T.1 i y ∈ zk_tbl ∧ Cond.static y ∈ zk_tbl) ∧ zk_LB T2 y ret av.length) (hroom : zk_room T T2) (hst : (stk.map fun v => v.category).sum ≤ 8) (hf : f av h = some (v, h')) (kk : zk_At κ ω (pc + 3) env (zk_rl ret v ++ stk) SH h') : zk_At κ ω pc env (av.reverse ++ stk) SH h := by
  obtain ⟨p, l, e, R, s, m, args, below, meth, c, Q, ce, sl, A⟩ := κ
  obtain ⟨ad, D, cs, ex, adV⟩ := ω
  have g0 := g
  obtain ⟨hx, hb, hml, hown, hts, hK, hR, hA, hX⟩ := g
  intro H locs ls hl hP hD hS
  refine zk_back (T := T) (ret := ret) (v := v) (h := h) (a := (av.map (zk_cv ad ex)).toArray) g0 kk hl hD hS ?_
  exact va_runS (As := av.map (zk_cv ad ex)) (n := av.length) ⟨hx, hb, hml, hown, hts⟩ (hM l D cs ad ex adV H.size av h v h' hf) ⟨callB_of (mc := 0) (ms := 0) av.length hts (zk_gin hw.2) rfl rfl rfl (hts _ hw.2.2.1) (hts _ hw.1.1) hw.2.2.2 ⟨Nat.le_trans hroom.1 hR.1, Nat.le_trans hroom.2 hR.2.1⟩, hts _ hw.1.2⟩ (zk_pre g0 hP hD hS) rfl (List.length_map _) (hl.1.trans hml) (by simp [List.map_reverse]) (lv_room (by rw [zk_wsum]; exact hst)) hd ⟨by simpa using hR.2.2.1, by simpa using hR.2.2.2⟩
theorem zk_invSN {T T2 : zk_M} {κ : zk_K} {ω : zk_O} {pc : Nat} {env stk : List Value} {SH : List zk_Sh} {h h' : zk_H} {i : Nat} {y : MethodName} {ret : Option FieldType} {f : zk_Fn} {av : List Value} {v : Value} {host : String} (g : zk_ok T κ ω) (hd : decode T.2.1 pc = .ok (.invokestatic i, 3)) (hM : zk_Met SH T2 y ret f) (hw : (Cond.methodLinkNest T.1 i y host ∈ zk_nest ∧ Cond.static y ∈ zk_tbl) ∧ zk_LB T2 y ret av.length) (hroom : zk_room T T2) (hst : (stk.map fun v => v.category).sum ≤ 8) (hf : f av h = some (v, h')) (kk : zk_At κ ω (pc + 3) env (zk_rl ret v ++ stk) SH h') : zk_At κ ω pc env (av.reverse ++ stk) SH h := by
  obtain ⟨p, l, e, R, s, m, args, below, meth, c, Q, ce, sl, A⟩ := κ
  obtain ⟨ad, D, cs, ex, adV⟩ := ω
  have g0 := g
  obtain ⟨hx, hb, hml, hown, hts, hK, hR, hA, hX⟩ := g
  intro H locs ls hl hP hD hS
  refine zk_back (T := T) (ret := ret) (v := v) (h := h) (a := (av.map (zk_cv ad ex)).toArray) g0 kk hl hD hS ?_
  have hlen : ∀ sig, parseMethodDescriptor y.desc = some sig → av.length = sig.parameters.length := fun sig h2 => by
    have h3 := hw.2.2.2.2.2
    rw [h2] at h3
    exact (Option.some.inj h3).symm
  exact va_runSN (As := av.map (zk_cv ad ex)) (n := av.length) (host := host) ⟨hx, hb, hml, hown, hts⟩ (hM l D cs ad ex adV H.size av h v h' hf) ⟨⟨⟨rfl, rfl, Nat.le_trans hroom.1 hR.1, Nat.le_trans hroom.2 hR.2.1, pay_in hts (zk_gin hw.2), List.mem_cons_self⟩, hts _ hw.2.1, hts _ hw.2.2.1, ⟨hw.2.2.2.1, hw.2.2.2.2.1⟩, hlen, va_Nw.use rfl (hX.2.2.2 _ hw.1.1)⟩, hts _ hw.1.2, trivial⟩ (zk_pre g0 hP hD hS) rfl (List.length_map _) (hl.1.trans hml) (by simp [List.map_reverse]) (lv_room (by rw [zk_wsum]; exact hst)) hd ⟨by simpa using hR.2.2.1, by simpa using hR.2.2.2⟩
theorem zk_invV {T T2 : zk_M} {κ : zk_K} {ω : zk_O} {pc : Nat} {env stk : List Value} {SH : List zk_Sh} {h h' : zk_H} {i a ci : Nat} {y : MethodName} {ret : Option FieldType} {f : zk_Fn} {av : List Value} {v : Value} {fs : List zk_Fd} {Tb : u_T} {N : Nat} (g : zk_ok T κ ω) (hd : decode T.2.1 pc = .ok (.invokevirtual i, 3)) (hM : zk_Met SH T2 y ret f) (hw : (Cond.methodLink T.1 i y ∈ zk_tbl ∧ Cond.instanceMethod y ∈ zk_tbl ∧ Cond.selects y.cls y y ∈ zk_tbl) ∧ zk_LB T2 y ret av.length) (hroom : zk_room T T2) (hst : (stk.map fun v => v.category).sum ≤ 8) (hs : SH[a]? = some (.inl (ci, fs))) (hc : vwCl[ci]? = some (y.cls, Tb, N)) (hf : f (.ref a :: av) h = some (v, h')) (kk : zk_At κ ω (pc + 3) env (zk_rl ret v ++ stk) SH h') : zk_At κ ω pc env (av.reverse ++ .ref a :: stk) SH h := by
  obtain ⟨p, l, e, R, s, m, args, below, meth, c, Q, ce, sl, A⟩ := κ
  obtain ⟨ad, D, cs, ex, adV⟩ := ω
  have g0 := g
  obtain ⟨hx, hb, hml, hown, hts, hK, hR, hA, hX⟩ := g
  intro H locs ls hl hP hD hS
  refine zk_back (T := T) (ret := ret) (v := v) (h := h) (a := ((Value.ref (ad a)) :: av.map (zk_cv ad ex)).toArray) g0 kk hl hD hS ?_
  have hpre := zk_pre (av := .ref a :: av) g0 hP hD hS
  exact va_runV (As := av.map (zk_cv ad ex)) (n := av.length) (b := ad a) (C := y.cls) ⟨hx, hb, hml, hown, hts⟩ (hM l D cs ad ex adV H.size (.ref a :: av) h v h' hf) ⟨callB_of (mc := 0) (ms := 0) av.length hts (zk_gin hw.2) rfl rfl rfl (hts _ hw.2.2.1) (hts _ hw.1.1) hw.2.2.2 ⟨Nat.le_trans hroom.1 hR.1, Nat.le_trans hroom.2 hR.2.1⟩, hts _ hw.1.2.1, hts _ hw.1.2.2⟩ ⟨hpre.1, va_recv hK hP hc (zk_lay_at hs), hpre.2⟩ rfl (List.length_map _) (hl.1.trans hml) (by simp [List.map_reverse, zk_cv]) (lv_room (by rw [zk_wsum]; exact hst)) hd ⟨by simpa using hR.2.2.1, by simpa using hR.2.2.2⟩
theorem zk_invVN {T T2 : zk_M} {κ : zk_K} {ω : zk_O} {pc : Nat} {env stk : List Value} {SH : List zk_Sh} {h h' : zk_H} {i a ci : Nat} {y : MethodName} {ret : Option FieldType} {f : zk_Fn} {av : List Value} {v : Value} {fs : List zk_Fd} {Tb : u_T} {N : Nat} {host : String} (g : zk_ok T κ ω) (hd : decode T.2.1 pc = .ok (.invokevirtual i, 3)) (hM : zk_Met SH T2 y ret f) (hw : (Cond.methodLinkNest T.1 i y host ∈ zk_nest ∧ Cond.instanceMethod y ∈ zk_tbl ∧ Cond.selects y.cls y y ∈ zk_tbl) ∧ zk_LB T2 y ret av.length) (hroom : zk_room T T2) (hst : (stk.map fun v => v.category).sum ≤ 8) (hs : SH[a]? = some (.inl (ci, fs))) (hc : vwCl[ci]? = some (y.cls, Tb, N)) (hf : f (.ref a :: av) h = some (v, h')) (kk : zk_At κ ω (pc + 3) env (zk_rl ret v ++ stk) SH h') : zk_At κ ω pc env (av.reverse ++ .ref a :: stk) SH h := by
  obtain ⟨p, l, e, R, s, m, args, below, meth, c, Q, ce, sl, A⟩ := κ
  obtain ⟨ad, D, cs, ex, adV⟩ := ω
  have g0 := g
  obtain ⟨hx, hb, hml, hown, hts, hK, hR, hA, hX⟩ := g
  intro H locs ls hl hP hD hS
  refine zk_back (T := T) (ret := ret) (v := v) (h := h) (a := ((Value.ref (ad a)) :: av.map (zk_cv ad ex)).toArray) g0 kk hl hD hS ?_
  have hpre := zk_pre (av := .ref a :: av) g0 hP hD hS
  have hlen : ∀ sig, parseMethodDescriptor y.desc = some sig → av.length = sig.parameters.length := fun sig h2 => by
    have h3 := hw.2.2.2.2.2
    rw [h2] at h3
    exact (Option.some.inj h3).symm
  exact va_runVN (As := av.map (zk_cv ad ex)) (n := av.length) (b := ad a) (C := y.cls) (host := host) ⟨hx, hb, hml, hown, hts⟩ (hM l D cs ad ex adV H.size (.ref a :: av) h v h' hf) ⟨⟨⟨rfl, rfl, Nat.le_trans hroom.1 hR.1, Nat.le_trans hroom.2 hR.2.1, pay_in hts (zk_gin hw.2), List.mem_cons_self⟩, hts _ hw.2.1, hts _ hw.2.2.1, ⟨hw.2.2.2.1, hw.2.2.2.2.1⟩, hlen, va_Nw.use rfl (hX.2.2.2 _ hw.1.1)⟩, hts _ hw.1.2.1, hts _ hw.1.2.2⟩ ⟨hpre.1, va_recv hK hP hc (zk_lay_at hs), hpre.2⟩ rfl (List.length_map _) (hl.1.trans hml) (by simp [List.map_reverse, zk_cv]) (lv_room (by rw [zk_wsum]; exact hst)) hd ⟨by simpa using hR.2.2.1, by simpa using hR.2.2.2⟩
