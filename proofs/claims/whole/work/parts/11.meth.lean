/-! switches -/
def zk_swok (P : Nat → zk_Sm → Prop) : Nat → List Nat → List (Int32 × zk_Sm) → Prop
  | _, [], [] => True
  | j, t :: ts, q :: r => q.1 = nI j ∧ P t q.2 ∧ zk_swok P (j + 1) ts r
  | _, _, _ => False
theorem zk_swok_pick {P : Nat → zk_Sm → Prop} {x : Int32} {d : zk_Sm} : ∀ (j : Nat) (ts : List Nat) (l : List (Int32 × zk_Sm)), j + ts.length < 2 ^ 31 → zk_swok P j ts l → (∀ i t, ts[i]? = some t → x = nI (j + i) → P t (zk_pick x l d)) ∧ ((∀ i, i < ts.length → x ≠ nI (j + i)) → zk_pick x l d = d) ∧ ts.length = l.length
  | j, [], [], _, _ => ⟨fun i t h => by simp at h, fun _ => rfl, rfl⟩
  | j, t :: ts, q :: r, hj, h => by
    simp only [List.length_cons] at hj
    obtain ⟨h1, h2, h3⟩ := h
    obtain ⟨i1, i2, i3⟩ := zk_swok_pick (x := x) (d := d) (j + 1) ts r (by omega) h3
    refine ⟨fun i t' hi hx => ?_, fun hx => ?_, by simp [i3]⟩
    · cases i with
      | zero =>
        simp only [List.getElem?_cons_zero, Option.some.injEq] at hi
        subst hi
        rw [Nat.add_zero] at hx
        show P t (if x = q.1 then q.2 else zk_pick x r d)
        rw [if_pos (by rw [hx, h1])]
        exact h2
      | succ i =>
        simp only [List.getElem?_cons_succ] at hi
        have hl : i < ts.length := (List.getElem?_eq_some_iff.mp hi).1
        show P t' (if x = q.1 then q.2 else zk_pick x r d)
        rw [if_neg ?_]
        · exact i1 i t' hi (by rw [hx]; congr 1; omega)
        · rw [hx, h1]
          intro z
          have := (nI_eq (a := j + (i + 1)) (b := j) (by omega) (by omega)).mp z
          omega
    · show (if x = q.1 then q.2 else zk_pick x r d) = d
      rw [if_neg (by rw [h1]; exact hx 0 (by simp))]
      exact i2 (fun i hi => by
        have := hx (i + 1) (by simp; omega)
        rw [show j + 1 + i = j + (i + 1) by omega]
        exact this)
  | j, [], q :: r, _, h => by cases h
  | j, t :: ts, [], _, h => by cases h
section ZSW
variable {SH : List zk_Sh} {T : zk_M} {a b nx bk ct : Nat}
theorem zk_tsw {κ : zk_K} {ω : zk_O} {pc : Nat} {env stk : List Value} {h : zk_H} {x : Int32} {df hi : Int} {offs : Array Int} {len : Nat} {dt : Nat} {ts : List Nat} (g : zk_ok T κ ω) (hd : decode T.2.1 pc = .ok (.tableswitch df 0 hi offs, len)) (hdf : (pc : Int) + df = (dt : Int)) (ht : offs.toList.map (fun o => (pc : Int) + o) = ts.map (fun t : Nat => (t : Int))) (hhi : hi + 1 = (ts.length : Int)) (hsm : ts.length < 1000) (hin : ∀ (i t : Nat), ts[i]? = some t → x = nI i → zk_At κ ω t env stk SH h) (hout : (∀ i, i < ts.length → x ≠ nI i) → zk_At κ ω dt env stk SH h) : zk_At κ ω pc env (.int x :: stk) SH h := by
  obtain ⟨p, l, e, R, s, m, args, below, meth, c, Q, ce, sl, A⟩ := κ
  obtain ⟨ad, D, cs, ex, adV⟩ := ω
  obtain ⟨hx, hb, hml, hown, hts, hK, hR, hA, hX⟩ := g
  intro H locs ls hl hP hD hS
  by_cases h0 : x.toInt < 0
  · refine lv_tableOut hx hb hd (Or.inl h0) hdf (hout (fun i hi e => ?_) H locs ls hl hP hD hS)
    rw [e, nI_toInt (by omega)] at h0
    omega
  · by_cases h1 : hi < x.toInt
    · refine lv_tableOut hx hb hd (Or.inr h1) hdf (hout (fun i hi e => ?_) H locs ls hl hP hD hS)
      have hlx := x.toInt_lt
      rw [e, nI_toInt (by omega)] at h1
      omega
    · obtain ⟨j, hj, rfl⟩ := nI_of (x := x) (by
        rw [Int32.lt_iff_toInt_lt]
        have z0 : (0 : Int32).toInt = 0 := rfl
        omega)
      rw [nI_toInt hj] at h0 h1
      have hjl : j < ts.length := by omega
      have e1 := congrArg (fun l => l[j]?) ht
      simp only [List.getElem?_map] at e1
      cases ho : offs.toList[j]? with
      | none =>
        rw [ho, List.getElem?_eq_getElem hjl] at e1
        simp at e1
      | some off =>
        rw [ho, List.getElem?_eq_getElem hjl] at e1
        simp only [Option.map_some, Option.some.injEq] at e1
        refine lv_tableIn hx hb hd (by rw [nI_toInt hj]; omega) (by rw [nI_toInt hj]; omega) (off := off) ?_ e1 (hin j _ (List.getElem?_eq_getElem hjl) rfl H locs ls hl hP hD hS)
        rw [nI_toInt hj]
        have : ((j : Int) - 0).toNat = j := by omega
        rw [this, ← Array.getElem?_toList]
        exact ho
theorem zk_s_tsw {F : zk_Xp} {df hi : Int} {offs : Array Int} {len dt : Nat} {ts : List Nat} {l : List (Int32 × zk_Sm)} {d : zk_Sm} (hF : zk_E SH T 0 a b F) (hd : decode T.2.1 b = .ok (.tableswitch df 0 hi offs, len)) (hdf : (b : Int) + df = (dt : Int)) (ht : offs.toList.map (fun o => (b : Int) + o) = ts.map (fun t : Nat => (t : Int))) (hhi : hi + 1 = (ts.length : Int)) (hsm : ts.length < 1000) (hl : zk_swok (fun t s => zk_S SH T t nx bk ct s) 0 ts l) (hD : zk_S SH T dt nx bk ct d) : zk_S SH T a nx bk ct (zk_sw F l d) := by
  intro κ ω g Rt hR env h o v env' h' hf k0 k1 k2 k3
  obtain ⟨⟨v1, h1⟩, e1, hf⟩ := Option.bind_eq_some_iff.mp hf
  cases v1 <;> simp only [reduceCtorEq] at hf
  rename_i x
  obtain ⟨p1, p2, p3⟩ := zk_swok_pick (x := x) (d := d) 0 ts l (by omega) hl
  refine hF κ ω g env [] h _ _ (Nat.le_refl _) e1 (zk_tsw g hd hdf ht hhi hsm (fun i t hi hx => ?_) (fun hx => ?_))
  · exact p1 i t hi (by rw [Nat.zero_add]; exact hx) κ ω g Rt hR env h1 o v env' h' hf k0 k1 k2 k3
  · rw [p2 (fun i hi => by rw [Nat.zero_add]; exact hx i hi)] at hf
    exact hD κ ω g Rt hR env h1 o v env' h' hf k0 k1 k2 k3
/-- a switch of two, by lookup -/
theorem zk_s_lsw2 {F : zk_Xp} {df o0 o1 : Int} {k0' k1' : Int} {c0 c1 : Int32} {len dt t0 t1 : Nat} {s0 s1 d : zk_Sm} (hF : zk_E SH T 0 a b F) (hd : decode T.2.1 b = .ok (.lookupswitch df #[(k0', o0), (k1', o1)], len)) (hk : k0' < k1') (e0 : c0.toInt = k0') (e1' : c1.toInt = k1') (hdf : (b : Int) + df = (dt : Int)) (h0 : (b : Int) + o0 = (t0 : Int)) (h1 : (b : Int) + o1 = (t1 : Int)) (hs0 : zk_S SH T t0 nx bk ct s0) (hs1 : zk_S SH T t1 nx bk ct s1) (hD : zk_S SH T dt nx bk ct d) : zk_S SH T a nx bk ct (zk_sw F [(c0, s0), (c1, s1)] d) := by
  intro κ ω g Rt hR env h o v env' h' hf j0 j1 j2 j3
  obtain ⟨⟨v1, h2⟩, e1, hf⟩ := Option.bind_eq_some_iff.mp hf
  cases v1 <;> simp only [reduceCtorEq] at hf
  rename_i x
  refine hF κ ω g env [] h _ _ (Nat.le_refl _) e1 ?_
  obtain ⟨p, l, e, R, s, m, args, below, meth, c, Q, ce, sl, A⟩ := κ
  obtain ⟨ad, D, cs, ex, adV⟩ := ω
  have g0 := g
  obtain ⟨hx, hb, hml, hown, hts, hK, hR', hA, hX⟩ := g
  intro H locs ls hl hP hD' hS
  have hp : ((#[(k0', o0), (k1', o1)] : Array (Int × Int)).toList.zip ((#[(k0', o0), (k1', o1)] : Array (Int × Int)).toList.drop 1)).all (fun (a, next) => a.1 < next.1) = true := by simp [hk]
  by_cases q0 : x = c0
  · subst q0
    simp only [zk_pick, if_true] at hf
    exact lv_lookup (off := o0) (tgt := t0) hx hb hd hp (by simp [Op.lookupswitch.offset, e0]) h0 (hs0 _ _ g0 Rt hR env h2 o v env' h' hf j0 j1 j2 j3 H locs ls hl hP hD' hS)
  · by_cases q1 : x = c1
    · subst q1
      simp only [zk_pick, if_neg q0, if_true] at hf
      exact lv_lookup (off := o1) (tgt := t1) hx hb hd hp (by rw [lv_osw q0 e0]; simp [Op.lookupswitch.offset, e1']) h1 (hs1 _ _ g0 Rt hR env h2 o v env' h' hf j0 j1 j2 j3 H locs ls hl hP hD' hS)
    · simp only [zk_pick, if_neg q0, if_neg q1] at hf
      exact lv_lookup (off := df) (tgt := dt) hx hb hd hp (by rw [lv_osw q0 e0, lv_osw q1 e1']; simp [Op.lookupswitch.offset]) hdf (hD _ _ g0 Rt hR env h2 o v env' h' hf j0 j1 j2 j3 H locs ls hl hP hD' hS)
end ZSW
/-! a method -/
def zk_rok (ret : Option FieldType) (v : Value) : Bool := match ret, v with
  | none, .null => true
  | some ty, .int x => decide (narrow ty (.int x) = .int x)
  | _, _ => false
def zk_flat (av : List Value) : List Value := av.flatMap (fun v => if v.category = 2 then [v, .float 0] else [v])
def zk_sem (nL : Nat) (ret : Option FieldType) (s : zk_Sm) : zk_Fn := fun av h => if (zk_flat av).length ≤ nL then (s (zk_env nL av) h).bind fun q => if q.1 = 3 ∧ zk_rok ret q.2.1 = true then some (q.2.1, q.2.2.2) else none else none
theorem zk_flat_sl (ad ex : Nat → Nat) : ∀ (av : List Value), (lg_sl (av.map (zk_cv ad ex))).length = (zk_flat av).length ∧ ∀ (k : Nat) (v : Value), (zk_flat av)[k]? = some v → v ≠ .float 0 → (lg_sl (av.map (zk_cv ad ex)))[k]? = some (.val (zk_cv ad ex v))
  | [] => ⟨rfl, fun k v h => by simp [zk_flat] at h⟩
  | w :: r => by
    obtain ⟨i1, i2⟩ := zk_flat_sl ad ex r
    by_cases hc : w.category = 2
    · have e1 : zk_flat (w :: r) = w :: .float 0 :: zk_flat r := by simp [zk_flat, hc]
      have e2 : lg_sl ((w :: r).map (zk_cv ad ex)) = .val (zk_cv ad ex w) :: .second :: lg_sl (r.map (zk_cv ad ex)) := by simp [lg_sl, zk_cat, hc]
      rw [e1, e2]
      refine ⟨by simp [i1], fun k v hk hv => ?_⟩
      match k with
      | 0 => simp only [List.getElem?_cons_zero, Option.some.injEq] at hk; subst hk; rfl
      | 1 => simp only [List.getElem?_cons_succ, List.getElem?_cons_zero, Option.some.injEq] at hk; exact absurd hk.symm hv
      | k + 2 => simp only [List.getElem?_cons_succ] at hk ⊢; exact i2 k v hk hv
    · have e1 : zk_flat (w :: r) = w :: zk_flat r := by simp [zk_flat, hc]
      have e2 : lg_sl ((w :: r).map (zk_cv ad ex)) = .val (zk_cv ad ex w) :: lg_sl (r.map (zk_cv ad ex)) := by simp [lg_sl, zk_cat, hc]
      rw [e1, e2]
      refine ⟨by simp [i1], fun k v hk hv => ?_⟩
      match k with
      | 0 => simp only [List.getElem?_cons_zero, Option.some.injEq] at hk; subst hk; rfl
      | k + 1 => simp only [List.getElem?_cons_succ] at hk ⊢; exact i2 k v hk hv
theorem zk_lv_entry {ad ex : Nat → Nat} {av : List Value} {n : Nat} (hn : (zk_flat av).length ≤ n) : zk_lv ad ex n (zk_env n av) ((lg_sl (av.map (zk_cv ad ex)) ++ List.replicate (n - (lg_sl (av.map (zk_cv ad ex))).length) Slot.unset).toArray) := by
  obtain ⟨i1, i2⟩ := zk_flat_sl ad ex av
  have h := lv_entry (av.map (zk_cv ad ex)) (n := n) (by rw [i1]; exact hn)
  refine ⟨h.1, h.2.1, fun k v hk hv => ?_⟩
  have e : zk_env n av = zk_flat av ++ List.replicate (n - (zk_flat av).length) (.float 0) := rfl
  rw [e] at hk
  rw [List.getElem?_toArray]
  by_cases hl : k < (zk_flat av).length
  · rw [List.getElem?_append_left hl] at hk
    rw [List.getElem?_append_left (by rw [i1]; exact hl)]
    exact i2 k v hk hv
  · rw [List.getElem?_append_right (by omega)] at hk
    have := List.mem_of_getElem? hk
    rw [List.mem_replicate] at this
    exact absurd this.2 hv
theorem zk_meth {SH : List zk_Sh} {T : zk_M} {y : MethodName} {ret : Option FieldType} {s : zk_Sm} {nx bk ct : Nat} (hy : plainName y.cls = true) (ho : y.cls = T.1) (hs : zk_S SH T 0 nx bk ct s) : zk_Met SH T y ret (zk_sem T.2.2.1 ret s) := by
  intro l D cs ad ex adV sz av h v h' hf
  unfold zk_sem at hf
  by_cases hn : (zk_flat av).length ≤ T.2.2.1
  case neg => rw [if_neg hn] at hf; cases hf
  rw [if_pos hn] at hf
  obtain ⟨⟨o, v1, env1, h1⟩, e1, hf⟩ := Option.bind_eq_some_iff.mp hf
  by_cases hc : ((3 : Nat), v1, env1, h1).1 = 3 ∧ zk_rok ret v1 = true ∧ o = 3
  case neg =>
    rw [if_neg (fun z => hc ⟨rfl, z.2, z.1⟩)] at hf
    cases hf
  obtain ⟨-, hc2, hc1⟩ := hc
  subst hc1
  rw [if_pos ⟨rfl, hc2⟩] at hf
  simp only [Option.some.injEq, Prod.mk.injEq] at hf
  obtain ⟨ev1, eh1⟩ := hf
  subst ev1
  subst eh1
  refine Met.ofW (cc := T.2.1) (maxL := T.2.2.1) (ret := ret) hy rfl ?_
  intro p e s0 m args below meth c s₁ B hml hv
  obtain ⟨rfl, hsz, hP, hK, hD0, hX⟩ := hv
  subst hsz
  have hx := B.exec
  have hb := B.bytes
  have hr := B.returns
  have hts := atoms_spec (ws := .code y T.2.1 T.2.2.1 ret :: zk_tbl) B.pre
  have hown : s0.vm.findClass y.cls = some m.cls := findClass_of_methodNamed B.named
  have hlocks := B.notSynchronized
  rw [ho] at hown
  have hD := hD0.self (sz := s0.heap.size)
  rw [lg_entry_eq]
  have g : zk_ok T (p, l, e, (headSpec (.code y T.2.1 T.2.2.1 ret :: zk_tbl) { frames := T.2.2.2.1, cells := 0, slots := 0, locals := T.2.2.2.2 }).room, s0, m, (av.map (zk_cv ad ex)).toArray, below, meth, c, MQ below (zk_Qc D cs ad ex SH h s0.heap.size ret v1 h1) (av.map (zk_cv ad ex)).toArray s0 0 0 (va_A (zk_lay ad cs SH h) s0.heap.size), 0, 0, va_A (zk_lay ad cs SH h) s0.heap.size) (ad, D, cs, ex, adV) := ⟨hx, hb, hml, hown, fun w hw => hts w (List.mem_cons_of_mem _ hw), hK, ⟨Nat.le_refl _, Nat.le_refl _, Nat.le_refl _, Nat.le_refl _⟩, fun q hq => Or.inr hq, hX⟩
  refine hs _ _ g (fun v2 h2 => v2 = v1 ∧ h2 = h1) ⟨?_, ?_⟩ (zk_env T.2.2.1 av) h 3 v1 env1 h1 e1 (fun z => by cases z) (fun z => by cases z) (fun z => by cases z) (fun _ => ⟨rfl, rfl⟩) s0.heap [] _ (by rw [hml]; exact zk_lv_entry hn) hP hD va_S.rf
  · rintro pc env x h2 hd ⟨rfl, rfl⟩ H locs ls hl hP2 hD2 hS2
    cases ret with
    | none => simp [zk_rok] at hc2
    | some ty =>
      simp only [zk_rok, decide_eq_true_eq] at hc2
      exact W.zret (v := x) hx hb hr hc2 (fun t ht hW => ⟨⟨rfl, by rw [ht]; exact hP2, va_K.moved hW.alike hK, hD2⟩, hS2.F ht⟩) hS2.2.2 hd
  · rintro pc env h2 hd ⟨rfl, rfl⟩ H locs ls hl hP2 hD2 hS2
    cases ret with
    | none => exact W.vret hx hb hr (fun t ht hW => ⟨⟨rfl, by rw [ht]; exact hP2, va_K.moved hW.alike hK, hD2⟩, hS2.F ht⟩) hS2.2.2 hd
    | some ty => simp [zk_rok] at hc2
