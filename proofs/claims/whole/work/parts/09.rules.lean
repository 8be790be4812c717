/-! expressions -/
def zk_c (v : Value) : zk_Xp := fun _ h => some (v, h)
def zk_li (k : Nat) : zk_Xp := fun env h => match env[k]? with
  | some (.int x) => some (.int x, h)
  | _ => none
def zk_lr (k : Nat) : zk_Xp := fun env h => match env[k]? with
  | some (.ref x) => some (.ref x, h)
  | some (.retAddr x) => some (.retAddr x, h)
  | _ => none
def zk_ll (k : Nat) : zk_Xp := fun env h => match env[k]? with
  | some (.long x) => some (.long x, h)
  | _ => none
def zk_u (f : Value → Option Value) (F : zk_Xp) : zk_Xp := fun env h => (F env h).bind fun q => (f q.1).bind fun w => some (w, q.2)
def zk_b (f : Value → Value → Option Value) (F G : zk_Xp) : zk_Xp := fun env h => (F env h).bind fun q => (G env q.2).bind fun r => (f q.1 r.1).bind fun w => some (w, r.2)
def zk_rdF (SH : List zk_Sh) (ci k : Nat) (v : Value) (h : zk_H) : Option Value := match v with
  | .ref a => match SH[a]? with
    | some (.inl o) => if o.1 = ci then (o.2[k]?).bind fun f => zk_av h a k f else none
    | _ => none
  | _ => none
def zk_rdA (SH : List zk_Sh) (v w : Value) (h : zk_H) : Option Value := match v, w with
  | .ref a, .int i => match SH[a]? with
    | some (.inr (.inl n)) => if 0 ≤ i.toInt ∧ i.toInt < (n : Int) then some (.int (h a i.toNatClampNeg)) else none
    | _ => none
  | _, _ => none
def zk_rdR (SH : List zk_Sh) (v w : Value) : Option Value := match v, w with
  | .ref a, .int i => match SH[a]? with
    | some (.inr (.inr t)) => if 1 ≤ t.1 ∧ t.1 ≤ 4 ∧ 0 ≤ i.toInt then (t.2[i.toNatClampNeg]?).bind fun r => r.bind fun b => some (.ref b) else none
    | _ => none
  | _, _ => none
def zk_gf (SH : List zk_Sh) (ci k : Nat) (F : zk_Xp) : zk_Xp := fun env h => (F env h).bind fun q => (zk_rdF SH ci k q.1 q.2).bind fun w => some (w, q.2)
def zk_al (SH : List zk_Sh) (F G : zk_Xp) : zk_Xp := fun env h => (F env h).bind fun q => (G env q.2).bind fun r => (zk_rdA SH q.1 r.1 r.2).bind fun w => some (w, r.2)
def zk_aa (SH : List zk_Sh) (F G : zk_Xp) : zk_Xp := fun env h => (F env h).bind fun q => (G env q.2).bind fun r => (zk_rdR SH q.1 r.1).bind fun w => some (w, r.2)
def zk_ca (f : zk_Fn) (Fs : List zk_Xp) : zk_Xp := fun env h => (zk_ev Fs env h).bind fun q => f q.1 q.2
def zk_rc (SH : List zk_Sh) (ci : Nat) (av : List Value) : Bool := match av with
  | .ref a :: _ => match SH[a]? with
    | some (.inl o) => o.1 == ci
    | _ => false
  | _ => false
def zk_vc (SH : List zk_Sh) (ci : Nat) (f : zk_Fn) (Fs : List zk_Xp) : zk_Xp := fun env h => (zk_ev Fs env h).bind fun q => if zk_rc SH ci q.1 then f q.1 q.2 else none
def zk_it (c : zk_Cn) (F G : zk_Xp) : zk_Xp := fun env h => (c env h).bind fun q => if q.1 then F env q.2 else G env q.2
section ZE
variable {SH : List zk_Sh} {T : zk_M} {n a b : Nat}
theorem zk_e_iconst {k : Int} {v : Int32} (hd : decode T.2.1 a = .ok (.iconst k, 1)) (hv : Int32.ofInt k = v) : zk_E SH T n a (a + 1) (zk_c (.int v)) := by
  intro κ ω g env stk h w h' _ hf k
  cases hf
  exact zk_iconst g hd hv k
theorem zk_e_bipush {k : Int} {v : Int32} (hd : decode T.2.1 a = .ok (.bipush k, 2)) (hv : (Int8.ofInt k).toInt32 = v) : zk_E SH T n a (a + 2) (zk_c (.int v)) := by
  intro κ ω g env stk h w h' _ hf k
  cases hf
  exact zk_bipush g hd hv k
theorem zk_e_sipush {k : Int} {v : Int32} (hd : decode T.2.1 a = .ok (.sipush k, 3)) (hv : (Int16.ofInt k).toInt32 = v) : zk_E SH T n a (a + 3) (zk_c (.int v)) := by
  intro κ ω g env stk h w h' _ hf k
  cases hf
  exact zk_sipush g hd hv k
theorem zk_e_ldc {i : Nat} {v : Int32} (hd : decode T.2.1 a = .ok (.ldc i, 2)) (hw : Cond.constant T.1 i v ∈ zk_tbl) : zk_E SH T n a (a + 2) (zk_c (.int v)) := by
  intro κ ω g env stk h w h' _ hf k
  cases hf
  exact zk_ldc g hd hw k
theorem zk_e_ldcw {i : Nat} {v : Int32} (hd : decode T.2.1 a = .ok (.ldc_w i, 3)) (hw : Cond.constant T.1 i v ∈ zk_tbl) : zk_E SH T n a (a + 3) (zk_c (.int v)) := by
  intro κ ω g env stk h w h' _ hf k
  cases hf
  exact zk_ldcw g hd hw k
theorem zk_e_ldc2 {i : Nat} {v : Int64} (hd : decode T.2.1 a = .ok (.ldc2_w i, 3)) (hw : Cond.constantLong T.1 i v ∈ zk_tbl) : zk_E SH T n a (a + 3) (zk_c (.long v)) := by
  intro κ ω g env stk h w h' _ hf k
  cases hf
  exact zk_ldc2 g hd hw k
theorem zk_e_iload {i : Nat} (hd : decode T.2.1 a = .ok (.iload i, 2)) : zk_E SH T n a (a + 2) (zk_li i) := by
  intro κ ω g env stk h w h' _ hf k
  unfold zk_li at hf
  split at hf
  · cases hf
    exact zk_iload g hd (by assumption) k
  · cases hf
theorem zk_e_iload_n {i : Fin 4} (hd : decode T.2.1 a = .ok (.iload_n i, 1)) : zk_E SH T n a (a + 1) (zk_li (i : Nat)) := by
  intro κ ω g env stk h w h' _ hf k
  unfold zk_li at hf
  split at hf
  · cases hf
    exact zk_iload_n g hd (by assumption) k
  · cases hf
theorem zk_e_lload_n {i : Fin 4} (hd : decode T.2.1 a = .ok (.lload_n i, 1)) : zk_E SH T n a (a + 1) (zk_ll (i : Nat)) := by
  intro κ ω g env stk h w h' _ hf k
  unfold zk_ll at hf
  split at hf
  · cases hf
    exact zk_lload_n g hd (by assumption) k
  · cases hf
theorem zk_e_aload {i : Nat} (hd : decode T.2.1 a = .ok (.aload i, 2)) : zk_E SH T n a (a + 2) (zk_lr i) := by
  intro κ ω g env stk h w h' _ hf k
  unfold zk_lr at hf
  split at hf
  · cases hf
    exact zk_aload g hd (by assumption) k
  · cases hf
    exact zk_aloadS g hd (by assumption) k
  · cases hf
theorem zk_e_aload_n {i : Fin 4} (hd : decode T.2.1 a = .ok (.aload_n i, 1)) : zk_E SH T n a (a + 1) (zk_lr (i : Nat)) := by
  intro κ ω g env stk h w h' _ hf k
  unfold zk_lr at hf
  split at hf
  · cases hf
    exact zk_aload_n g hd (by assumption) k
  · cases hf
    exact zk_aload_nS g hd (by assumption) k
  · cases hf
theorem zk_e_u {f : Value → Option Value} {F : zk_Xp} {k : Nat} (hF : zk_E SH T n a b F) (hI : zk_I1 T n b k f) : zk_E SH T n a (b + k) (zk_u f F) := by
  intro κ ω g env stk h w h' hn hf kk
  obtain ⟨⟨v1, h1⟩, e1, hf⟩ := Option.bind_eq_some_iff.mp hf
  obtain ⟨w1, e2, hf⟩ := Option.bind_eq_some_iff.mp hf
  cases hf
  exact hF κ ω g env stk h v1 h1 hn e1 (hI κ ω g env stk SH h1 v1 _ hn e2 kk)
theorem zk_catle (v : Value) : v.category ≤ 2 := by cases v <;> simp [Value.category]
theorem zk_push {stk : List Value} {n : Nat} (v : Value) (h : (stk.map fun v => v.category).sum ≤ n) : ((v :: stk).map fun v => v.category).sum ≤ n + 2 := by
  have := zk_catle v
  simp only [List.map_cons, List.sum_cons]
  omega
theorem zk_e_b {f : Value → Value → Option Value} {F G : zk_Xp} {c k : Nat} (hF : zk_E SH T n a b F) (hG : zk_E SH T (n + 2) b c G) (hI : zk_I2 T n c k f) : zk_E SH T n a (c + k) (zk_b f F G) := by
  intro κ ω g env stk h w h' hn hf kk
  obtain ⟨⟨v1, h1⟩, e1, hf⟩ := Option.bind_eq_some_iff.mp hf
  obtain ⟨⟨v2, h2⟩, e2, hf⟩ := Option.bind_eq_some_iff.mp hf
  obtain ⟨w1, e3, hf⟩ := Option.bind_eq_some_iff.mp hf
  cases hf
  exact hF κ ω g env stk h v1 h1 hn e1 (hG κ ω g env (v1 :: stk) h1 v2 h2 (zk_push v1 hn) e2 (hI κ ω g env stk SH h2 v1 v2 _ hn e3 kk))
theorem zk_e_gf {F : zk_Xp} {i ci k : Nat} (hF : zk_E SH T n a b F) (hd : decode T.2.1 b = .ok (.getfield i, 3)) (hl : zk_FL T.1 i ci k) : zk_E SH T n a (b + 3) (zk_gf SH ci k F) := by
  intro κ ω g env stk h w h' hn hf kk
  obtain ⟨⟨v1, h1⟩, e1, hf⟩ := Option.bind_eq_some_iff.mp hf
  obtain ⟨w1, e2, hf⟩ := Option.bind_eq_some_iff.mp hf
  cases hf
  refine hF κ ω g env stk h v1 h1 hn e1 ?_
  dsimp only at e2
  unfold zk_rdF at e2
  split at e2
  · split at e2
    · rename_i o ho
      split at e2
      · rename_i hci
        obtain ⟨f, e3, e4⟩ := Option.bind_eq_some_iff.mp e2
        obtain ⟨o1, o2⟩ := o
        subst hci
        exact zk_getf g hd hl ho e3 e4 kk
      · cases e2
    · cases e2
  · cases e2
theorem zk_e_al {F G : zk_Xp} {c : Nat} (hF : zk_E SH T n a b F) (hG : zk_E SH T (n + 2) b c G) (hd : decode T.2.1 c = .ok (.iaload, 1)) : zk_E SH T n a (c + 1) (zk_al SH F G) := by
  intro κ ω g env stk h w h' hn hf kk
  obtain ⟨⟨v1, h1⟩, e1, hf⟩ := Option.bind_eq_some_iff.mp hf
  obtain ⟨⟨v2, h2⟩, e2, hf⟩ := Option.bind_eq_some_iff.mp hf
  obtain ⟨w1, e3, hf⟩ := Option.bind_eq_some_iff.mp hf
  cases hf
  refine hF κ ω g env stk h v1 h1 hn e1 (hG κ ω g env (v1 :: stk) h1 v2 h2 (zk_push v1 hn) e2 ?_)
  dsimp only at e3
  unfold zk_rdA at e3
  split at e3
  · split at e3
    · rename_i hs
      split at e3
      · rename_i hi
        cases e3
        exact zk_iald g hd hs (vp_in_iff.mpr hi) kk
      · cases e3
    · cases e3
  · cases e3
theorem zk_e_aa {F G : zk_Xp} {c : Nat} (hF : zk_E SH T n a b F) (hG : zk_E SH T (n + 2) b c G) (hd : decode T.2.1 c = .ok (.aaload, 1)) : zk_E SH T n a (c + 1) (zk_aa SH F G) := by
  intro κ ω g env stk h w h' hn hf kk
  obtain ⟨⟨v1, h1⟩, e1, hf⟩ := Option.bind_eq_some_iff.mp hf
  obtain ⟨⟨v2, h2⟩, e2, hf⟩ := Option.bind_eq_some_iff.mp hf
  obtain ⟨w1, e3, hf⟩ := Option.bind_eq_some_iff.mp hf
  cases hf
  refine hF κ ω g env stk h v1 h1 hn e1 (hG κ ω g env (v1 :: stk) h1 v2 h2 (zk_push v1 hn) e2 ?_)
  dsimp only at e3
  unfold zk_rdR at e3
  split at e3
  · split at e3
    · rename_i t hs
      split at e3
      · rename_i i _ _ hi
        obtain ⟨r, e4, e5⟩ := Option.bind_eq_some_iff.mp e3
        obtain ⟨r2, e6, e7⟩ := Option.bind_eq_some_iff.mp e5
        cases e7
        subst e6
        obtain ⟨t1, t2⟩ := t
        obtain ⟨i1, i2, i3⟩ := hi
        simp only at i1 i2 i3 e4
        obtain ⟨t0, rfl⟩ : ∃ t0, t1 = t0 + 1 := ⟨t1 - 1, by omega⟩
        refine zk_aald g hd hs (by omega) ?_ e4 kk
        rw [Int32.lt_iff_toInt_lt]
        have z0 : (0 : Int32).toInt = 0 := rfl
        omega
      · cases e3
    · cases e3
  · cases e3
theorem zk_es_nil : zk_Es SH T n a a [] := by
  intro κ ω g env stk h w h' hn hf kk
  cases hf
  exact kk
theorem zk_es_cons {F : zk_Xp} {Fs : List zk_Xp} {c : Nat} (hF : zk_E SH T n a b F) (hG : zk_Es SH T (n + 2) b c Fs) : zk_Es SH T n a c (F :: Fs) := by
  intro κ ω g env stk h w h' hn hf kk
  obtain ⟨⟨v1, h1⟩, e1, hf⟩ := Option.bind_eq_some_iff.mp hf
  obtain ⟨⟨v2, h2⟩, e2, hf⟩ := Option.bind_eq_some_iff.mp hf
  cases hf
  refine hF κ ω g env stk h v1 h1 hn e1 (hG κ ω g env (v1 :: stk) h1 v2 h2 (zk_push v1 hn) e2 ?_)
  rw [List.reverse_cons, List.append_assoc] at kk
  exact kk
def zk_Inv (SH : List zk_Sh) (T : zk_M) (n pc k : Nat) (ret : Option FieldType) (f : zk_Fn) : Prop := ∀ (κ : zk_K) (ω : zk_O), zk_ok T κ ω → ∀ (env stk : List Value) (h : zk_H) (av : List Value) (v : Value) (h' : zk_H), (stk.map fun v => v.category).sum ≤ n → av.length = k → f av h = some (v, h') → zk_At κ ω (pc + 3) env (zk_rl ret v ++ stk) SH h' → zk_At κ ω pc env (av.reverse ++ stk) SH h
theorem zk_i_s {T2 : zk_M} {i k : Nat} {y : MethodName} {ret : Option FieldType} {f : zk_Fn} (hd : decode T.2.1 a = .ok (.invokestatic i, 3)) (hM : zk_Met SH T2 y ret f) (hB : zk_LB T2 y ret k) (hw : Cond.methodLink T.1 i y ∈ zk_tbl ∧ Cond.static y ∈ zk_tbl) (hr : zk_room T T2) (hn : n ≤ 8) : zk_Inv SH T n a k ret f := by
  intro κ ω g env stk h av v h' hst hk hf kk
  subst hk
  exact zk_invS g hd hM ⟨hw, hB⟩ hr (Nat.le_trans hst hn) hf kk
theorem zk_i_sn {T2 : zk_M} {i k : Nat} {y : MethodName} {ret : Option FieldType} {f : zk_Fn} {host : String} (hd : decode T.2.1 a = .ok (.invokestatic i, 3)) (hM : zk_Met SH T2 y ret f) (hB : zk_LB T2 y ret k) (hw : Cond.methodLinkNest T.1 i y host ∈ zk_nest ∧ Cond.static y ∈ zk_tbl) (hr : zk_room T T2) (hn : n ≤ 8) : zk_Inv SH T n a k ret f := by
  intro κ ω g env stk h av v h' hst hk hf kk
  subst hk
  exact zk_invSN g hd hM ⟨hw, hB⟩ hr (Nat.le_trans hst hn) hf kk
def zk_ck (SH : List zk_Sh) (ci : Nat) (f : zk_Fn) : zk_Fn := fun av h => if zk_rc SH ci av then f av h else none
theorem zk_rc_spec {ci : Nat} {av : List Value} (h : zk_rc SH ci av = true) : ∃ (a : Nat) (r : List Value) (fs : List zk_Fd), av = .ref a :: r ∧ SH[a]? = some (.inl (ci, fs)) := by
  unfold zk_rc at h
  split at h
  · rename_i a r
    split at h
    · rename_i o ho
      obtain ⟨o1, o2⟩ := o
      simp only [beq_iff_eq] at h
      subst h
      exact ⟨a, r, o2, rfl, ho⟩
    · cases h
  · cases h
theorem zk_i_v {T2 : zk_M} {i k ci : Nat} {y : MethodName} {ret : Option FieldType} {f : zk_Fn} {Tb : u_T} {N : Nat} (hd : decode T.2.1 a = .ok (.invokevirtual i, 3)) (hM : zk_Met SH T2 y ret f) (hB : zk_LB T2 y ret k) (hw : Cond.methodLink T.1 i y ∈ zk_tbl ∧ Cond.instanceMethod y ∈ zk_tbl ∧ Cond.selects y.cls y y ∈ zk_tbl) (hc : vwCl[ci]? = some (y.cls, Tb, N)) (hr : zk_room T T2) (hn : n ≤ 8) : zk_Inv SH T n a (k + 1) ret (zk_ck SH ci f) := by
  intro κ ω g env stk h av v h' hst hk hf kk
  unfold zk_ck at hf
  split at hf
  · rename_i hrc
    obtain ⟨a0, r, fs, rfl, hs⟩ := zk_rc_spec hrc
    simp only [List.length_cons, Nat.add_right_cancel_iff] at hk
    subst hk
    have := zk_invV g hd hM ⟨hw, hB⟩ hr (Nat.le_trans hst hn) hs hc hf kk
    rw [List.reverse_cons, List.append_assoc]
    exact this
  · cases hf
theorem zk_i_vn {T2 : zk_M} {i k ci : Nat} {y : MethodName} {ret : Option FieldType} {f : zk_Fn} {Tb : u_T} {N : Nat} {host : String} (hd : decode T.2.1 a = .ok (.invokevirtual i, 3)) (hM : zk_Met SH T2 y ret f) (hB : zk_LB T2 y ret k) (hw : Cond.methodLinkNest T.1 i y host ∈ zk_nest ∧ Cond.instanceMethod y ∈ zk_tbl ∧ Cond.selects y.cls y y ∈ zk_tbl) (hc : vwCl[ci]? = some (y.cls, Tb, N)) (hr : zk_room T T2) (hn : n ≤ 8) : zk_Inv SH T n a (k + 1) ret (zk_ck SH ci f) := by
  intro κ ω g env stk h av v h' hst hk hf kk
  unfold zk_ck at hf
  split at hf
  · rename_i hrc
    obtain ⟨a0, r, fs, rfl, hs⟩ := zk_rc_spec hrc
    simp only [List.length_cons, Nat.add_right_cancel_iff] at hk
    subst hk
    have := zk_invVN g hd hM ⟨hw, hB⟩ hr (Nat.le_trans hst hn) hs hc hf kk
    rw [List.reverse_cons, List.append_assoc]
    exact this
  · cases hf
theorem zk_ev_len : ∀ (Fs : List zk_Xp) (env : List Value) (h : zk_H) (vs : List Value) (h' : zk_H), zk_ev Fs env h = some (vs, h') → vs.length = Fs.length
  | [], env, h, vs, h', e => by cases e; rfl
  | F :: r, env, h, vs, h', e => by
    obtain ⟨⟨v1, h1⟩, e1, e⟩ := Option.bind_eq_some_iff.mp e
    obtain ⟨⟨v2, h2⟩, e2, e⟩ := Option.bind_eq_some_iff.mp e
    cases e
    simp [zk_ev_len r env h1 v2 h2 e2]
theorem zk_e_call {f : zk_Fn} {Fs : List zk_Xp} {ty : FieldType} {k : Nat} (hF : zk_Es SH T n a b Fs) (hI : zk_Inv SH T n b k (some ty) f) (hk : Fs.length = k) : zk_E SH T n a (b + 3) (zk_ca f Fs) := by
  intro κ ω g env stk h w h' hn hf kk
  obtain ⟨⟨v1, h1⟩, e1, hf⟩ := Option.bind_eq_some_iff.mp hf
  exact hF κ ω g env stk h v1 h1 hn e1 (hI κ ω g env stk h1 v1 w h' hn ((zk_ev_len _ _ _ _ _ e1).trans hk) hf kk)
theorem zk_e_it {c : zk_Cn} {F G : zk_Xp} {t f b2 j : Nat} {o : Int} (hC : zk_C SH T n a t f c) (hF : zk_E SH T n t b2 F) (hd : decode T.2.1 b2 = .ok (.goto o, 3)) (ht : (b2 : Int) + o = (j : Int)) (hG : zk_E SH T n f j G) : zk_E SH T n a j (zk_it c F G) := by
  intro κ ω g env stk h w h' hn hf kk
  obtain ⟨⟨v1, h1⟩, e1, hf⟩ := Option.bind_eq_some_iff.mp hf
  refine hC κ ω g env stk h v1 h1 hn e1 ?_
  cases v1 with
  | true => exact hF κ ω g env stk h1 w h' hn hf (zk_goto g hd ht kk)
  | false => exact hG κ ω g env stk h1 w h' hn hf kk
end ZE
/-! conditions -/
def zk_c1 (r : Int32 → Bool) (F : zk_Xp) : zk_Cn := fun env h => (F env h).bind fun q => match q.1 with
  | .int x => some (r x, q.2)
  | _ => none
def zk_c2 (r : Int32 → Int32 → Bool) (F G : zk_Xp) : zk_Cn := fun env h => (F env h).bind fun q => (G env q.2).bind fun t => match q.1, t.1 with
  | .int x, .int y => some (r x y, t.2)
  | _, _ => none
def zk_and (c d : zk_Cn) : zk_Cn := fun env h => (c env h).bind fun q => if q.1 then d env q.2 else some (false, q.2)
def zk_or (c d : zk_Cn) : zk_Cn := fun env h => (c env h).bind fun q => if q.1 then some (true, q.2) else d env q.2
def zk_not (c : zk_Cn) : zk_Cn := fun env h => (c env h).bind fun q => some (!q.1, q.2)
section ZC
variable {SH : List zk_Sh} {T : zk_M} {n a b t f : Nat}
theorem zk_c_1 {r : Int32 → Bool} {F : zk_Xp} (hF : zk_E SH T n a b F) (hJ : zk_J1 T b t f r) : zk_C SH T n a t f (zk_c1 r F) := by
  intro κ ω g env stk h w h' hn hf kk
  obtain ⟨⟨v1, h1⟩, e1, hf⟩ := Option.bind_eq_some_iff.mp hf
  cases v1 <;> simp only [Option.some.injEq, Prod.mk.injEq, reduceCtorEq] at hf
  obtain ⟨rfl, rfl⟩ := hf
  exact hF κ ω g env stk h _ h1 hn e1 (hJ κ ω g env stk SH h1 _ kk)
theorem zk_c_2 {r : Int32 → Int32 → Bool} {F G : zk_Xp} {c : Nat} (hF : zk_E SH T n a b F) (hG : zk_E SH T (n + 2) b c G) (hJ : zk_J2 T c t f r) : zk_C SH T n a t f (zk_c2 r F G) := by
  intro κ ω g env stk h w h' hn hf kk
  obtain ⟨⟨v1, h1⟩, e1, hf⟩ := Option.bind_eq_some_iff.mp hf
  obtain ⟨⟨v2, h2⟩, e2, hf⟩ := Option.bind_eq_some_iff.mp hf
  cases v1 <;> cases v2 <;> simp only [Option.some.injEq, Prod.mk.injEq, reduceCtorEq] at hf
  obtain ⟨rfl, rfl⟩ := hf
  exact hF κ ω g env stk h _ h1 hn e1 (hG κ ω g env _ h1 _ h2 (zk_push _ hn) e2 (hJ κ ω g env stk SH h2 _ _ kk))
theorem zk_c_and {c d : zk_Cn} {m : Nat} (hc : zk_C SH T n a m f c) (hd : zk_C SH T n m t f d) : zk_C SH T n a t f (zk_and c d) := by
  intro κ ω g env stk h w h' hn hf kk
  obtain ⟨⟨v1, h1⟩, e1, hf⟩ := Option.bind_eq_some_iff.mp hf
  refine hc κ ω g env stk h v1 h1 hn e1 ?_
  cases v1 with
  | true => exact hd κ ω g env stk h1 w h' hn hf kk
  | false => cases hf; exact kk
theorem zk_c_or {c d : zk_Cn} {m : Nat} (hc : zk_C SH T n a t m c) (hd : zk_C SH T n m t f d) : zk_C SH T n a t f (zk_or c d) := by
  intro κ ω g env stk h w h' hn hf kk
  obtain ⟨⟨v1, h1⟩, e1, hf⟩ := Option.bind_eq_some_iff.mp hf
  refine hc κ ω g env stk h v1 h1 hn e1 ?_
  cases v1 with
  | true => cases hf; exact kk
  | false => exact hd κ ω g env stk h1 w h' hn hf kk
theorem zk_c_not {c : zk_Cn} (hc : zk_C SH T n a f t c) : zk_C SH T n a t f (zk_not c) := by
  intro κ ω g env stk h w h' hn hf kk
  obtain ⟨⟨v1, h1⟩, e1, hf⟩ := Option.bind_eq_some_iff.mp hf
  refine hc κ ω g env stk h v1 h1 hn e1 ?_
  cases hf
  cases v1 <;> exact kk
end ZC
