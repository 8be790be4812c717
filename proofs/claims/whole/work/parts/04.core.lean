def zk_isN : Cond → Bool := fun w => match w with
  | .methodLinkNest .. => true
  | _ => false
def zk_tbl : List Cond := lw_tbl.filter goodWord
def zk_nest : List Cond := lw_tbl.filter zk_isN
/-! the heap of a run, cell by cell: what is no int is fixed in a list of shapes, the ints are a function -/
abbrev zk_H : Type := Nat → Nat → Int32
abbrev zk_Fd : Type := Option (Option Nat)
abbrev zk_Sh : Type := (Nat × List zk_Fd) ⊕ (Nat ⊕ (Nat × List (Option Nat)))
def zk_fv (ad : Nat → Nat) (h : Nat → Int32) (i : Nat) (f : zk_Fd) : Value := match f with
  | none => .int (h i)
  | some r => va_rf (r.map ad)
def zk_ce (ad : Nat → Nat) (cs : Nat → ClassId) (sh : zk_Sh) (h : Nat → Int32) : va_E := match sh with
  | .inl o => .inr (o.1, o.2.mapIdx (fun i f => zk_fv ad h i f))
  | .inr (.inl n) => .inl (cs 0, n, .inl h)
  | .inr (.inr t) => .inl (cs t.1, t.2.length, .inr (.inr (.inr (.inr (fun j => (t.2.getD j none).map ad)))))
def zk_lay (ad : Nat → Nat) (cs : Nat → ClassId) (SH : List zk_Sh) (h : zk_H) : va_W := SH.mapIdx (fun k sh => (ad k, zk_ce ad cs sh (h k)))
def zk_ty : Nat → FieldType := fun k => match k with
  | 0 => .int
  | 1 => .object "RoadPlugs$Site"
  | 2 => .object "RoadPlugs$Plug"
  | 3 => .object "RoadPlugs$Car"
  | _ => .array .int
def zk_tys (cs : Nat → ClassId) : List (ClassId × FieldType) := [(cs 0, zk_ty 0), (cs 1, zk_ty 1), (cs 2, zk_ty 2), (cs 3, zk_ty 3), (cs 4, zk_ty 4)]
def zk_cv (ad ex : Nat → Nat) : Value → Value := fun v => match v with
  | .ref k => .ref (ad k)
  | .retAddr n => .ref (ex n)
  | v => v
def zk_lv (ad ex : Nat → Nat) (nL : Nat) (env : List Value) (ls : Array Slot) : Prop := ls.size = nL ∧ lv_wf ls ∧ ∀ (k : Nat) (v : Value), env[k]? = some v → v ≠ .float 0 → ls[k]? = some (.val (zk_cv ad ex v))
def zk_len : List Nat := [5, 4, 5, 3, 4, 5]
def zk_byt : List (List Int32) := [[115, 104, 97, 114, 101], [101, 118, 101, 110], [102, 105, 114, 115, 116], [99, 97, 112], [105, 100, 108, 101], [97, 102, 116, 101, 114]]
/-- what stands outside the run's own cells: the six texts, one static -/
def zk_Ex (ex adV : Nat → Nat) (A : Nat → Prop) (U : State) (H : Heap) : Prop := vk_S 6 zk_len zk_byt ex adV A U H ∧ (vk_R "RoadPlugs$Tape" 65 "share" (ex 0) U ∧ vk_R "RoadPlugs$Tape" 84 "even" (ex 1) U ∧ vk_R "RoadPlugs$Tape" 86 "first" (ex 2) U ∧ vk_R "RoadPlugs$Tape" 74 "cap" (ex 3) U ∧ vk_R "RoadPlugs$Tape" 79 "idle" (ex 4) U ∧ vk_R "RoadPlugs$Tape" 88 "after" (ex 5) U) ∧ (va_Z "java/lang/String" "COMPACT_STRINGS" "Z" (.int 1) A U H ∧ va_Zq "jdk/internal/util/Preconditions" "SIOOBE_FORMATTER" "Ljava/util/function/BiFunction;" A U H) ∧ ∀ w ∈ zk_nest, va_Nw w U
theorem zk_nest_warm {s U : State} (hW : s.WarmedH U.vm) (h : ∀ w ∈ zk_nest, va_Nw w s) : ∀ w ∈ zk_nest, va_Nw w U := by
  intro w hw
  have h1 := h w hw
  have h2 := (List.mem_filter.mp hw).2
  cases w <;> first | exact va_Nw.warmM hW h1 | (simp [zk_isN] at h2)
theorem zk_nest_same {s U : State} (hv : U.vm = s.vm) (h : ∀ w ∈ zk_nest, va_Nw w s) : ∀ w ∈ zk_nest, va_Nw w U := by
  intro w hw
  have h1 := h w hw
  have h2 := (List.mem_filter.mp hw).2
  cases w <;> first | exact va_Nw.same rfl hv.symm h1 | (simp [zk_isN] at h2)
abbrev zk_K : Type := Program × Launch × Jvm.Env × Room × State × MethodId × Array Value × List Frame × Method × Code × (State → Prop) × Nat × Nat × (Nat → Prop)
abbrev zk_O : Type := (Nat → Nat) × va_G × (Nat → ClassId) × (Nat → Nat) × (Nat → Nat)
/-- the machine stands at pc, with these locals, this stack, this heap, and comes to its goal -/
def zk_At (κ : zk_K) (ω : zk_O) (pc : Nat) (env stk : List Value) (SH : List zk_Sh) (h : zk_H) : Prop := match κ, ω with
  | (p, l, e, R, s, m, args, below, meth, c, Q, ce, sl, A), (ad, D, cs, ex, _) => ∀ (H : Heap) (locs : List Loc) (ls : Array Slot), zk_lv ad ex c.maxLocals env ls → va_P D vwCl (zk_lay ad cs SH h) H → va_D A (zk_lay ad cs SH h) → va_S A s.heap H locs → W p l e R s m args below meth c H locs ce sl Q (F0 m pc ls (stk.map (zk_cv ad ex)))
/-- a method: its owner, bytes, locals, and the room that it wants: frames, words -/
abbrev zk_M : Type := String × ByteArray × Nat × Nat × Nat
def zk_ok (T : zk_M) (κ : zk_K) (ω : zk_O) : Prop := match κ, ω with
  | (p, l, e, R, s, m, args, below, meth, c, Q, ce, sl, A), (ad, D, cs, ex, adV) => p.tables.exec = Jvm.exec ∧ c.code = T.2.1 ∧ c.maxLocals = T.2.2.1 ∧ s.vm.findClass T.1 = some m.cls ∧ (∀ w ∈ zk_tbl, w.before args s = true) ∧ va_K D vwCl (zk_tys cs) s ∧ (T.2.2.2.1 ≤ R.frames ∧ T.2.2.2.2 ≤ R.locals ∧ ce ≤ R.cells ∧ sl ≤ R.slots) ∧ (∀ q, s.heap.size ≤ q → A q) ∧ zk_Ex ex adV A s s.heap
theorem zk_Ex.mv {ex adV : Nat → Nat} {A B : Nat → Prop} {s U : State} {H : Heap} {locs : List Loc} (h : zk_Ex ex adV A s s.heap) (hW : s.WarmedH U.vm) (hS : va_S A s.heap H locs) (hB : ∀ q, B q → A q) : zk_Ex ex adV B U H := by
  obtain ⟨h1, ⟨r0, r1, r2, r3, r4, r5⟩, h3, h4⟩ := h
  exact ⟨((h1.kept hS.2.1).moved hW.alike).narrow hB, ⟨r0.warm hW, r1.warm hW, r2.warm hW, r3.warm hW, r4.warm hW, r5.warm hW⟩, ⟨((h3.1.kept hS.2.1).moved hW.alike).narrow hB, ((h3.2.kept hS.2.1).moved hW.alike).narrow hB⟩, zk_nest_warm hW h4⟩
theorem zk_Ex.fb {ex adV : Nat → Nat} {A : Nat → Prop} {u U : State} {H : Heap} (h : zk_Ex ex adV A u H) (hv : U.vm = u.vm) : zk_Ex ex adV A U H := by
  obtain ⟨h1, ⟨r0, r1, r2, r3, r4, r5⟩, h3, h4⟩ := h
  have hal : u.vm.Alike U.vm := by rw [hv]; exact Vm.Alike.refl u.vm
  exact ⟨h1.moved hal, ⟨r0.same hv, r1.same hv, r2.same hv, r3.same hv, r4.same hv, r5.same hv⟩, ⟨h3.1.moved hal, h3.2.moved hal⟩, zk_nest_same hv h4⟩
theorem zk_cat (ad ex : Nat → Nat) (v : Value) : (zk_cv ad ex v).category = v.category := by cases v <;> rfl
theorem zk_wsum (ad ex : Nat → Nat) (st : List Value) : ((st.map (zk_cv ad ex)).map fun v => v.category).sum = (st.map fun v => v.category).sum := by
  rw [List.map_map]
  congr 1
  apply List.map_congr_left
  intro v _
  exact zk_cat ad ex v
theorem zk_lay_at {ad : Nat → Nat} {cs : Nat → ClassId} {SH : List zk_Sh} {h : zk_H} {k : Nat} {sh : zk_Sh} (hk : SH[k]? = some sh) : (zk_lay ad cs SH h)[k]? = some (ad k, zk_ce ad cs sh (h k)) := by
  simp [zk_lay, List.getElem?_mapIdx, hk]
def zk_up (h : zk_H) (a i : Nat) (v : Int32) : zk_H := fun b j => if b = a ∧ j = i then v else h b j
theorem zk_up_row (h : zk_H) (a i : Nat) (v : Int32) : zk_up h a i v a = upd (h a) i v := by
  funext j
  by_cases e : j = i <;> simp [zk_up, upd, e]
theorem zk_up_ne (h : zk_H) {a b : Nat} (i : Nat) (v : Int32) (e : b ≠ a) : zk_up h a i v b = h b := by
  funext j
  simp [zk_up, e]
/-- a cell's ints change, its shape stays -/
theorem zk_lay_set {ad : Nat → Nat} {cs : Nat → ClassId} {SH : List zk_Sh} {h h' : zk_H} {k : Nat} {sh : zk_Sh} (hk : SH[k]? = some sh) (ho : ∀ b, b ≠ k → h' b = h b) : (zk_lay ad cs SH h).set k (ad k, zk_ce ad cs sh (h' k)) = zk_lay ad cs SH h' := by
  apply List.ext_getElem?
  intro j
  by_cases e : j = k
  · subst e
    have hl : j < (zk_lay ad cs SH h).length := (List.getElem?_eq_some_iff.mp (zk_lay_at (ad := ad) (cs := cs) (h := h) hk)).1
    rw [List.getElem?_set_self hl, zk_lay_at hk]
  · rw [List.getElem?_set_ne (Ne.symm e)]
    simp only [zk_lay, List.getElem?_mapIdx]
    cases SH[j]? with
    | none => rfl
    | some x => simp [ho j e]
theorem zk_set_row {ad : Nat → Nat} (h : Nat → Int32) (fs : List zk_Fd) (i : Nat) (v : Int32) (hi : fs[i]? = some none) : (fs.mapIdx (fun j f => zk_fv ad h j f)).set i (.int v) = fs.mapIdx (fun j f => zk_fv ad (upd h i v) j f) := by
  apply List.ext_getElem?
  intro j
  have hl : i < fs.length := (List.getElem?_eq_some_iff.mp hi).1
  by_cases e : j = i
  · subst e
    rw [List.getElem?_set_self (by rw [List.length_mapIdx]; exact hl), List.getElem?_mapIdx, hi]
    simp [zk_fv, upd]
  · rw [List.getElem?_set_ne (Ne.symm e), List.getElem?_mapIdx, List.getElem?_mapIdx]
    cases fs[j]? with
    | none => rfl
    | some x => cases x <;> simp [zk_fv, upd, e]
/-! locals -/
def zk_okS (env : List Value) (k : Nat) : Bool := match k with
  | 0 => true
  | j + 1 => match env[j]? with
    | some v => v.category == 1
    | none => true
theorem zk_lv_get {ad ex : Nat → Nat} {nL : Nat} {env : List Value} {ls : Array Slot} (h : zk_lv ad ex nL env ls) {k : Nat} {v : Value} (hk : env[k]? = some v) (hv : v ≠ .float 0) : ls[k]? = some (.val (zk_cv ad ex v)) := h.2.2 k v hk hv
def zk_lst (ad ex : Nat → Nat) (env : List Value) : List (Nat × Value) := (List.range env.length).filterMap (fun k => match env[k]? with
  | some v => if v = .float 0 then none else some (k, zk_cv ad ex v)
  | none => none)
theorem zk_lst_mem {ad ex : Nat → Nat} {env : List Value} {q : Nat × Value} : q ∈ zk_lst ad ex env ↔ ∃ v, env[q.1]? = some v ∧ v ≠ .float 0 ∧ q.2 = zk_cv ad ex v := by
  obtain ⟨k, w⟩ := q
  simp only [zk_lst, List.mem_filterMap, List.mem_range]
  constructor
  · rintro ⟨j, hj, h⟩
    cases hv : env[j]? with
    | none => simp [hv] at h
    | some v =>
      simp only [hv] at h
      by_cases hf : v = .float 0
      · simp [hf] at h
      · rw [if_neg hf] at h
        cases h
        exact ⟨v, hv, hf, rfl⟩
  · rintro ⟨v, hv, hf, hw⟩
    refine ⟨k, (List.getElem?_eq_some_iff.mp hv).1, ?_⟩
    simp [hv, hf, hw]
theorem zk_lv_has {ad ex : Nat → Nat} {nL : Nat} {env : List Value} {ls : Array Slot} (h : zk_lv ad ex nL env ls) : lv_has ls nL (zk_lst ad ex env) := by
  refine ⟨h.1, h.2.1, fun q hq => ?_⟩
  obtain ⟨v, h1, h2, h3⟩ := zk_lst_mem.mp hq
  rw [h3]
  exact h.2.2 q.1 v h1 h2
theorem zk_lv_st {ad ex : Nat → Nat} {nL : Nat} {env : List Value} {ls : Array Slot} {k : Nat} {v : Value} (hs : zk_okS env k = true) (h : lv_has ls nL ((k, zk_cv ad ex v) :: (zk_lst ad ex env).filter (fun q => !(q.1 == k) && !(q.1 + 1 == k && q.2.category == 2)))) : zk_lv ad ex nL (env.set k v) ls := by
  refine ⟨h.1, h.2.1, fun j w hj hw => ?_⟩
  by_cases e : j = k
  · subst e
    have hl : j < env.length := by
      have := (List.getElem?_eq_some_iff.mp hj).1
      simpa using this
    rw [List.getElem?_set_self hl] at hj
    cases hj
    exact h.2.2 _ List.mem_cons_self
  · rw [List.getElem?_set_ne (Ne.symm e)] at hj
    refine h.2.2 (j, zk_cv ad ex w) (List.mem_cons_of_mem _ (List.mem_filter.mpr ⟨zk_lst_mem.mpr ⟨w, hj, hw, rfl⟩, ?_⟩))
    have : ¬ (j + 1 = k ∧ w.category = 2) := by
      rintro ⟨e1, e2⟩
      subst e1
      simp [zk_okS, hj, e2] at hs
    simp [e, zk_cat]
    omega
def zk_env (nL : Nat) (av : List Value) : List Value := (av.flatMap (fun v => if v.category = 2 then [v, .float 0] else [v])) ++ List.replicate (nL - (av.flatMap (fun v => if v.category = 2 then [v, .float 0] else [v])).length) (.float 0)
