/-! constructors: a run of their bytes over a heap that grows; cell k stands at B + k -/
abbrev zc_K : Type := Program × Launch × Jvm.Env × Room × State × MethodId × Array Value × List Frame × Method × Code × (State → Prop)
abbrev zc_O : Type := Nat × va_G × (Nat → ClassId)
abbrev zc_S : Type := Nat × List Value × List Value × List zk_Sh × zk_H × Nat × Nat
def zc_ad (B : Nat) : Nat → Nat := fun k => B + k
def zc_At (κ : zc_K) (ω : zc_O) (σ : zc_S) : Prop := match κ, ω, σ with
  | (p, l, e, R, s, m, args, below, meth, c, Q), (B, D, cs), (pc, env, stk, SH, h, ce, sl) => ∀ (H : Heap) (locs : List Loc) (ls : Array Slot), zk_lv (zc_ad B) id c.maxLocals env ls → va_P D vwCl (zk_lay (zc_ad B) cs SH h) H → va_S (fun q => B ≤ q) s.heap H locs → H.size = B + SH.length → W p l e R s m args below meth c H locs ce sl Q (F0 m pc ls (stk.map (zk_cv (zc_ad B) id)))
/-- what the tables say of arrays of references, and the nest's words -/
def zc_X (U : State) : Prop := ((Cond.arrayOver (.object "RoadPlugs$Site")).before #[] U = true ∧ (Cond.arrayOver (.object "RoadPlugs$Plug")).before #[] U = true ∧ (Cond.arrayOver (.object "RoadPlugs$Car")).before #[] U = true ∧ (Cond.arrayOver (.array .int)).before #[] U = true) ∧ ∀ w ∈ zk_nest, va_Nw w U
theorem zc_ao_alike {u U : State} (hvm : u.vm.Alike U.vm) {ty : FieldType} (h : (Cond.arrayOver ty).before #[] u = true) : (Cond.arrayOver ty).before #[] U = true := by
  have h1 := Cond.arrayOver_setVmC (args := #[]) hvm ty
  rw [h] at h1
  exact h1
theorem zc_X.mv {s U : State} (h : zc_X s) (hW : s.WarmedH U.vm) : zc_X U := ⟨⟨zc_ao_alike hW.alike h.1.1, zc_ao_alike hW.alike h.1.2.1, zc_ao_alike hW.alike h.1.2.2.1, zc_ao_alike hW.alike h.1.2.2.2⟩, zk_nest_warm hW h.2⟩
theorem zc_X.fb {u U : State} (h : zc_X u) (hv : U.vm = u.vm) : zc_X U := by
  have hal : u.vm.Alike U.vm := by rw [hv]; exact Vm.Alike.refl u.vm
  exact ⟨⟨zc_ao_alike hal h.1.1, zc_ao_alike hal h.1.2.1, zc_ao_alike hal h.1.2.2.1, zc_ao_alike hal h.1.2.2.2⟩, zk_nest_same hv h.2⟩
def zc_ok (T : zk_M) (κ : zc_K) (ω : zc_O) : Prop := match κ, ω with
  | (p, l, e, R, s, m, args, below, meth, c, Q), (B, D, cs) => p.tables.exec = Jvm.exec ∧ c.code = T.2.1 ∧ c.maxLocals = T.2.2.1 ∧ s.vm.findClass T.1 = some m.cls ∧ (∀ w ∈ zk_tbl, w.before args s = true) ∧ va_K D vwCl (zk_tys cs) s ∧ (T.2.2.2.1 ≤ R.frames ∧ T.2.2.2.2 ≤ R.locals) ∧ B ≤ s.heap.size ∧ zc_X s ∧ (T.1 ≠ "RoadPlugsLaw" → meth.name = "<init>")
theorem zc_D {B : Nat} {cs : Nat → ClassId} {SH : List zk_Sh} {h : zk_H} : va_D (fun q => B ≤ q) (zk_lay (zc_ad B) cs SH h) := by
  have key : ∀ (k : Nat) (q : Nat × va_E), (zk_lay (zc_ad B) cs SH h)[k]? = some q → q.1 = B + k := by
    intro k q hk
    simp only [zk_lay, List.getElem?_mapIdx] at hk
    cases hs : SH[k]? with
    | none => simp [hs] at hk
    | some x =>
      simp only [hs, Option.map_some, Option.some.injEq] at hk
      rw [← hk]
      rfl
  refine ⟨fun i j x y hi hj hxy => ?_, fun k q hk => ?_⟩
  · rw [key i x hi, key j y hj] at hxy
    omega
  · rw [key k q hk]
    omega
theorem zc_len {ad : Nat → Nat} {cs : Nat → ClassId} {SH : List zk_Sh} {h : zk_H} : (zk_lay ad cs SH h).length = SH.length := by simp [zk_lay]
theorem zc_app {ad : Nat → Nat} {cs : Nat → ClassId} {SH : List zk_Sh} {h h' : zk_H} {sh : zk_Sh} (hh : ∀ b, b < SH.length → h' b = h b) : zk_lay ad cs SH h ++ [(ad SH.length, zk_ce ad cs sh (h' SH.length))] = zk_lay ad cs (SH ++ [sh]) h' := by
  apply List.ext_getElem?
  intro j
  by_cases e : j < SH.length
  · rw [List.getElem?_append_left (by rw [zc_len]; exact e)]
    simp only [zk_lay, List.getElem?_mapIdx]
    rw [List.getElem?_append_left e]
    cases SH[j]? with
    | none => rfl
    | some x => simp [hh j e]
  · by_cases e2 : j = SH.length
    · subst e2
      rw [List.getElem?_append_right (by rw [zc_len]; exact Nat.le_refl _), zc_len, Nat.sub_self]
      simp [zk_lay, List.getElem?_mapIdx]
    · rw [List.getElem?_eq_none (by rw [List.length_append, zc_len]; simp; omega), List.getElem?_eq_none (by rw [zc_len, List.length_append]; simp; omega)]
def zc_z (h : zk_H) (n : Nat) : zk_H := fun b j => if b = n then 0 else h b j
theorem zc_z_lo {h : zk_H} {n : Nat} : ∀ b, b < n → zc_z h n b = h b := fun b hb => by
  funext j
  simp [zc_z, Nat.ne_of_lt hb]
theorem zc_z_at {h : zk_H} {n : Nat} : zc_z h n n = fun _ => 0 := by
  funext j
  simp [zc_z]
/-- a cell more -/
theorem zc_grow {B : Nat} {D : va_G} {cs : Nat → ClassId} {SH : List zk_Sh} {h : zk_H} {sh : zk_Sh} {H H1 : Heap} (hP : va_P D vwCl (zk_lay (zc_ad B) cs SH h) H) (hz : H.size = B + SH.length) (z1 : H1.size = H.size + 1) (o1 : ∀ q, q < H.size → H1[q]? = H[q]?) (e1 : va_at D vwCl (B + SH.length, zk_ce (zc_ad B) cs sh (fun _ => 0)) H1) : va_P D vwCl (zk_lay (zc_ad B) cs (SH ++ [sh]) (zc_z h SH.length)) H1 ∧ H1.size = B + (SH ++ [sh]).length := by
  refine ⟨?_, by rw [z1, hz]; simp; omega⟩
  rw [← zc_app (h := h) (sh := sh) zc_z_lo]
  refine va_P.app (hP.kept (fun k q hk => o1 q.1 ((hP k q hk).lt))) (fun k q hk => ?_)
  have hk0 : k < 1 := (List.getElem?_eq_some_iff.mp hk).1
  rw [show k = 0 by omega] at hk
  cases hk
  rw [zc_z_at]
  exact e1
theorem zc_Sgrow {B : Nat} {H0 H H1 : Heap} {locs : List Loc} (hS : va_S (fun q => B ≤ q) H0 H locs) (z1 : H.size ≤ H1.size) (o1 : ∀ q, q < H.size → H1[q]? = H[q]?) : va_S (fun q => B ≤ q) H0 H1 locs := ⟨Nat.le_trans hS.1 z1, fun x h1 h2 => (o1 x (Nat.lt_of_lt_of_le h1 hS.1)).trans (hS.2.1 x h1 h2), hS.2.2⟩
def zc_df : Nat → List zk_Fd := fun ci => match ci with
  | 0 => [some none, some none, some none]
  | 1 => [some none, some none, some none, none]
  | 2 => [none, none, none, none, none, none, none, none, none, none, none, none, none, none, none]
  | 3 => [some none, some none, some none, none, none]
  | 4 => [some none, some none, some none, some none, some none, some none, none, some none, none, none, none]
  | 5 => [none, none, none, none, none, none]
  | 6 => [none, none, none, none, none, none, none, none, none, none, some none, some none]
  | 7 => [some none, some none]
  | 8 => [some none, none, none, none, none, none, none, none, none]
  | 9 => [some none, some none, some none, some none, none, none]
  | 10 => [some none, some none, some none, some none, some none, some none, some none, none, none, none, none, none, none, none]
  | 11 => [some none, some none, some none, some none, some none, some none, some none, none]
  | 12 => [some none, some none, some none, some none, some none, some none, some none, some none, some none, some none, some none, some none, some none, some none, none, none, none, some none, none, none, none, none, none, none, some none, some none, some none, some none, some none, some none, none, some none, none]
  | _ => []
