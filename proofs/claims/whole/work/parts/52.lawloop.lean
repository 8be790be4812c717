/-! THE CLAIM OUT OF ONE WALK OF THE LAW'S BODY. Your part is whole_start (and what it stands on); all else here is the same for every law, but numbers. -/
def R_law : String := "RoadPlugsLaw"
def lw_P (b : Addr) (xs : List Int32) (args : Array Value) (s : State) : Prop := args = #[.ref b] ∧ s.IntsAt b xs ∧ xs.length ≤ 3072 ∧ (Jvm.Cond.and given_1 narrow_1).before args s = true
def lw_Q (_ : Array Value) (s : State) (o : Outcome) (t : State) : Prop := o = .returned (some (.int 1)) ∧ Framed s o t [] 600000 7302249
def lw_Z (below : List Frame) (a : Array Value) (s : State) : State → Prop := fun t => ∃ o, t.status = .running ∧ Ended t below o ∧ lw_Q a s o t
/-- the law's own end, with 1 on the stack, nothing written that was there before, its room as the claim has it -/
theorem lw_ret {p : Program} {l : Launch} {e : Env} {s : State} {m : MethodId} {below : List Frame} {meth : Method} {c : Code} {b : Nat} (hx : p.tables.exec = Jvm.exec) (hb : c.code = code) (hr : meth.sig.returnType = ret) (hlocks : meth.locks = false) {pc : Nat} {H : Heap} {ls : Array Slot} (hdg : decode code pc = .ok (.ireturn, 1)) : W p l e room_1 s m #[Value.ref b] below meth c H [] 600000 7302249 (lw_Z below #[Value.ref b] s) (F0 m pc ls [.int 1]) := by
  intro T hT X
  obtain ⟨fs, hret, hrun, hended, hW, hframe⟩ := X.leave (v := some (.int 1)) (hlocks := hlocks) (fun h => by rw [hr] at h; cases h)
  have hmeth' : T.vm.method? m = some meth := X.method'
  refine ⟨T.setFrames fs, ?_, .returned (some (.int 1)), hrun, hended, rfl, ⟨_, rfl⟩, hW, hframe⟩
  jvm_step X.here [X.here.top, hx, hb, hdg, hmeth', hr, ret, narrow_b1]
  (try refine ⟨rfl, ?_⟩); (try refine ⟨rfl, ?_⟩)
  first | (intro acts; rw [hret _ acts rfl rfl rfl]) | rw [hret _ _ rfl rfl rfl]
  exact Steps.refl _
/-- what holds at the law's entry: the machine, the code, the tables' words (any of lw_tbl by 'hts w (by decide +kernel)'), the script of L ints xs at the cell b, what the Statement gives of the start (any of its parts by flat_of_before) -/
def lw_At (p : Program) (s : State) (m : MethodId) (meth : Method) (c : Code) (b L : Nat) (xs : Nat → Int32) : Prop :=
  p.tables.exec = Jvm.exec ∧ c.code = code ∧ meth.sig.returnType = ret ∧ c.maxLocals = 4 ∧ s.vm.findClass R_law = some m.cls ∧ (∀ w ∈ lw_tbl, w.before #[Value.ref b] s = true) ∧ va_X b L xs s s.heap ∧ b < s.heap.size ∧ meth.locks = false ∧ (Jvm.Cond.and given_1 narrow_1).before #[Value.ref b] s = true

section ZLL
variable {p : Program} {l : Launch} {e : Jvm.Env} {s : State} {m : MethodId} {below : List Frame} {meth : Method} {c : Code} {b ce sl L : Nat} {xs : Nat → Int32} {ω : zk_O}
abbrev zl_k (p : Program) (l : Launch) (e : Jvm.Env) (s : State) (m : MethodId) (below : List Frame) (meth : Method) (c : Code) (b ce sl : Nat) : zk_K := (p, l, e, room_1, s, m, #[Value.ref b], below, meth, c, lw_Z below #[Value.ref b] s, ce, sl, fun q => s.heap.size ≤ q)
theorem zl_end {env : List Value} {h : zk_H} (g : zk_ok M_law (zl_k p l e s m below meth c b ce sl) ω) (hr : meth.sig.returnType = ret) (hlocks : meth.locks = false) (hce : ce ≤ 600000) (hsl : sl ≤ 7302249) : zk_At (zl_k p l e s m below meth c b ce sl) ω 1194 env [] SHP h := by
  refine zk_iconst (v := 1) g dL_law_1194 rfl ?_
  obtain ⟨ad, D, cs, ex, adV⟩ := ω
  obtain ⟨hx, hb, hml, hown, hts, hK, hR, hA, hX⟩ := g
  intro H locs ls hl hP hD hS
  refine va_forget (fun q hq => hS.2.2 q hq) ?_
  refine W.widen (k := 600000) (n := 7302249) hce hsl ?_
  exact lw_ret hx hb hr hlocks dL_law_1195
theorem zl_loop {Inv : zk_H → Prop} (hI : zl_L2 Inv) (g : zk_ok M_law (zl_k p l e s m below meth c b ce sl) ω) (hs : zl_Scr (zl_k p l e s m below meth c b ce sl) ω L xs) (hL : L ≤ 3072) (hr : meth.sig.returnType = ret) (hlocks : meth.locks = false) (hce : ce ≤ 600000) (hsl : sl ≤ 7302249) : ∀ (n i : Nat) (h : zk_H), i ≤ 4000 → L + 1 ≤ i + n → Inv h → zk_At (zl_k p l e s m below meth c b ce sl) ω 18 (zl_env i) [] SHP h := by
  intro n
  induction n with
  | zero =>
    intro i h hi hn h0
    refine zk_iload_n (i := 3) (x := nI i) g dL_law_18 rfl ?_
    refine zk_aload_nS (i := 0) (x := 100) g dL_law_19 rfl ?_
    refine zl_slen g hs dL_law_20 ?_
    refine zk_bipush (v := 6) g dL_law_21 rfl ?_
    refine zk_isub g dL_law_23 ?_
    refine zk_j2gt (t := 1194) g dL_law_24 (by decide) (fun q => zl_end g hr hlocks hce hsl) (fun q => absurd ?_ q)
    rw [Int32.lt_iff_toInt_lt, show (6 : Int32) = nI 6 from rfl, pk_sub_toInt (by omega) (by omega), nI_toInt (by omega)]
    omega
  | succ n ih =>
    intro i h hi hn h0
    refine zk_iload_n (i := 3) (x := nI i) g dL_law_18 rfl ?_
    refine zk_aload_nS (i := 0) (x := 100) g dL_law_19 rfl ?_
    refine zl_slen g hs dL_law_20 ?_
    refine zk_bipush (v := 6) g dL_law_21 rfl ?_
    refine zk_isub g dL_law_23 ?_
    refine zk_j2gt (t := 1194) g dL_law_24 (by decide) (fun q => zl_end g hr hlocks hce hsl) (fun q => ?_)
    have hi6 : i + 6 ≤ L := by
      rw [Int32.lt_iff_toInt_lt, show (6 : Int32) = nI 6 from rfl, pk_sub_toInt (by omega) (by omega), nI_toInt (by omega)] at q
      omega
    have k : ∀ h2, Inv h2 → zk_At (zl_k p l e s m below meth c b ce sl) ω 1188 (zl_env i) [] SHP h2 := by
      intro h2 h3
      refine zk_iinc (i := 3) (x := nI i) (v := nI (i + 6)) g dL_law_1188 rfl (nI_add i 6) (by decide) rfl ?_
      refine zk_goto (t := 18) g dL_law_1191 (by decide) ?_
      exact ih (i + 6) h2 (by omega) (by omega) h3
    refine zk_aload_nS (i := 0) (x := 100) g dL_law_27 rfl ?_
    refine zk_iload_n (i := 3) (x := nI i) g dL_law_28 rfl ?_
    refine zl_sld g hs dL_law_29 (vp_in_nI (by omega) (by omega)) ?_
    refine zk_bipush (v := 31) g dL_law_30 rfl ?_
    refine zk_iand g dL_law_32 ?_
    exact zk_tsw (dt := 1188) g dL_law_33 (by decide) (by decide) (by decide) (by decide) (fun j t hj _ => zl_step hI g hs hi6 hL h0 k j t hj) (fun _ => k h h0)
end ZLL
