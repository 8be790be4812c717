/-! a constructor's run -/
def zc_lk {α : Type} (l : List (Nat × α)) (i : Nat) : Option α := (l.find? (fun q => q.1 == i)).map Prod.snd
theorem zc_lk_mem {α : Type} {l : List (Nat × α)} {i : Nat} {x : α} (h : zc_lk l i = some x) : (i, x) ∈ l := by
  unfold zc_lk at h
  cases hf : l.find? (fun q => q.1 == i) with
  | none => simp [hf] at h
  | some q =>
    simp only [hf, Option.map_some, Option.some.injEq] at h
    have h1 := List.find?_some hf
    have h2 := List.mem_of_find?_eq_some hf
    simp only [beq_iff_eq] at h1
    obtain ⟨a, b⟩ := q
    dsimp only at h h1
    subst h
    subst h1
    exact h2
abbrev zc_L : Type := List (Nat × (Nat × Nat)) × List (Nat × (Nat × Nat × Bool)) × List (Nat × (Nat × Nat)) × List (Nat × Nat) × List (Nat × Nat) × List (Nat × Nat)
def zc_okL (T : zk_M) (L : zc_L) : Prop := (∀ q ∈ L.1, zk_FL T.1 q.1 q.2.1 q.2.2) ∧ (∀ q ∈ L.2.1, zk_FP T.1 q.1 q.2.1 q.2.2.1 (if q.2.2.2 then .boolean else .int)) ∧ (∀ q ∈ L.2.2.1, zc_FR T.1 q.1 q.2.1 q.2.2) ∧ (∀ q ∈ L.2.2.2.1, zc_NW T.1 q.1 q.2) ∧ (∀ q ∈ L.2.2.2.2.1, q.2 < 3 ∧ ∃ C : String, zk_ty (q.2 + 1) = .object C ∧ Cond.classLink T.1 q.1 C ∈ zk_tbl) ∧ (∀ q ∈ L.2.2.2.2.2, Cond.classLink T.1 q.1 "[[I" ∈ zk_tbl)
def zc_stI (nL : Nat) (L : zc_L) (i : Instr) (n pc : Nat) (env stk : List Value) (SH : List zk_Sh) (h : zk_H) (ce sl : Nat) : Option zc_S := match i with
  | .iconst v => if n = 1 then some (pc + 1, env, .int (Int32.ofInt v) :: stk, SH, h, ce, sl) else none
  | .bipush v => if n = 2 then some (pc + 2, env, .int ((Int8.ofInt v).toInt32) :: stk, SH, h, ce, sl) else none
  | .sipush v => if n = 3 then some (pc + 3, env, .int ((Int16.ofInt v).toInt32) :: stk, SH, h, ce, sl) else none
  | .aload_n k => match env[(k : Nat)]? with
    | some (.ref x) => if n = 1 then some (pc + 1, env, .ref x :: stk, SH, h, ce, sl) else none
    | _ => none
  | .iload_n k => match env[(k : Nat)]? with
    | some (.int x) => if n = 1 then some (pc + 1, env, .int x :: stk, SH, h, ce, sl) else none
    | _ => none
  | .istore_n k => match stk with
    | .int x :: r => if n = 1 ∧ (k : Nat) < nL ∧ zk_okS env (k : Nat) = true then some (pc + 1, env.set (k : Nat) (.int x), r, SH, h, ce, sl) else none
    | _ => none
  | .iinc k v => match env[k]? with
    | some (.int x) => if n = 3 ∧ k < nL ∧ zk_okS env k = true then some (pc + 3, env.set k (.int (x + Int32.ofInt v)), stk, SH, h, ce, sl) else none
    | _ => none
  | .dup => match stk with
    | v :: r => if n = 1 ∧ v.category = 1 then some (pc + 1, env, v :: v :: r, SH, h, ce, sl) else none
    | _ => none
  | .goto o => if n = 3 ∧ 0 ≤ (pc : Int) + o then some (((pc : Int) + o).toNat, env, stk, SH, h, ce, sl) else none
  | .if_icmp .ge o => match stk with
    | .int y :: .int x :: r => if n = 3 ∧ 0 ≤ (pc : Int) + o then some (if y ≤ x then ((pc : Int) + o).toNat else pc + 3, env, r, SH, h, ce, sl) else none
    | _ => none
  | .getfield k => match stk with
    | v :: r => if n = 3 then (zc_lk L.1 k).bind fun q => (zk_rdF SH q.1 q.2 v h).bind fun w => some (pc + 3, env, w :: r, SH, h, ce, sl) else none
    | _ => none
  | .putfield k => match stk with
    | .int x :: v :: r => if n = 3 then (zc_lk L.2.1 k).bind fun q => (zk_wrF SH q.1 q.2.1 q.2.2 v (.int x) h).bind fun h' => some (pc + 3, env, r, SH, h', ce, sl) else none
    | .ref w :: .ref a :: r => if n = 3 then (zc_lk L.2.2.1 k).bind fun q => match SH[a]? with
      | some (.inl o) => if o.1 = q.1 ∧ q.2 < o.2.length then some (pc + 3, env, r, SH.set a (.inl (q.1, o.2.set q.2 (some (some w)))), h, ce, sl) else none
      | _ => none
      else none
    | _ => none
  | .new k => if n = 3 then (zc_lk L.2.2.2.1 k).bind fun ci => some (pc + 3, env, .ref SH.length :: stk, SH ++ [.inl (ci, zc_df ci)], zc_z h SH.length, ce + 1, sl + (zc_df ci).length) else none
  | .newarray .int => match stk with
    | .int v :: r => if n = 2 ∧ ¬ v < 0 ∧ v.toNatClampNeg ≤ 100000 then some (pc + 2, env, .ref SH.length :: r, SH ++ [.inr (.inl v.toNatClampNeg)], zc_z h SH.length, ce + 1, sl + v.toNatClampNeg) else none
    | _ => none
  | .anewarray k => match stk with
    | .int v :: r => if n = 3 ∧ ¬ v < 0 ∧ v.toNatClampNeg ≤ 100000 then (zc_lk L.2.2.2.2.1 k).bind fun t => some (pc + 3, env, .ref SH.length :: r, SH ++ [.inr (.inr (t + 1, List.replicate v.toNatClampNeg none))], zc_z h SH.length, ce + 1, sl + v.toNatClampNeg) else none
    | _ => none
  | .multianewarray k 2 => match stk with
    | .int w :: .int v :: r => if n = 4 ∧ ¬ v < 0 ∧ ¬ w < 0 ∧ v.toNatClampNeg ≤ 100000 ∧ w.toNatClampNeg ≤ 100000 then (zc_lk L.2.2.2.2.2 k).bind fun _ => some (pc + 4, env, .ref SH.length :: r, SH ++ (.inr (.inr (4, (List.range v.toNatClampNeg).map (fun j => some (SH.length + 1 + j)))) :: List.replicate v.toNatClampNeg (.inr (.inl w.toNatClampNeg))), zc_zz h SH.length, ce + 1 + v.toNatClampNeg, sl + v.toNatClampNeg + v.toNatClampNeg * w.toNatClampNeg) else none
    | _ => none
  | .aastore => match stk with
    | .ref v :: .int j :: .ref a :: r => match SH[a]?, SH[v]? with
      | some (.inr (.inr t)), some (.inl o) => if n = 1 ∧ 1 ≤ t.1 ∧ t.1 ≤ 3 ∧ o.1 = zc_el t.1 ∧ 0 ≤ j.toInt ∧ j.toInt < (t.2.length : Int) then some (pc + 1, env, r, SH.set a (.inr (.inr (t.1, t.2.set j.toNatClampNeg (some v)))), h, ce, sl) else none
      | _, _ => none
    | _ => none
  | .iastore => match stk with
    | w :: j :: v :: r => if n = 1 then (zk_wrA SH v j w h).bind fun h' => some (pc + 1, env, r, SH, h', ce, sl) else none
    | _ => none
  | _ => none
set_option maxHeartbeats 4000000 in
theorem zc_stI_ok {T : zk_M} {κ : zc_K} {ω : zc_O} {L : zc_L} {i : Instr} {n pc : Nat} {env stk : List Value} {SH : List zk_Sh} {h : zk_H} {ce sl : Nat} {σ : zc_S} (g : zc_ok T κ ω) (hL : zc_okL T L) (hac : Cond.arrayClass .int ∈ zk_tbl) (hd : decode T.2.1 pc = .ok (i, n)) (hs : zc_stI T.2.2.1 L i n pc env stk SH h ce sl = some σ) (hcR : σ.2.2.2.2.2.1 ≤ κ.2.2.2.1.cells) (hsR : σ.2.2.2.2.2.2 ≤ κ.2.2.2.1.slots) (k : zc_At κ ω σ) : zc_At κ ω (pc, env, stk, SH, h, ce, sl) := by
  obtain ⟨hL1, hL2, hL3, hL4, hL5, hL6⟩ := hL
  unfold zc_stI at hs
  split at hs
  · split at hs
    · rename_i hn; subst hn; cases hs; exact zc_iconst g hd k
    · cases hs
  · split at hs
    · rename_i hn; subst hn; cases hs; exact zc_bipush g hd k
    · cases hs
  · split at hs
    · rename_i hn; subst hn; cases hs; exact zc_sipush g hd k
    · cases hs
  · split at hs
    · split at hs
      · rename_i he _ hn; subst hn; cases hs; exact zc_aload_n g hd (by assumption) k
      · cases hs
    · cases hs
  · split at hs
    · split at hs
      · rename_i he _ hn; subst hn; cases hs; exact zc_iload_n g hd (by assumption) k
      · cases hs
    · cases hs
  · split at hs
    · split at hs
      · rename_i hn; obtain ⟨hn, h1, h2⟩ := hn; subst hn; cases hs; exact zc_istore_n g hd h1 h2 k
      · cases hs
    · cases hs
  · split at hs
    · split at hs
      · rename_i hn; obtain ⟨hn, h1, h2⟩ := hn; subst hn; cases hs; exact zc_iinc g hd (by assumption) h1 h2 k
      · cases hs
    · cases hs
  · split at hs
    · split at hs
      · rename_i hn; obtain ⟨hn, h1⟩ := hn; subst hn; cases hs; exact zc_dup g hd h1 k
      · cases hs
    · cases hs
  · split at hs
    · rename_i hn; obtain ⟨hn, h1⟩ := hn; subst hn; cases hs; exact zc_goto g hd (by omega) k
    · cases hs
  · split at hs
    · split at hs
      · rename_i hn; obtain ⟨hn, h1⟩ := hn; subst hn; cases hs; exact zc_ifge g hd (t := ((pc : Int) + _).toNat) (by omega) k
      · cases hs
    · cases hs
  · split at hs
    · split at hs
      · rename_i hn; subst hn
        obtain ⟨q, hq, hs⟩ := Option.bind_eq_some_iff.mp hs
        obtain ⟨w, hw, hs⟩ := Option.bind_eq_some_iff.mp hs
        cases hs
        obtain ⟨a, fs, f, rfl, e1, e2, e3⟩ := zk_rdF_spec hw
        exact zc_getf g hd (hL1 _ (zc_lk_mem hq)) e1 e2 e3 k
      · cases hs
    · cases hs
  · split at hs
    · split at hs
      · rename_i hn; subst hn
        obtain ⟨q, hq, hs⟩ := Option.bind_eq_some_iff.mp hs
        obtain ⟨h', hw, hs⟩ := Option.bind_eq_some_iff.mp hs
        cases hs
        obtain ⟨a, x, fs, rfl, ex, e1, e2, e3, rfl⟩ := zk_wrF_spec hw
        cases ex
        have hfp := hL2 _ (zc_lk_mem hq)
        dsimp only at hfp
        cases hb : q.2.2 with
        | false => rw [hb] at hfp; exact zc_putI g hd hfp rfl rfl e1 e2 k
        | true =>
          rw [hb] at hfp
          have hx := e3 hb
          refine zc_putI g hd hfp ?_ ?_ e1 e2 k
          · rcases hx with rfl | rfl <;> rfl
          · rcases hx with rfl | rfl <;> rfl
      · cases hs
    · split at hs
      · rename_i hn; subst hn
        obtain ⟨q, hq, hs⟩ := Option.bind_eq_some_iff.mp hs
        split at hs
        · rename_i o ho
          split at hs
          · rename_i hc
            cases hs
            obtain ⟨o1, o2⟩ := o
            obtain ⟨c1, c2⟩ := hc
            dsimp only at c1 c2
            subst c1
            exact zc_putR g hd (hL3 _ (zc_lk_mem hq)) ho c2 k
          · cases hs
        · cases hs
      · cases hs
    · cases hs
  · split at hs
    · rename_i hn; subst hn
      obtain ⟨q, hq, hs⟩ := Option.bind_eq_some_iff.mp hs
      cases hs
      exact zc_new g hd (hL4 _ (zc_lk_mem hq)) hcR hsR k
    · cases hs
  · split at hs
    · split at hs
      · rename_i hn; obtain ⟨hn, h1, h2⟩ := hn; subst hn; cases hs; exact zc_newa g hd hac h1 h2 hcR hsR k
      · cases hs
    · cases hs
  · split at hs
    · split at hs
      · rename_i hn; obtain ⟨hn, h1, h2⟩ := hn; subst hn
        obtain ⟨q, hq, hs⟩ := Option.bind_eq_some_iff.mp hs
        cases hs
        obtain ⟨c1, C, c2, c3⟩ := hL5 _ (zc_lk_mem hq)
        exact zc_anew g hd c2 c1 c3 h1 h2 hcR hsR k
      · cases hs
    · cases hs
  · split at hs
    · split at hs
      · rename_i hn; obtain ⟨hn, h1, h2, h3, h4⟩ := hn; subst hn
        obtain ⟨q, hq, hs⟩ := Option.bind_eq_some_iff.mp hs
        cases hs
        exact zc_mna g hd (hL6 _ (zc_lk_mem hq)) hac h1 h2 h3 h4 (by dsimp only at hcR ⊢; omega) (by dsimp only at hsR ⊢; omega) k
      · cases hs
    · cases hs
  · split at hs
    · split at hs
      · rename_i t o ht ho
        split at hs
        · rename_i hn
          obtain ⟨hn, h1, h2, h3, h4⟩ := hn
          subst hn
          cases hs
          obtain ⟨t1, t2⟩ := t
          obtain ⟨o1, o2⟩ := o
          dsimp only at h1 h2 h3 h4
          subst h3
          obtain ⟨t0, rfl⟩ : ∃ t0, t1 = t0 + 1 := ⟨t1 - 1, by omega⟩
          exact zc_aast g hd ht (by omega) ho (vp_in_iff.mpr h4) k
        · cases hs
      · cases hs
    · cases hs
  · split at hs
    · split at hs
      · rename_i hn; subst hn
        obtain ⟨h', hw, hs⟩ := Option.bind_eq_some_iff.mp hs
        cases hs
        obtain ⟨a, m, j, x, rfl, rfl, rfl, e1, e2, rfl⟩ := zk_wrA_spec hw
        exact zc_iast g hd e1 e2 k
      · cases hs
    · cases hs
  · cases hs
