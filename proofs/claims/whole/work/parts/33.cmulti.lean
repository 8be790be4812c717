theorem vr_outer (c : ClassId) (N h0 : Nat) : ∀ i : Nat, Jvm.Free.Multi.outerC c N h0 i = arrV c N (fun j => va_rf (if j < i then some (h0 + 1 + j) else none))
  | 0 => by
    show ({ cls := c, slots := Array.replicate N .null, vm := .none } : Cell) = _
    rw [arrV_new]
    refine congrArg (arrV c N) (funext fun j => ?_)
    simp [va_rf]
  | i + 1 => by
    show (Jvm.Free.Multi.outerC c N h0 i).setSlot i (.ref (h0 + 1 + i)) = _
    rw [vr_outer c N h0 i, arrV_store]
    refine congrArg (arrV c N) (funext fun j => ?_)
    by_cases e : j = i
    · subst e
      simp [updV, va_rf]
    · by_cases h : j < i
      · simp [updV, e, h, Nat.lt_succ_of_lt h]
      · simp [updV, e, h, show ¬ j < i + 1 by omega]
def zc_zz (h : zk_H) (n : Nat) : zk_H := fun b j => if n ≤ b then 0 else h b j
theorem zc_mna {T : zk_M} {κ : zc_K} {ω : zc_O} {pc : Nat} {env stk : List Value} {SH : List zk_Sh} {h : zk_H} {ce sl : Nat} {n kk : Int32} {i : Nat} (g : zc_ok T κ ω) (hd : decode T.2.1 pc = .ok (.multianewarray i 2, 4)) (hcl : Cond.classLink T.1 i "[[I" ∈ zk_tbl) (hac : Cond.arrayClass .int ∈ zk_tbl) (hn : ¬ n < 0) (hk : ¬ kk < 0) (hn2 : n.toNatClampNeg ≤ 100000) (hk2 : kk.toNatClampNeg ≤ 100000) (hcR : ce + (1 + n.toNatClampNeg) ≤ κ.2.2.2.1.cells) (hsR : sl + (n.toNatClampNeg + n.toNatClampNeg * kk.toNatClampNeg) ≤ κ.2.2.2.1.slots) (k : zc_At κ ω (pc + 4, env, .ref SH.length :: stk, SH ++ (.inr (.inr (4, (List.range n.toNatClampNeg).map (fun j => some (SH.length + 1 + j)))) :: List.replicate n.toNatClampNeg (.inr (.inl kk.toNatClampNeg))), zc_zz h SH.length, ce + 1 + n.toNatClampNeg, sl + n.toNatClampNeg + n.toNatClampNeg * kk.toNatClampNeg)) : zc_At κ ω (pc, env, .int kk :: .int n :: stk, SH, h, ce, sl) := by
  obtain ⟨p, l, e, R, s, m, args, below, meth, c, Q⟩ := κ
  obtain ⟨B, D, cs⟩ := ω
  obtain ⟨hx, hb, hml, hown, hts, hK, hR, hB, hX, hnmI⟩ := g
  intro H locs ls hl hP hS hz
  intro T0 hT Xs
  have hover : (Cond.arrayOver (.array .int)).before args s = true := hX.1.2.2.2
  have es : "[" ++ (FieldType.array .int).toString = "[[I" := by decide +kernel
  obtain ⟨vm₁, cA, comp, -, fA, fC, hO, -, X', step⟩ := Xs.multianewarray2F (ty := .int) hx hown (by rw [es]; exact hts _ hcl) hover (hts _ hac) (g := F0 m pc ls ((.int kk :: .int n :: stk).map (zk_cv (zc_ad B) id))) rfl (by rw [hb]; exact hd) rfl hn hk (by omega) (by show kk.toNatClampNeg * 4 ≤ 536870912; omega) (by omega) rfl rfl hcR hsR
  have hc0 : comp = cs 0 := by
    have h1 : (zk_tys cs)[0]? = some (cs 0, .int) := rfl
    have h2 := (hK.2 0 _ h1).2
    have h3 : s.vm.findClass ("[" ++ FieldType.int.toString) = some (cs 0) := h2
    have e2 : "[" ++ FieldType.int.toString = (FieldType.array .int).toString := by decide +kernel
    rw [e2] at h3
    exact Option.some.inj (fC.symm.trans h3)
  subst hc0
  have hc4 : cA = cs 4 := by
    have h1 : (zk_tys cs)[4]? = some (cs 4, .array .int) := rfl
    have h2 := (hK.2 4 _ h1).2
    exact Option.some.inj (fA.symm.trans h2)
  subst hc4
  generalize hF : Jvm.Free.Multi.fill (T0.setVm vm₁) (cs 4) (cs 0) n.toNatClampNeg kk.toNatClampNeg (defaultValue .int) n.toNatClampNeg = F at X' step
  have hTh : (T0.setVm vm₁).heap = H := hT
  obtain ⟨f1, f2, -, -⟩ := Jvm.Free.Multi.fill_facts (T0.setVm vm₁) (cs 4) (cs 0) n.toNatClampNeg kk.toNatClampNeg (defaultValue .int) n.toNatClampNeg
  rw [hF, hTh] at f1 f2
  have hold : ∀ x : Nat, x < H.size → F.heap[x]? = H[x]? := fun x hx => by
    have := Jvm.Free.Multi.fill_old (T0.setVm vm₁) (cs 4) (cs 0) n.toNatClampNeg kk.toNatClampNeg (defaultValue .int) (a := x) (by rw [hTh]; exact hx) n.toNatClampNeg
    rw [hF, hTh] at this
    exact this
  have hrow : ∀ j : Nat, j < n.toNatClampNeg → F.heap[H.size + 1 + j]? = some (vp_cell (cs 0) (kk.toNatClampNeg, .inl (fun _ => 0))) := fun j hj => by
    have := Jvm.Free.Multi.fill_inner (T0.setVm vm₁) (cs 4) (cs 0) n.toNatClampNeg kk.toNatClampNeg (defaultValue .int) n.toNatClampNeg j hj
    rw [hF, hTh] at this
    rw [this, vp_cell_i]
    show some ({ cls := cs 0, slots := Array.replicate kk.toNatClampNeg (.int 0), vm := .none } : Cell) = _
    rw [arrV_new]
  have hout : Jvm.Free.Multi.outerC (cs 4) n.toNatClampNeg H.size n.toNatClampNeg = vp_cell (cs 4) (n.toNatClampNeg, .inr (.inr (.inr (.inr (fun i => if i < n.toNatClampNeg then some (H.size + 1 + i) else none))))) := by
    rw [vp_cell_q]
    exact vr_outer (cs 4) n.toNatClampNeg H.size n.toNatClampNeg
  rw [hout] at f2
  have hP2 : va_P D vwCl (zk_lay (zc_ad B) cs (SH ++ (.inr (.inr (4, (List.range n.toNatClampNeg).map (fun j => some (SH.length + 1 + j)))) :: List.replicate n.toNatClampNeg (.inr (.inl kk.toNatClampNeg)))) (zc_zz h SH.length)) F.heap := by
    intro k9 q hq
    simp only [zk_lay, List.getElem?_mapIdx] at hq
    by_cases h1 : k9 < SH.length
    · rw [List.getElem?_append_left h1] at hq
      have hk9 : (zk_lay (zc_ad B) cs SH h)[k9]? = some q := by
        simp only [zk_lay, List.getElem?_mapIdx]
        rw [← hq]
        have e5 : zc_zz h SH.length k9 = h k9 := by
          funext j
          simp [zc_zz, Nat.not_le.mpr h1]
        rw [e5]
      have := hP k9 q hk9
      exact this.kept (hold q.1 this.lt)
    · rw [List.getElem?_append_right (by omega)] at hq
      have e5 : zc_zz h SH.length k9 = fun _ => 0 := by
        funext j
        simp [zc_zz, Nat.not_lt.mp h1]
      rw [e5] at hq
      by_cases h2 : k9 = SH.length
      · subst h2
        rw [Nat.sub_self, List.getElem?_cons_zero] at hq
        cases hq
        show F.heap[zc_ad B SH.length]? = some (vp_cell _ _)
        rw [show zc_ad B SH.length = H.size from hz.symm, f2]
        rw [vp_cell_q, vp_cell_q, List.length_map, List.length_range]
        congr 2
        funext j
        by_cases hj : j < n.toNatClampNeg
        · have e7 : ((List.range n.toNatClampNeg).map (fun j => some (SH.length + 1 + j))).getD j none = some (SH.length + 1 + j) := by simp [List.getD, hj]
          show va_rf (if j < n.toNatClampNeg then some (H.size + 1 + j) else none) = va_rf ((((List.range n.toNatClampNeg).map (fun j => some (SH.length + 1 + j))).getD j none).map (zc_ad B))
          rw [if_pos hj, e7]
          show Value.ref (H.size + 1 + j) = Value.ref (zc_ad B (SH.length + 1 + j))
          have e8 : (H.size : Nat) + 1 + j = B + (SH.length + 1 + j) := by omega
          exact congrArg Value.ref e8
        · simp [List.getD, hj, va_rf, List.getElem?_map, List.getElem?_eq_none (l := List.range n.toNatClampNeg) (i := j) (by rw [List.length_range]; omega)]
      · obtain ⟨j, rfl⟩ : ∃ j, k9 = SH.length + 1 + j := ⟨k9 - SH.length - 1, by omega⟩
        rw [show SH.length + 1 + j - SH.length = j + 1 by omega, List.getElem?_cons_succ] at hq
        by_cases hj : j < n.toNatClampNeg
        · rw [List.getElem?_replicate, if_pos hj] at hq
          cases hq
          show F.heap[zc_ad B (SH.length + 1 + j)]? = some (vp_cell _ _)
          rw [show zc_ad B (SH.length + 1 + j) = H.size + 1 + j by rw [hz]; simp only [zc_ad]; omega]
          exact hrow j hj
        · rw [List.getElem?_replicate, if_neg hj] at hq
          cases hq
  obtain ⟨t, a1, b1⟩ := k F.heap locs ls hl hP2 (zc_Sgrow hS (by rw [f1]; omega) hold) (by rw [f1, hz]; simp; omega) F rfl X'
  refine ⟨t, step t ?_, b1⟩
  have e9 : T0.heap.size = zc_ad B SH.length := by rw [hT]; exact hz
  rw [e9]
  exact a1
