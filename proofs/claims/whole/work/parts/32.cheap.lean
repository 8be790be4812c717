section ZCH
variable {T : zk_M} {κ : zc_K} {ω : zc_O} {pc : Nat} {env stk : List Value} {SH : List zk_Sh} {h : zk_H} {ce sl : Nat}
theorem zc_setSh {ad : Nat → Nat} {cs : Nat → ClassId} {SH : List zk_Sh} {h : zk_H} {a : Nat} {sh : zk_Sh} (ha : a < SH.length) : (zk_lay ad cs SH h).set a (ad a, zk_ce ad cs sh (h a)) = zk_lay ad cs (SH.set a sh) h := by
  apply List.ext_getElem?
  intro j
  by_cases e : j = a
  · subst e
    rw [List.getElem?_set_self (by rw [zc_len]; exact ha)]
    simp [zk_lay, List.getElem?_mapIdx, ha]
  · rw [List.getElem?_set_ne (Ne.symm e)]
    simp only [zk_lay, List.getElem?_mapIdx]
    rw [List.getElem?_set_ne (Ne.symm e)]
theorem zc_set_ref {ad : Nat → Nat} (h : Nat → Int32) (fs : List zk_Fd) (i r : Nat) (hi : i < fs.length) : (fs.mapIdx (fun j f => zk_fv ad h j f)).set i (.ref (ad r)) = (fs.set i (some (some r))).mapIdx (fun j f => zk_fv ad h j f) := by
  apply List.ext_getElem?
  intro j
  by_cases e : j = i
  · subst e
    rw [List.getElem?_set_self (by rw [List.length_mapIdx]; exact hi), List.getElem?_mapIdx, List.getElem?_set_self hi]
    simp [zk_fv, va_rf]
  · rw [List.getElem?_set_ne (Ne.symm e), List.getElem?_mapIdx, List.getElem?_mapIdx, List.getElem?_set_ne (Ne.symm e)]
theorem zc_putI {i ci j a : Nat} {fs : List zk_Fd} {x : Int32} {ty : FieldType} (g : zc_ok T κ ω) (hd : decode T.2.1 pc = .ok (.putfield i, 3)) (hf : zk_FP T.1 i ci j ty) (hn : narrow ty (.int x) = .int x) (hfit : fits ty (.int x) = true) (hs : SH[a]? = some (.inl (ci, fs))) (hk : fs[j]? = some none) (k : zc_At κ ω (pc + 3, env, stk, SH, zk_up h a j x, ce, sl)) : zc_At κ ω (pc, env, .int x :: .ref a :: stk, SH, h, ce, sl) := by
  obtain ⟨p, l, e, R, s, m, args, below, meth, c, Q⟩ := κ
  obtain ⟨B, D, cs⟩ := ω
  obtain ⟨hx, hb, hml, hown, hts, hK, hR, hB, hX, hnmI⟩ := g
  intro H locs ls hl hP hS hz
  obtain ⟨C, Tb, N, ty0, hc, hkN, hlk, hin, hty, hnm, hfin, hpd⟩ := hf
  have hlen : j < (fs.mapIdx (fun i f => zk_fv (zc_ad B) (h a) i f)).length := by rw [List.length_mapIdx]; exact (List.getElem?_eq_some_iff.mp hk).1
  have he := zk_lay_at (ad := zc_ad B) (cs := cs) (h := h) hs
  have hD : va_D (fun q => B ≤ q) (zk_lay (zc_ad B) cs SH h) := zc_D
  have hap := va_apart (own := T.1) hts hin ty0 hty hnm hK hc
  obtain ⟨r, h1, cell, q1, q2, q3, q4⟩ := hP a _ he
  have hr : r = (C, Tb, N) := Option.some.inj (h1.symm.trans hc)
  subst hr
  obtain ⟨hSS, hfc, kC, hkC, hkind⟩ := hK.1 ci _ hc
  obtain ⟨cf, kf, fi, f, hi, hsl⟩ := hSS j hkN
  have hlay := hts _ (hin _ (u_in_lay hkN))
  unfold u_lay at hlay
  rw [if_neg (by rw [hfin]; decide)] at hlay
  have hst := (u_facts hfc hkC (u_lays hts hin hkN) hi).1
  have h6 := u_store hfc hkC hkind hlay hi hpd hn hfit
  refine W.putK hx hb (f := f) ⟨hown, hts _ hlk, ⟨_, _, _, hi⟩, hst⟩ (by rw [q2]; exact h6) q1 q3 (by rw [hsl]; exact k2_hasslot (q4 j hkN)) rfl rfl hd fun H' e1 e2 e3 => ?_
  rw [hsl] at e1 ⊢
  have hP1 := hP.set hD he (e := .inr (ci, (fs.mapIdx (fun i f => zk_fv (zc_ad B) (h a) i f)).set j (.int x))) ⟨_, hc, t_OB.to (V := updV (vp_V (fs.mapIdx (fun i f => zk_fv (zc_ad B) (h a) i f))) j (.int x)) ⟨_, e1, q2, q3, t_set q4 hap hkN (.int x)⟩ (fun j' _ => vp_updV_set hlen (.int x) j')⟩ e3
  have e4 : (zk_lay (zc_ad B) cs SH h).set a (zc_ad B a, .inr (ci, (fs.mapIdx (fun i f => zk_fv (zc_ad B) (h a) i f)).set j (.int x))) = zk_lay (zc_ad B) cs SH (zk_up h a j x) := by
    rw [zk_set_row (h a) fs j x hk, ← zk_up_row h a j x]
    exact zk_lay_set (h := h) (h' := zk_up h a j x) (sh := .inl (ci, fs)) hs (fun b hb => zk_up_ne h j x hb)
  rw [e4] at hP1
  exact k H' _ ls hl hP1 (hS.put e2 e3 (hD.2 a _ he)) (e2.trans hz)
def zc_FR (own : String) (i ci k : Nat) : Prop := ∃ (C : String) (Tb : u_T) (N : Nat) (ty0 : Nat → FieldType) (ty : FieldType), vwCl[ci]? = some (C, Tb, N) ∧ k < N ∧ Cond.fieldLink own i (Tb k).1 (Tb k).2.1 (Tb k).2.2.1 ∈ zk_tbl ∧ (∀ w ∈ u_ws C Tb N, w ∈ zk_tbl) ∧ (∀ k, k < N → parseFieldDescriptor (Tb k).2.2.1 = some (ty0 k)) ∧ (∀ a, a < N → ∀ b, b < N → a ≠ b → (Tb a).2.1 ≠ (Tb b).2.1) ∧ (Tb k).2.2.2 = true ∧ (Tb k).1 = own ∧ parseFieldDescriptor (Tb k).2.2.1 = some ty ∧ (∀ r : Nat, narrow ty (.ref r) = .ref r ∧ fits ty (.ref r) = true) ∧ own ≠ "RoadPlugsLaw"
theorem zc_putR {i ci j a r0 : Nat} {fs : List zk_Fd} (g : zc_ok T κ ω) (hd : decode T.2.1 pc = .ok (.putfield i, 3)) (hf : zc_FR T.1 i ci j) (hs : SH[a]? = some (.inl (ci, fs))) (hk : j < fs.length) (k : zc_At κ ω (pc + 3, env, stk, SH.set a (.inl (ci, fs.set j (some (some r0)))), h, ce, sl)) : zc_At κ ω (pc, env, .ref r0 :: .ref a :: stk, SH, h, ce, sl) := by
  obtain ⟨p, l, e, R, s, m, args, below, meth, c, Q⟩ := κ
  obtain ⟨B, D, cs⟩ := ω
  obtain ⟨hx, hb, hml, hown, hts, hK, hR, hB, hX, hnmI⟩ := g
  intro H locs ls hl hP hS hz
  obtain ⟨C, Tb, N, ty0, ty, hc, hkN, hlk, hin, hty, hnm, hfin, hdecl, hpd, hnf, hnl⟩ := hf
  have hlen : j < (fs.mapIdx (fun i f => zk_fv (zc_ad B) (h a) i f)).length := by rw [List.length_mapIdx]; exact hk
  have he := zk_lay_at (ad := zc_ad B) (cs := cs) (h := h) hs
  have hD : va_D (fun q => B ≤ q) (zk_lay (zc_ad B) cs SH h) := zc_D
  have hap := va_apart (own := T.1) hts hin ty0 hty hnm hK hc
  obtain ⟨r, h1, cell, q1, q2, q3, q4⟩ := hP a _ he
  have hr : r = (C, Tb, N) := Option.some.inj (h1.symm.trans hc)
  subst hr
  obtain ⟨hSS, hfc, kC, hkC, hkind⟩ := hK.1 ci _ hc
  obtain ⟨cf, kf, fi, f, hi, hsl⟩ := hSS j hkN
  have hlay := hts _ (hin _ (u_in_lay hkN))
  unfold u_lay at hlay
  rw [if_pos hfin] at hlay
  have hst := (u_facts hfc hkC (u_lays hts hin hkN) hi).1
  have hcf : m.cls = cf := by
    obtain ⟨_, _, c', _, _, _, -, -, hf', -, -, -, hown2, -⟩ := Cond.laysFinal_spec hlay
    have e1 : c' = cf := by have := hi.symm.trans hf'; simp at this; exact this.1.symm
    rw [hdecl] at hown2
    rw [← e1]; exact Option.some.inj (hown.symm.trans hown2)
  have h6 := u_fits hfc hkC hkind (Or.inr hlay) hi hpd (hnf (zc_ad B r0)).1 (hnf (zc_ad B r0)).2
  refine W.putFinK hx hb hown (hts _ hlk) hi hst hcf (hnmI hnl) (by rw [q2]; exact h6) q1 q3 (by rw [hsl]; exact k2_hasslot (q4 j hkN)) rfl rfl hd fun H' e1 e2 e3 => ?_
  rw [hsl] at e1 ⊢
  have hP1 := hP.set hD he (e := .inr (ci, (fs.mapIdx (fun i f => zk_fv (zc_ad B) (h a) i f)).set j (.ref (zc_ad B r0)))) ⟨_, hc, t_OB.to (V := updV (vp_V (fs.mapIdx (fun i f => zk_fv (zc_ad B) (h a) i f))) j (.ref (zc_ad B r0))) ⟨_, e1, q2, q3, t_set q4 hap hkN (.ref (zc_ad B r0))⟩ (fun j' _ => vp_updV_set hlen (.ref (zc_ad B r0)) j')⟩ e3
  have e4 : (zk_lay (zc_ad B) cs SH h).set a (zc_ad B a, .inr (ci, (fs.mapIdx (fun i f => zk_fv (zc_ad B) (h a) i f)).set j (.ref (zc_ad B r0)))) = zk_lay (zc_ad B) cs (SH.set a (.inl (ci, fs.set j (some (some r0))))) h := by
    rw [zc_set_ref (h a) fs j r0 hk]
    exact zc_setSh (sh := .inl (ci, fs.set j (some (some r0)))) (List.getElem?_eq_some_iff.mp hs).1
  rw [e4] at hP1
  exact k H' _ ls hl hP1 (hS.put e2 e3 (hD.2 a _ he)) (by rw [List.length_set]; exact e2.trans hz)
def zc_el : Nat → Nat := fun t => match t with
  | 1 => 6
  | 2 => 5
  | _ => 2
theorem zc_aast {a ti v : Nat} {tb : List (Option Nat)} {vs : List zk_Fd} {i : Int32} (g : zc_ok T κ ω) (hd : decode T.2.1 pc = .ok (.aastore, 1)) (hs : SH[a]? = some (.inr (.inr (ti + 1, tb)))) (ht : ti < 3) (hv : SH[v]? = some (.inl (zc_el (ti + 1), vs))) (hi : vp_in i tb.length) (k : zc_At κ ω (pc + 1, env, stk, SH.set a (.inr (.inr (ti + 1, tb.set i.toNatClampNeg (some v)))), h, ce, sl)) : zc_At κ ω (pc, env, .ref v :: .int i :: .ref a :: stk, SH, h, ce, sl) := by
  obtain ⟨p, l, e, R, s, m, args, below, meth, c, Q⟩ := κ
  obtain ⟨B, D, cs⟩ := ω
  obtain ⟨hx, hb, hml, hown, hts, hK, hR, hB, hX, hnmI⟩ := g
  intro H locs ls hl hP hS hz
  have hlt : i.toNatClampNeg < tb.length := Nat.not_le.mp fun q => hi (Or.inr q)
  have h0 : ¬ i < 0 := fun q => hi (Or.inl q)
  have ha := zk_lay_at (ad := zc_ad B) (cs := cs) (h := h) hs
  have hD : va_D (fun q => B ≤ q) (zk_lay (zc_ad B) cs SH h) := zc_D
  have htt : ∃ r : vw_C, (zk_tys cs)[ti + 1]? = some (cs (ti + 1), .object r.1) ∧ vwCl[zc_el (ti + 1)]? = some r := by
    match ti, ht with
    | 0, _ => exact ⟨_, rfl, rfl⟩
    | 1, _ => exact ⟨_, rfl, rfl⟩
    | 2, _ => exact ⟨_, rfl, rfl⟩
  obtain ⟨r, ht1, hc⟩ := htt
  obtain ⟨r', hr', cellV, g1, g2, g3, -⟩ := hP v _ (zk_lay_at hv)
  have hcls := (hK.1 _ r hc).2
  obtain ⟨kA, comp, k1, k2, k3, -⟩ := (hK.2 _ _ ht1).2
  have hcomp : comp = D.1 (zc_el (ti + 1)) := Option.some.inj (k3.symm.trans hcls.1)
  subst hcomp
  obtain ⟨kC, hkC, -⟩ := hcls.2
  refine W.aast hx hb (hP a _ ha) (fun q h => by cases h) (fun h => by cases h) k1 k2 rfl hkC ⟨h0, by show _ < (arrV _ _ _).slots.size; rw [arrV_size]; exact hlt⟩ g1 (fun q h => by rw [g3] at h; cases h) (by rw [g2]; exact hkC) (by rw [g2]; exact va_assign hcls) rfl rfl hd fun H1 e1 z oq => ?_
  have hP1 := hP.set hD ha (e := zk_ce (zc_ad B) cs (.inr (.inr (ti + 1, tb.set i.toNatClampNeg (some v)))) (h a)) (by
    show H1[zc_ad B a]? = some (vp_cell _ _)
    rw [e1]
    show some (Cell.setSlot (vp_cell _ _) _ _) = _
    rw [vp_cell_q, vp_cell_q, arrV_store, List.length_set]
    congr 2
    funext q
    by_cases hq : q = i.toNatClampNeg
    · subst hq
      simp [updV, va_rf, hlt, List.getD]
    · simp [updV, hq, List.getD, List.getElem?_set_ne (Ne.symm hq)]) oq
  rw [zc_setSh (List.getElem?_eq_some_iff.mp hs).1] at hP1
  exact k H1 _ ls hl hP1 (hS.put z oq (hD.2 a _ ha)) (by rw [List.length_set]; exact z.trans hz)
def zc_dv (f : zk_Fd) : Value := match f with
  | none => .int 0
  | some _ => .null
def zc_NW (own : String) (i ci : Nat) : Prop := ∃ (C : String) (Tb : u_T) (N : Nat) (ty : Nat → FieldType), vwCl[ci]? = some (C, Tb, N) ∧ Cond.classLink own i C ∈ zk_tbl ∧ Cond.instantiable C N ∈ zk_tbl ∧ Cond.initialized C ∈ zk_tbl ∧ (∀ w ∈ u_ws C Tb N, w ∈ zk_tbl) ∧ (∀ k, k < N → parseFieldDescriptor (Tb k).2.2.1 = some (ty k)) ∧ (zc_df ci).length = N ∧ ∀ j, j < N → defaultValue (ty j) = zc_dv ((zc_df ci).getD j none)
theorem zc_df_null (ci j : Nat) (r : Nat) : (zc_df ci)[j]? ≠ some (some (some r)) := by
  unfold zc_df
  split <;> intro hh <;> have := List.mem_of_getElem? hh <;> simp at this
theorem zc_new {i ci : Nat} (g : zc_ok T κ ω) (hd : decode T.2.1 pc = .ok (.new i, 3)) (hw : zc_NW T.1 i ci) (hcR : ce + 1 ≤ κ.2.2.2.1.cells) (hsR : sl + (zc_df ci).length ≤ κ.2.2.2.1.slots) (k : zc_At κ ω (pc + 3, env, .ref SH.length :: stk, SH ++ [.inl (ci, zc_df ci)], zc_z h SH.length, ce + 1, sl + (zc_df ci).length)) : zc_At κ ω (pc, env, stk, SH, h, ce, sl) := by
  obtain ⟨p, l, e, R, s, m, args, below, meth, c, Q⟩ := κ
  obtain ⟨B, D, cs⟩ := ω
  obtain ⟨hx, hb, hml, hown, hts, hK, hR, hB, hX, hnmI⟩ := g
  intro H locs ls hl hP hS hz
  obtain ⟨C, Tb, N, ty, hc, hcl, hinst, hini, hin, hty, hlen, hdef⟩ := hw
  have hKn := hK.1 ci _ hc
  rw [hlen] at hsR k
  refine W.newcK hx hb hown (hts _ hcl) (hts _ hinst) (hts _ hini) rfl hd hcR hsR hKn.2.1 rfl fun H1 kC hkC e1 z1 o1 => ?_
  have hob : va_at D vwCl (B + SH.length, zk_ce (zc_ad B) cs (.inl (ci, zc_df ci)) (fun _ => 0)) H1 := by
    refine ⟨_, hc, ?_⟩
    rw [← hz]
    refine (u_born ty hts hin hKn hkC e1 hty).to (fun j hj => ?_)
    have hd1 := hdef j hj
    have hj2 : j < (zc_df ci).length := by rw [hlen]; exact hj
    have hv : vp_V ((zc_df ci).mapIdx (fun i f => zk_fv (zc_ad B) (fun _ => 0) i f)) j = zk_fv (zc_ad B) (fun _ => 0) j ((zc_df ci).getD j none) := by
      simp [vp_V, List.getD, List.getElem?_mapIdx, List.getElem?_eq_getElem hj2]
    show defaultValue (ty j) = vp_V ((zc_df ci).mapIdx (fun i f => zk_fv (zc_ad B) (fun _ => 0) i f)) j
    rw [hv]
    have hnn := zc_df_null ci j
    rw [List.getD_eq_getElem?_getD] at hd1 ⊢
    rw [List.getElem?_eq_getElem hj2] at hd1 hnn ⊢
    simp only [Option.getD_some] at hd1 ⊢
    cases hf : (zc_df ci)[j] with
    | none => rw [hf] at hd1; exact hd1
    | some r =>
      rw [hf] at hd1 hnn
      cases r with
      | none => exact hd1
      | some r => exact absurd rfl (hnn r)
  obtain ⟨hP1, hz1⟩ := zc_grow (sh := .inl (ci, zc_df ci)) hP hz z1 o1 hob
  have k1 := k H1 locs ls hl hP1 (zc_Sgrow hS (by omega) o1) hz1
  have e9 : (H.size : Nat) = zc_ad B SH.length := hz
  show W p l e R s m args below meth c H1 locs (ce + 1) (sl + N) Q _
  rw [e9]
  exact k1
theorem zc_newa {n : Int32} (g : zc_ok T κ ω) (hd : decode T.2.1 pc = .ok (.newarray .int, 2)) (hw : Cond.arrayClass .int ∈ zk_tbl) (hn : ¬ n < 0) (hn2 : n.toNatClampNeg ≤ 100000) (hcR : ce + 1 ≤ κ.2.2.2.1.cells) (hsR : sl + n.toNatClampNeg ≤ κ.2.2.2.1.slots) (k : zc_At κ ω (pc + 2, env, .ref SH.length :: stk, SH ++ [.inr (.inl n.toNatClampNeg)], zc_z h SH.length, ce + 1, sl + n.toNatClampNeg)) : zc_At κ ω (pc, env, .int n :: stk, SH, h, ce, sl) := by
  obtain ⟨p, l, e, R, s, m, args, below, meth, c, Q⟩ := κ
  obtain ⟨B, D, cs⟩ := ω
  obtain ⟨hx, hb, hml, hown, hts, hK, hR, hB, hX, hnmI⟩ := g
  intro H locs ls hl hP hS hz
  refine va_newaK (atype := .int) hx hb (hts _ hw) rfl hd rfl hn rfl (by show n.toNatClampNeg * 4 ≤ 536870912; omega) hcR hsR rfl fun H1 cA e1 z1 o1 hAr hNm => ?_
  have hcs : (zk_tys cs)[0]? = some (cs 0, .int) := rfl
  have hcA : cA = cs 0 := Option.some.inj (hNm.symm.trans (hK.2 0 _ hcs).2)
  subst hcA
  obtain ⟨hP1, hz1⟩ := zc_grow (sh := .inr (.inl n.toNatClampNeg)) hP hz z1 o1 (by
    show H1[B + SH.length]? = some (vp_cell _ _)
    rw [← hz, e1, vp_cell_i]
    rfl)
  have k1 := k H1 locs ls hl hP1 (zc_Sgrow hS (by omega) o1) hz1
  have e9 : (H.size : Nat) = zc_ad B SH.length := hz
  rw [e9]
  exact k1
theorem zc_anew {n : Int32} {i ti : Nat} {C : String} (g : zc_ok T κ ω) (hd : decode T.2.1 pc = .ok (.anewarray i, 3)) (ht : zk_ty (ti + 1) = .object C) (ht3 : ti < 3) (hcl : Cond.classLink T.1 i C ∈ zk_tbl) (hn : ¬ n < 0) (hn2 : n.toNatClampNeg ≤ 100000) (hcR : ce + 1 ≤ κ.2.2.2.1.cells) (hsR : sl + n.toNatClampNeg ≤ κ.2.2.2.1.slots) (k : zc_At κ ω (pc + 3, env, .ref SH.length :: stk, SH ++ [.inr (.inr (ti + 1, List.replicate n.toNatClampNeg none))], zc_z h SH.length, ce + 1, sl + n.toNatClampNeg)) : zc_At κ ω (pc, env, .int n :: stk, SH, h, ce, sl) := by
  obtain ⟨p, l, e, R, s, m, args, below, meth, c, Q⟩ := κ
  obtain ⟨B, D, cs⟩ := ω
  obtain ⟨hx, hb, hml, hown, hts, hK, hR, hB, hX, hnmI⟩ := g
  intro H locs ls hl hP hS hz
  have hover : (Cond.arrayOver (.object C)).before args s = true := by
    have hq : (Cond.arrayOver (.object C)).before #[] s = true := by
      rw [← ht]
      match ti, ht3 with
      | 0, _ => exact hX.1.1
      | 1, _ => exact hX.1.2.1
      | 2, _ => exact hX.1.2.2.1
    exact hq
  have htt : (zk_tys cs)[ti + 1]? = some (cs (ti + 1), .object C) := by
    rw [← ht]
    match ti, ht3 with
    | 0, _ => rfl
    | 1, _ => rfl
    | 2, _ => rfl
  refine W.anew hx hb hown (hts _ hcl) hover rfl hd rfl hn (by omega) hcR hsR fun cA kA comp f1 f2 f3 f4 => ?_
  obtain ⟨kB, compB, b1, b2, b3, b4⟩ := (hK.2 _ _ htt).2
  have hcA : cA = cs (ti + 1) := Option.some.inj (f1.symm.trans b4)
  subst hcA
  generalize hH1 : H.push ({ cls := cs (ti + 1), slots := Array.replicate n.toNatClampNeg .null, vm := .none } : Cell) = H1
  have z1 : H1.size = H.size + 1 := by rw [← hH1, Array.size_push]
  have e1 : H1[H.size]? = some (arrV (cs (ti + 1)) n.toNatClampNeg (fun _ => .null)) := by rw [← hH1, Array.getElem?_push_size, ← arrV_new]
  have o1 : ∀ q : Nat, q < H.size → H1[q]? = H[q]? := fun q hq => by rw [← hH1, Array.getElem?_push, if_neg (Nat.ne_of_lt hq)]
  obtain ⟨hP1, hz1⟩ := zc_grow (sh := .inr (.inr (ti + 1, List.replicate n.toNatClampNeg none))) hP hz z1 o1 (by
    show H1[B + SH.length]? = some (vp_cell _ _)
    rw [← hz, e1, vp_cell_q, List.length_replicate]
    congr 2
    funext q
    by_cases hq : q < n.toNatClampNeg
    · simp [List.getD, hq, va_rf]
    · simp [List.getD, hq, va_rf])
  have k1 := k H1 locs ls hl hP1 (zc_Sgrow hS (by omega) o1) hz1
  have e9 : (H.size : Nat) = zc_ad B SH.length := hz
  rw [e9]
  exact k1
end ZCH
