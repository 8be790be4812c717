abbrev zc_Row : Type := zk_M × MethodName × List (Nat × (Instr × Nat)) × zc_L × List (Nat × Nat)
abbrev zc_P : Type := Nat → Option zc_Row
abbrev zc_R : Type := List zk_Sh × zk_H × Nat × Nat
def zc_run (P : zc_P) : Nat → Nat → zc_S → Option zc_R
  | 0, _, _ => none
  | f + 1, j, σ => (P j).bind fun w => (zc_lk w.2.2.1 σ.1).bind fun d => match d.1 with
    | .return_ => if d.2 = 1 ∧ σ.2.2.1 = [] then some (σ.2.2.2.1, σ.2.2.2.2.1, σ.2.2.2.2.2.1, σ.2.2.2.2.2.2) else none
    | .invokespecial x => match σ.2.2.1 with
      | .ref a :: r => if d.2 = 3 ∧ (r.map fun v => v.category).sum ≤ 8 then (zc_lk w.2.2.2.2 x).bind fun k => match k with
          | 0 => zc_run P f j (σ.1 + 3, σ.2.1, r, σ.2.2.2.1, σ.2.2.2.2.1, σ.2.2.2.2.2.1, σ.2.2.2.2.2.2)
          | k + 1 => (P k).bind fun w2 => (zc_run P f k (0, zk_env w2.1.2.2.1 [.ref a], [], σ.2.2.2.1, σ.2.2.2.2.1, 0, 0)).bind fun q => zc_run P f j (σ.1 + 3, σ.2.1, r, q.1, q.2.1, σ.2.2.2.2.2.1 + q.2.2.1, σ.2.2.2.2.2.2 + q.2.2.2)
        else none
      | _ => none
    | i => (zc_stI w.1.2.2.1 w.2.2.2.1 i d.2 σ.1 σ.2.1 σ.2.2.1 σ.2.2.2.1 σ.2.2.2.2.1 σ.2.2.2.2.2.1 σ.2.2.2.2.2.2).bind fun σ' => if σ.2.2.2.2.2.1 ≤ σ'.2.2.2.2.2.1 ∧ σ.2.2.2.2.2.2 ≤ σ'.2.2.2.2.2.2 then zc_run P f j σ' else none
theorem zc_run_mono {P : zc_P} : ∀ (f j : Nat) (σ : zc_S) (r : zc_R), zc_run P f j σ = some r → σ.2.2.2.2.2.1 ≤ r.2.2.1 ∧ σ.2.2.2.2.2.2 ≤ r.2.2.2
  | 0, j, σ, r, h => by cases h
  | f + 1, j, σ, r, h => by
    unfold zc_run at h
    obtain ⟨w, hw, h⟩ := Option.bind_eq_some_iff.mp h
    obtain ⟨d, hd, h⟩ := Option.bind_eq_some_iff.mp h
    split at h
    · split at h
      · cases h
        exact ⟨Nat.le_refl _, Nat.le_refl _⟩
      · cases h
    · split at h
      · split at h
        · obtain ⟨k, hk, h⟩ := Option.bind_eq_some_iff.mp h
          cases k with
          | zero =>
            dsimp only at h
            have := zc_run_mono f j _ r h
            exact this
          | succ k =>
            obtain ⟨w2, hw2, h⟩ := Option.bind_eq_some_iff.mp h
            obtain ⟨q, hq, h⟩ := Option.bind_eq_some_iff.mp h
            have := zc_run_mono f j _ r h
            dsimp only at this
            omega
        · cases h
      · cases h
    · obtain ⟨σ', hs, h⟩ := Option.bind_eq_some_iff.mp h
      split at h
      · rename_i hc
        have := zc_run_mono f j _ r h
        omega
      · cases h
def zc_Iv (T : zk_M) (P : zc_P) (q : Nat × Nat) : Prop := match q.2 with
  | 0 => Cond.methodLink T.1 q.1 objectInit ∈ zk_tbl ∧ Cond.instanceMethod objectInit ∈ zk_tbl ∧ Cond.code objectInit ⟨#[0xb1]⟩ 1 none ∈ zk_tbl ∧ 1 ≤ T.2.2.2.1 ∧ 20 ≤ T.2.2.2.2
  | k + 1 => ∃ w : zc_Row, P k = some w ∧ (Cond.methodLink T.1 q.1 w.2.1 ∈ zk_tbl ∨ ∃ host : String, Cond.methodLinkNest T.1 q.1 w.2.1 host ∈ zk_nest) ∧ Cond.instanceMethod w.2.1 ∈ zk_tbl ∧ zk_LB w.1 w.2.1 none 0 ∧ zk_room T w.1
def zc_okP (P : zc_P) : Prop := ∀ (j : Nat) (w : zc_Row), P j = some w → (∀ q ∈ w.2.2.1, decode w.1.2.1 q.1 = .ok (q.2.1, q.2.2)) ∧ zc_okL w.1 w.2.2.2.1 ∧ (∀ q ∈ w.2.2.2.2, zc_Iv w.1 P q) ∧ plainName w.2.1.cls = true ∧ w.2.1.cls = w.1.1 ∧ w.2.1.name = "<init>" ∧ 1 ≤ w.1.2.2.1
abbrev zc_Pc (B : Nat) (D : va_G) (cs : Nat → ClassId) (SH : List zk_Sh) (h : zk_H) (a : Nat) : Array Value → State → Prop := va_Pc [.ref (B + a)] (fun U => U.heap.size = B + SH.length ∧ va_P D vwCl (zk_lay (zc_ad B) cs SH h) U.heap ∧ va_K D vwCl (zk_tys cs) U ∧ zc_X U)
abbrev zc_Qc (B : Nat) (D : va_G) (cs : Nat → ClassId) (SH : List zk_Sh) (h : zk_H) : Array Value → State → Outcome → State → Prop := fun _ st oc t => (oc = .returned none ∧ t.heap.size = B + SH.length ∧ va_P D vwCl (zk_lay (zc_ad B) cs SH h) t.heap ∧ va_K D vwCl (zk_tys cs) t) ∧ va_F (fun q => B ≤ q) st t
theorem zc_metI {w : zc_Row} {a : Nat} {SH : List zk_Sh} {h : zk_H} {r : zc_R} (hy : plainName w.2.1.cls = true) (ho : w.2.1.cls = w.1.1) (hnm : w.2.1.name = "<init>") (hnL : 1 ≤ w.1.2.2.1) (hrun : ∀ (κ : zc_K) (ω : zc_O), zc_ok w.1 κ ω → r.2.2.1 ≤ κ.2.2.2.1.cells → r.2.2.2 ≤ κ.2.2.2.1.slots → (∀ (pc : Nat) (env : List Value), decode w.1.2.1 pc = .ok (.return_, 1) → zc_At κ ω (pc, env, [], r.1, r.2.1, r.2.2.1, r.2.2.2)) → zc_At κ ω (0, zk_env w.1.2.2.1 [.ref a], [], SH, h, 0, 0)) (l : Launch) (B : Nat) (D : va_G) (cs : Nat → ClassId) : Met l w.2.1 (.code w.2.1 w.1.2.1 w.1.2.2.1 none :: zk_tbl) { frames := w.1.2.2.2.1, cells := r.2.2.1, slots := r.2.2.2, locals := w.1.2.2.2.2 } (zc_Pc B D cs SH h a) (zc_Qc B D cs r.1 r.2.1) r.2.2.1 r.2.2.2 (fun q => B ≤ q) := by
  refine Met.ofW (cc := w.1.2.1) (maxL := w.1.2.2.1) (ret := none) hy rfl ?_
  intro p e s0 m args below meth c s₁ Bd hml hv
  obtain ⟨rfl, hsz, hP, hK, hX⟩ := hv
  have hx := Bd.exec
  have hb := Bd.bytes
  have hr := Bd.returns
  have hts := atoms_spec (ws := .code w.2.1 w.1.2.1 w.1.2.2.1 none :: zk_tbl) Bd.pre
  have hown : s0.vm.findClass w.2.1.cls = some m.cls := findClass_of_methodNamed Bd.named
  have hlocks := Bd.notSynchronized
  have hin : meth.name = "<init>" := (name_of_methodNamed Bd.named Bd.method).1.trans hnm
  rw [ho] at hown
  rw [lg_entry_eq]
  have hn : (zk_flat [.ref a]).length ≤ w.1.2.2.1 := hnL
  refine hrun (p, l, e, (headSpec (.code w.2.1 w.1.2.1 w.1.2.2.1 none :: zk_tbl) { frames := w.1.2.2.2.1, cells := r.2.2.1, slots := r.2.2.2, locals := w.1.2.2.2.2 }).room, s0, m, ([.ref (B + a)] : List Value).toArray, below, meth, c, MQ below (zc_Qc B D cs r.1 r.2.1) ([.ref (B + a)] : List Value).toArray s0 r.2.2.1 r.2.2.2 (fun q => B ≤ q)) (B, D, cs) ⟨hx, hb, hml, hown, fun z hz => hts z (List.mem_cons_of_mem _ hz), hK, ⟨Nat.le_refl _, Nat.le_refl _⟩, by omega, hX, fun _ => hin⟩ (Nat.le_refl _) (Nat.le_refl _) ?_ s0.heap [] _ (by rw [hml]; exact zk_lv_entry (ad := zc_ad B) (ex := id) hn) hP va_S.rf hsz
  intro pc env hd H locs ls hl hP2 hS2 hz2
  exact W.vret hx hb hr (fun t ht hW => ⟨⟨rfl, by rw [ht]; exact hz2, by rw [ht]; exact hP2, va_K.moved hW.alike hK⟩, hS2.F ht⟩) hS2.2.2 hd
theorem zc_blind {B : Nat} {D : va_G} {cs : Nat → ClassId} {SH : List zk_Sh} {h : zk_H} {a : Nat} : FrameBlind (zc_Pc B D cs SH h a) := by
  intro b U g mk q
  obtain ⟨q0, q1, qP, qK, qX⟩ := q
  exact ⟨q0, q1, qP, va_K.moved (u := U) (U := U.calling g mk b) (Vm.Alike.refl U.vm) qK, qX.fb (u := U) (U := U.calling g mk b) rfl⟩
theorem zc_inv {T : zk_M} {P : zc_P} {κ : zc_K} {ω : zc_O} {pc a i : Nat} {env stk : List Value} {SH : List zk_Sh} {h : zk_H} {ce sl : Nat} {w : zc_Row} {r : zc_R} (g : zc_ok T κ ω) (hd : decode T.2.1 pc = .ok (.invokespecial i, 3)) (hnm : w.2.1.name = "<init>") (hw : (Cond.methodLink T.1 i w.2.1 ∈ zk_tbl ∨ ∃ host : String, Cond.methodLinkNest T.1 i w.2.1 host ∈ zk_nest) ∧ Cond.instanceMethod w.2.1 ∈ zk_tbl ∧ zk_LB w.1 w.2.1 none 0 ∧ zk_room T w.1) (hst : (stk.map fun v => v.category).sum ≤ 8) (hM : ∀ (l : Launch) (B : Nat) (D : va_G) (cs : Nat → ClassId), Met l w.2.1 (.code w.2.1 w.1.2.1 w.1.2.2.1 none :: zk_tbl) { frames := w.1.2.2.2.1, cells := r.2.2.1, slots := r.2.2.2, locals := w.1.2.2.2.2 } (zc_Pc B D cs SH h a) (zc_Qc B D cs r.1 r.2.1) r.2.2.1 r.2.2.2 (fun q => B ≤ q)) (hcR : ce + r.2.2.1 ≤ κ.2.2.2.1.cells) (hsR : sl + r.2.2.2 ≤ κ.2.2.2.1.slots) (k : zc_At κ ω (pc + 3, env, stk, r.1, r.2.1, ce + r.2.2.1, sl + r.2.2.2)) : zc_At κ ω (pc, env, .ref a :: stk, SH, h, ce, sl) := by
  obtain ⟨p, l, e, R, s, m, args, below, meth, c, Q⟩ := κ
  obtain ⟨B, D, cs⟩ := ω
  obtain ⟨hx, hb, hml, hown, hts, hK, hR, hB, hX, hnmI⟩ := g
  intro H locs ls hl hP hS hz
  obtain ⟨hlk, hin, hLB, hroom⟩ := hw
  have hpre : PreS s H (zc_Pc B D cs SH h a) (.ref (B + a) :: []) := ⟨zc_blind, fun U hU hW => ⟨rfl, by rw [hU]; exact hz, by rw [hU]; exact hP, va_K.moved hW.alike hK, hX.mv hW⟩⟩
  have hrun : va_Run p l e R s m args below meth c H locs ce sl r.2.2.1 r.2.2.2 (F0 m pc ls ((.ref a :: stk).map (zk_cv (zc_ad B) id))) (stk.map (zk_cv (zc_ad B) id)) (zc_Qc B D cs r.1 r.2.1 ([.ref (B + a)] : List Value).toArray) (fun q => B ≤ q) := by
    rcases hlk with h1 | ⟨host, h1⟩
    · exact va_runI (As := []) (n := 0) (b := B + a) ⟨hx, hb, hml, hown, hts⟩ (hM l B D cs) ⟨callB_of (mc := r.2.2.1) (ms := r.2.2.2) 0 hts (zk_gin hLB) rfl rfl rfl (hts _ hLB.2.1) (hts _ h1) hLB.2.2 ⟨Nat.le_trans hroom.1 hR.1, Nat.le_trans hroom.2 hR.2⟩, hnm, hts _ hin⟩ hpre rfl rfl (hl.1.trans hml) rfl (lv_room (by rw [zk_wsum]; exact hst)) hd ⟨hcR, hsR⟩
    · have hlen : ∀ sig, parseMethodDescriptor w.2.1.desc = some sig → 0 = sig.parameters.length := fun sig h2 => by
        have h3 := hLB.2.2.2.2
        rw [h2] at h3
        exact (Option.some.inj h3).symm
      exact va_runIN (As := []) (n := 0) (b := B + a) (host := host) ⟨hx, hb, hml, hown, hts⟩ (hM l B D cs) ⟨⟨⟨rfl, rfl, Nat.le_trans hroom.1 hR.1, Nat.le_trans hroom.2 hR.2, pay_in hts (zk_gin hLB), List.mem_cons_self⟩, hts _ hLB.1, hts _ hLB.2.1, ⟨hLB.2.2.1, hLB.2.2.2.1⟩, hlen, va_Nw.use rfl (hX.2 _ h1)⟩, hnm, hts _ hin⟩ hpre rfl rfl (hl.1.trans hml) rfl (lv_room (by rw [zk_wsum]; exact hst)) hd ⟨hcR, hsR⟩
  intro T0 hT X
  obtain ⟨v0, st₀, t, T', L, h0, X', hL, e1, e2, ⟨⟨hv, hz1, hP1, hK1⟩, hzz, hkq⟩, st⟩ := hrun T0 hT X
  cases hv
  rw [h0] at hzz hkq
  have hS1 : va_S (fun q => B ≤ q) s.heap T'.heap (locs ++ L) := ⟨Nat.le_trans hS.1 (by rw [e1]; exact hzz), fun q h1 h2 => by rw [e1, hkq q (Nat.lt_of_lt_of_le h1 hS.1) h2]; exact hS.2.1 q h1 h2, fun q hq => by
      rcases List.mem_append.mp hq with h | h
      · exact hS.2.2 q h
      · exact hL q h⟩
  obtain ⟨t2, a1, b1⟩ := k T'.heap (locs ++ L) ls hl (by rw [e1]; exact hP1) hS1 (by rw [e1]; exact hz1) T' rfl X'
  exact ⟨t2, st t2 a1, b1⟩
theorem zc_obj {T : zk_M} {κ : zc_K} {ω : zc_O} {pc a i : Nat} {env stk : List Value} {SH : List zk_Sh} {h : zk_H} {ce sl : Nat} (g : zc_ok T κ ω) (hd : decode T.2.1 pc = .ok (.invokespecial i, 3)) (hw : Cond.methodLink T.1 i objectInit ∈ zk_tbl ∧ Cond.instanceMethod objectInit ∈ zk_tbl ∧ Cond.code objectInit ⟨#[0xb1]⟩ 1 none ∈ zk_tbl ∧ 1 ≤ T.2.2.2.1 ∧ 20 ≤ T.2.2.2.2) (hst : (stk.map fun v => v.category).sum ≤ 8) (k : zc_At κ ω (pc + 3, env, stk, SH, h, ce, sl)) : zc_At κ ω (pc, env, .ref a :: stk, SH, h, ce, sl) := by
  obtain ⟨p, l, e, R, s, m, args, below, meth, c, Q⟩ := κ
  obtain ⟨B, D, cs⟩ := ω
  obtain ⟨hx, hb, hml, hown, hts, hK, hR, hB, hX, hnmI⟩ := g
  intro H locs ls hl hP hS hz
  exact W.objInit (a := B + a) (rest := stk.map (zk_cv (zc_ad B) id)) hx hb hown (hts _ hw.1) (hts _ hw.2.1) (hts _ hw.2.2.1) rfl hl.1 rfl hd (Nat.le_trans hw.2.2.2.1 hR.1) (by show 2 * 0 + _ + 12 ≤ _; rw [zk_wsum]; have := Nat.le_trans hw.2.2.2.2 hR.2; omega) (k H locs ls hl hP hS hz)
theorem zc_sound {P : zc_P} (hP : zc_okP P) (hac : Cond.arrayClass .int ∈ zk_tbl) : ∀ (f j : Nat) (σ : zc_S) (r : zc_R) (w : zc_Row), zc_run P f j σ = some r → P j = some w → ∀ (κ : zc_K) (ω : zc_O), zc_ok w.1 κ ω → r.2.2.1 ≤ κ.2.2.2.1.cells → r.2.2.2 ≤ κ.2.2.2.1.slots → (∀ (pc : Nat) (env : List Value), decode w.1.2.1 pc = .ok (.return_, 1) → zc_At κ ω (pc, env, [], r.1, r.2.1, r.2.2.1, r.2.2.2)) → zc_At κ ω σ
  | 0, j, σ, r, w, h, hj, κ, ω, g, hc, hs, hret => by cases h
  | f + 1, j, σ, r, w, h, hj, κ, ω, g, hc, hs, hret => by
    obtain ⟨pc, env, stk, SH, hh, ce, sl⟩ := σ
    unfold zc_run at h
    obtain ⟨w', hw, hA⟩ := Option.bind_eq_some_iff.mp h
    clear h
    rw [hj] at hw
    cases hw
    obtain ⟨d, hd, hB⟩ := Option.bind_eq_some_iff.mp hA
    clear hA
    obtain ⟨p1, p2, p3, p4, p5, p6, p7⟩ := hP j w hj
    have hdec := p1 _ (zc_lk_mem hd)
    obtain ⟨di, dn⟩ := d
    dsimp only at hB hdec
    split at hB
    · split at hB
      · rename_i hq
        obtain ⟨q1, q2⟩ := hq
        subst q1
        subst q2
        have e9 := Option.some.inj hB
        subst e9
        exact hret pc env hdec
      · cases hB
    · split at hB
      · split at hB
        · rename_i hq
          obtain ⟨q1, q2⟩ := hq
          subst q1
          obtain ⟨k, hk, h⟩ := Option.bind_eq_some_iff.mp hB
          clear hB
          have hiv := p3 _ (zc_lk_mem hk)
          cases k with
          | zero =>
            dsimp only at h
            exact zc_obj g hdec hiv q2 (zc_sound hP hac f j _ r w h hj κ ω g hc hs hret)
          | succ k =>
            obtain ⟨w2, hw2, h⟩ := Option.bind_eq_some_iff.mp h
            obtain ⟨q, hq, h⟩ := Option.bind_eq_some_iff.mp h
            obtain ⟨w3, hw3, c1, c2, c3, c4⟩ := hiv
            rw [hw2] at hw3
            cases hw3
            obtain ⟨-, -, -, r4, r5, r6, r7⟩ := hP k w2 hw2
            have hm := zc_run_mono f j _ r h
            dsimp only at hm
            exact zc_inv (P := P) (r := q) g hdec r6 ⟨c1, c2, c3, c4⟩ q2 (zc_metI r4 r5 r6 r7 (fun κ' ω' g' hc' hs' hret' => zc_sound hP hac f k _ q w2 hq hw2 κ' ω' g' hc' hs' hret')) (by omega) (by omega) (zc_sound hP hac f j _ r w h hj κ ω g hc hs hret)
        · cases hB
      · cases hB
    · obtain ⟨σ', hst, h⟩ := Option.bind_eq_some_iff.mp hB
      clear hB
      split at h
      · have hm := zc_run_mono f j _ r h
        exact zc_stI_ok g p2 hac hdec hst (by omega) (by omega) (zc_sound hP hac f j _ r w h hj κ ω g hc hs hret)
      · cases h
