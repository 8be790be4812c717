/-! statements -/
def zk_wrF (SH : List zk_Sh) (ci k : Nat) (isB : Bool) (v w : Value) (h : zk_H) : Option zk_H := match v, w with
  | .ref a, .int x => match SH[a]? with
    | some (.inl o) => if o.1 = ci ∧ o.2[k]? = some none ∧ (isB = true → x = 0 ∨ x = 1) then some (zk_up h a k x) else none
    | _ => none
  | _, _ => none
def zk_wrA (SH : List zk_Sh) (v i w : Value) (h : zk_H) : Option zk_H := match v, i, w with
  | .ref a, .int j, .int x => match SH[a]? with
    | some (.inr (.inl n)) => if 0 ≤ j.toInt ∧ j.toInt < (n : Int) then some (zk_up h a j.toNatClampNeg x) else none
    | _ => none
  | _, _, _ => none
def zk_cpA (SH : List zk_Sh) (av : List Value) (h : zk_H) : Option zk_H := match av with
  | [.ref a, .int sp, .ref b, .int dp, .int n] => match SH[a]?, SH[b]? with
    | some (.inr (.inl na)), some (.inr (.inl nb)) => if ¬ sp < 0 ∧ ¬ dp < 0 ∧ ¬ n < 0 ∧ sp.toNatClampNeg + n.toNatClampNeg ≤ na ∧ dp.toNatClampNeg + n.toNatClampNeg ≤ nb then some (zk_cp h a sp.toNatClampNeg b dp.toNatClampNeg n.toNatClampNeg) else none
    | _, _ => none
  | _ => none
def zk_skip : zk_Sm := fun env h => some (0, .null, env, h)
def zk_seq (s t : zk_Sm) : zk_Sm := fun env h => (s env h).bind fun q => if q.1 = 0 then t q.2.2.1 q.2.2.2 else some q
def zk_si (k : Nat) (F : zk_Xp) : zk_Sm := fun env h => (F env h).bind fun q => match q.1 with
  | .int x => if zk_okS env k = true then some (0, .null, env.set k (.int x), q.2) else none
  | _ => none
def zk_sr (k : Nat) (F : zk_Xp) : zk_Sm := fun env h => (F env h).bind fun q => match q.1 with
  | .ref x => if zk_okS env k = true then some (0, .null, env.set k (.ref x), q.2) else none
  | _ => none
def zk_inc (k : Nat) (n : Int32) : zk_Sm := fun env h => match env[k]? with
  | some (.int x) => if zk_okS env k = true then some (0, .null, env.set k (.int (x + n)), h) else none
  | _ => none
def zk_pf (SH : List zk_Sh) (ci k : Nat) (isB : Bool) (F G : zk_Xp) : zk_Sm := fun env h => (F env h).bind fun q => (G env q.2).bind fun r => (zk_wrF SH ci k isB q.1 r.1 r.2).bind fun h3 => some (0, .null, env, h3)
def zk_pfo (SH : List zk_Sh) (ci k : Nat) (f : Value → Value → Option Value) (F G : zk_Xp) : zk_Sm := fun env h => (F env h).bind fun q => (zk_rdF SH ci k q.1 q.2).bind fun x => (G env q.2).bind fun r => (f x r.1).bind fun w => (zk_wrF SH ci k false q.1 w r.2).bind fun h3 => some (0, .null, env, h3)
def zk_as (SH : List zk_Sh) (F G K : zk_Xp) : zk_Sm := fun env h => (F env h).bind fun q => (G env q.2).bind fun r => (K env r.2).bind fun t => (zk_wrA SH q.1 r.1 t.1 t.2).bind fun h3 => some (0, .null, env, h3)
def zk_aso (SH : List zk_Sh) (f : Value → Value → Option Value) (F G K : zk_Xp) : zk_Sm := fun env h => (F env h).bind fun q => (G env q.2).bind fun r => (zk_rdA SH q.1 r.1 r.2).bind fun x => (K env r.2).bind fun t => (f x t.1).bind fun w => (zk_wrA SH q.1 r.1 w t.2).bind fun h3 => some (0, .null, env, h3)
def zk_cps (SH : List zk_Sh) (Fs : List zk_Xp) : zk_Sm := fun env h => (zk_ev Fs env h).bind fun q => (zk_cpA SH q.1 q.2).bind fun h3 => some (0, .null, env, h3)
def zk_if (c : zk_Cn) (s t : zk_Sm) : zk_Sm := fun env h => (c env h).bind fun q => if q.1 then s env q.2 else t env q.2
def zk_loop (c : zk_Cn) (b u : zk_Sm) : Nat → zk_Sm
  | 0 => fun _ _ => none
  | n + 1 => fun env h => (c env h).bind fun q => if q.1 then (b env q.2).bind fun r => if r.1 = 1 then some (0, .null, r.2.2.1, r.2.2.2) else if r.1 = 3 then some r else (u r.2.2.1 r.2.2.2).bind fun t => if t.1 = 0 then zk_loop c b u n t.2.2.1 t.2.2.2 else none else some (0, .null, env, q.2)
def zk_ret (F : zk_Xp) : zk_Sm := fun env h => (F env h).bind fun q => match q.1 with
  | .int x => some (3, .int x, env, q.2)
  | _ => none
def zk_ret0 : zk_Sm := fun env h => some (3, .null, env, h)
def zk_brk : zk_Sm := fun env h => some (1, .null, env, h)
def zk_cnt : zk_Sm := fun env h => some (2, .null, env, h)
def zk_xc (f : zk_Fn) (Fs : List zk_Xp) : zk_Sm := fun env h => (zk_ev Fs env h).bind fun q => (f q.1 q.2).bind fun r => some (0, .null, env, r.2)
def zk_pick (x : Int32) (l : List (Int32 × zk_Sm)) (d : zk_Sm) : zk_Sm := match l with
  | [] => d
  | q :: r => if x = q.1 then q.2 else zk_pick x r d
def zk_sw (F : zk_Xp) (l : List (Int32 × zk_Sm)) (d : zk_Sm) : zk_Sm := fun env h => (F env h).bind fun q => match q.1 with
  | .int x => zk_pick x l d env q.2
  | _ => none
section ZS
variable {SH : List zk_Sh} {T : zk_M} {a b nx bk ct : Nat}
theorem zk_s_skip : zk_S SH T a a bk ct zk_skip := by
  intro κ ω g Rt hR env h o v env' h' hf k0 k1 k2 k3
  cases hf
  exact k0 rfl
theorem zk_s_go {s : zk_Sm} {j : Nat} {o : Int} (hs : zk_S SH T a b bk ct s) (hd : decode T.2.1 b = .ok (.goto o, 3)) (ht : (b : Int) + o = (j : Int)) : zk_S SH T a j bk ct s := by
  intro κ ω g Rt hR env h o v env' h' hf k0 k1 k2 k3
  exact hs κ ω g Rt hR env h o v env' h' hf (fun e => zk_goto g hd ht (k0 e)) k1 k2 k3
theorem zk_s_seq {s t : zk_Sm} (hs : zk_S SH T a b bk ct s) (ht : zk_S SH T b nx bk ct t) : zk_S SH T a nx bk ct (zk_seq s t) := by
  intro κ ω g Rt hR env h o v env' h' hf k0 k1 k2 k3
  obtain ⟨⟨o1, v1, env1, h1⟩, e1, hf⟩ := Option.bind_eq_some_iff.mp hf
  by_cases e : o1 = 0
  · subst e
    exact hs κ ω g Rt hR env h 0 v1 env1 h1 e1 (fun _ => ht κ ω g Rt hR env1 h1 o v env' h' hf k0 k1 k2 k3) (fun z => by cases z) (fun z => by cases z) (fun z => by cases z)
  · simp only [if_neg e, Option.some.injEq, Prod.mk.injEq] at hf
    obtain ⟨rfl, rfl, rfl, rfl⟩ := hf
    exact hs κ ω g Rt hR env h _ _ _ _ e1 (fun z => absurd z e) k1 k2 k3
theorem zk_s_istore {F : zk_Xp} {i : Nat} (hF : zk_E SH T 0 a b F) (hd : decode T.2.1 b = .ok (.istore i, 2)) (hi : i < T.2.2.1) : zk_S SH T a (b + 2) bk ct (zk_si i F) := by
  intro κ ω g Rt hR env h o v env' h' hf k0 k1 k2 k3
  obtain ⟨⟨v1, h1⟩, e1, hf⟩ := Option.bind_eq_some_iff.mp hf
  cases v1 <;> simp only [reduceCtorEq] at hf
  split at hf
  · cases hf
    exact hF κ ω g env [] h _ _ (Nat.le_refl _) e1 (zk_istore g hd hi (by assumption) (k0 rfl))
  · cases hf
theorem zk_s_istore_n {F : zk_Xp} {i : Fin 4} (hF : zk_E SH T 0 a b F) (hd : decode T.2.1 b = .ok (.istore_n i, 1)) (hi : (i : Nat) < T.2.2.1) : zk_S SH T a (b + 1) bk ct (zk_si (i : Nat) F) := by
  intro κ ω g Rt hR env h o v env' h' hf k0 k1 k2 k3
  obtain ⟨⟨v1, h1⟩, e1, hf⟩ := Option.bind_eq_some_iff.mp hf
  cases v1 <;> simp only [reduceCtorEq] at hf
  split at hf
  · cases hf
    exact hF κ ω g env [] h _ _ (Nat.le_refl _) e1 (zk_istore_n g hd hi (by assumption) (k0 rfl))
  · cases hf
theorem zk_s_astore {F : zk_Xp} {i : Nat} (hF : zk_E SH T 0 a b F) (hd : decode T.2.1 b = .ok (.astore i, 2)) (hi : i < T.2.2.1) : zk_S SH T a (b + 2) bk ct (zk_sr i F) := by
  intro κ ω g Rt hR env h o v env' h' hf k0 k1 k2 k3
  obtain ⟨⟨v1, h1⟩, e1, hf⟩ := Option.bind_eq_some_iff.mp hf
  cases v1 <;> simp only [reduceCtorEq] at hf
  split at hf
  · cases hf
    exact hF κ ω g env [] h _ _ (Nat.le_refl _) e1 (zk_astore g hd hi (by assumption) (k0 rfl))
  · cases hf
theorem zk_s_astore_n {F : zk_Xp} {i : Fin 4} (hF : zk_E SH T 0 a b F) (hd : decode T.2.1 b = .ok (.astore_n i, 1)) (hi : (i : Nat) < T.2.2.1) : zk_S SH T a (b + 1) bk ct (zk_sr (i : Nat) F) := by
  intro κ ω g Rt hR env h o v env' h' hf k0 k1 k2 k3
  obtain ⟨⟨v1, h1⟩, e1, hf⟩ := Option.bind_eq_some_iff.mp hf
  cases v1 <;> simp only [reduceCtorEq] at hf
  split at hf
  · cases hf
    exact hF κ ω g env [] h _ _ (Nat.le_refl _) e1 (zk_astore_n g hd hi (by assumption) (k0 rfl))
  · cases hf
theorem zk_s_inc {i : Nat} {n : Int} {w : Int32} (hd : decode T.2.1 a = .ok (.iinc i n, 3)) (hw : Int32.ofInt n = w) (hi : i < T.2.2.1) : zk_S SH T a (a + 3) bk ct (zk_inc i w) := by
  intro κ ω g Rt hR env h o v env' h' hf k0 k1 k2 k3
  unfold zk_inc at hf
  split at hf
  · split at hf
    · cases hf
      exact zk_iinc g hd (by assumption) (by rw [hw]) hi (by assumption) (k0 rfl)
    · cases hf
  · cases hf
theorem zk_wrF_spec {ci k : Nat} {isB : Bool} {v w : Value} {h h' : zk_H} (hf : zk_wrF SH ci k isB v w h = some h') : ∃ (a : Nat) (x : Int32) (fs : List zk_Fd), v = .ref a ∧ w = .int x ∧ SH[a]? = some (.inl (ci, fs)) ∧ fs[k]? = some none ∧ (isB = true → x = 0 ∨ x = 1) ∧ h' = zk_up h a k x := by
  unfold zk_wrF at hf
  split at hf
  · split at hf
    · rename_i o ho
      split at hf
      · rename_i hc
        cases hf
        obtain ⟨o1, o2⟩ := o
        obtain ⟨c1, c2, c3⟩ := hc
        dsimp only at c1 c2
        subst c1
        exact ⟨_, _, _, rfl, rfl, ho, c2, c3, rfl⟩
      · cases hf
    · cases hf
  · cases hf
theorem zk_put2 {κ : zk_K} {ω : zk_O} {env : List Value} {i ci k pc : Nat} {isB : Bool} {v w : Value} {h h' : zk_H} (g : zk_ok T κ ω) (hd : decode T.2.1 pc = .ok (.putfield i, 3)) (hl : zk_FP T.1 i ci k (if isB then .boolean else .int)) (hf : zk_wrF SH ci k isB v w h = some h') (kk : zk_At κ ω (pc + 3) env [] SH h') : zk_At κ ω pc env [w, v] SH h := by
  obtain ⟨a, x, fs, rfl, rfl, hs, hk, hx, rfl⟩ := zk_wrF_spec hf
  cases isB with
  | false => exact zk_putf g hd hl rfl rfl hs hk kk
  | true =>
    refine zk_putf g hd hl ?_ ?_ hs hk kk
    · rcases hx rfl with rfl | rfl <;> rfl
    · rcases hx rfl with rfl | rfl <;> rfl
theorem zk_s_pf {F G : zk_Xp} {i ci k c : Nat} {isB : Bool} (hF : zk_E SH T 0 a b F) (hG : zk_E SH T (0 + 2) b c G) (hd : decode T.2.1 c = .ok (.putfield i, 3)) (hl : zk_FP T.1 i ci k (if isB then .boolean else .int)) : zk_S SH T a (c + 3) bk ct (zk_pf SH ci k isB F G) := by
  intro κ ω g Rt hR env h o v env' h' hf k0 k1 k2 k3
  obtain ⟨⟨v1, h1⟩, e1, hf⟩ := Option.bind_eq_some_iff.mp hf
  obtain ⟨⟨v2, h2⟩, e2, hf⟩ := Option.bind_eq_some_iff.mp hf
  obtain ⟨h3, e3, hf⟩ := Option.bind_eq_some_iff.mp hf
  cases hf
  exact hF κ ω g env [] h v1 h1 (Nat.le_refl _) e1 (hG κ ω g env [v1] h1 v2 h2 (zk_push v1 (Nat.le_refl _)) e2 (zk_put2 g hd hl e3 (k0 rfl)))
theorem zk_rdF_spec {ci k : Nat} {v w : Value} {h : zk_H} (hf : zk_rdF SH ci k v h = some w) : ∃ (a : Nat) (fs : List zk_Fd) (f : zk_Fd), v = .ref a ∧ SH[a]? = some (.inl (ci, fs)) ∧ fs[k]? = some f ∧ zk_av h a k f = some w := by
  unfold zk_rdF at hf
  split at hf
  · split at hf
    · rename_i o ho
      split at hf
      · rename_i hci
        obtain ⟨f, e3, e4⟩ := Option.bind_eq_some_iff.mp hf
        obtain ⟨o1, o2⟩ := o
        dsimp only at hci
        subst hci
        exact ⟨_, _, f, rfl, ho, e3, e4⟩
      · cases hf
    · cases hf
  · cases hf
theorem zk_rdA_spec {v w r : Value} {h : zk_H} (hf : zk_rdA SH v w h = some r) : ∃ (a n : Nat) (i : Int32), v = .ref a ∧ w = .int i ∧ SH[a]? = some (.inr (.inl n)) ∧ vp_in i n ∧ r = .int (h a i.toNatClampNeg) := by
  unfold zk_rdA at hf
  split at hf
  · split at hf
    · split at hf
      · rename_i hi
        cases hf
        exact ⟨_, _, _, rfl, rfl, by assumption, vp_in_iff.mpr hi, rfl⟩
      · cases hf
    · cases hf
  · cases hf
theorem zk_wrA_spec {v i w : Value} {h h' : zk_H} (hf : zk_wrA SH v i w h = some h') : ∃ (a n : Nat) (j x : Int32), v = .ref a ∧ i = .int j ∧ w = .int x ∧ SH[a]? = some (.inr (.inl n)) ∧ vp_in j n ∧ h' = zk_up h a j.toNatClampNeg x := by
  unfold zk_wrA at hf
  split at hf
  · split at hf
    · split at hf
      · rename_i hi
        cases hf
        exact ⟨_, _, _, _, rfl, rfl, rfl, by assumption, vp_in_iff.mpr hi, rfl⟩
      · cases hf
    · cases hf
  · cases hf
theorem zk_s_pfo {F G : zk_Xp} {f : Value → Value → Option Value} {i j ci k c : Nat} (hF : zk_E SH T 0 a b F) (hdu : decode T.2.1 b = .ok (.dup, 1)) (hdg : decode T.2.1 (b + 1) = .ok (.getfield i, 3)) (hlg : zk_FL T.1 i ci k) (hG : zk_E SH T (0 + 2 + 2) (b + 1 + 3) c G) (hI : zk_I2 T (0 + 2) c 1 f) (hd : decode T.2.1 (c + 1) = .ok (.putfield j, 3)) (hl : zk_FP T.1 j ci k .int) : zk_S SH T a (c + 1 + 3) bk ct (zk_pfo SH ci k f F G) := by
  intro κ ω g Rt hR env h o v env' h' hf k0 k1 k2 k3
  obtain ⟨⟨v1, h1⟩, e1, hf⟩ := Option.bind_eq_some_iff.mp hf
  obtain ⟨x, e2, hf⟩ := Option.bind_eq_some_iff.mp hf
  obtain ⟨⟨v2, h2⟩, e3, hf⟩ := Option.bind_eq_some_iff.mp hf
  obtain ⟨w, e4, hf⟩ := Option.bind_eq_some_iff.mp hf
  obtain ⟨h3, e5, hf⟩ := Option.bind_eq_some_iff.mp hf
  cases hf
  obtain ⟨aa, fs, ff, ea, es, ek, ev⟩ := zk_rdF_spec e2
  dsimp only at ea
  subst ea
  exact hF κ ω g env [] h _ h1 (Nat.le_refl _) e1 (zk_dup g hdu rfl (zk_getf g hdg hlg es ek ev (hG κ ω g env [x, .ref aa] h1 v2 h2 (zk_push x (zk_push _ (Nat.le_refl _))) e3 (hI κ ω g env [.ref aa] SH h2 x v2 w (zk_push _ (Nat.le_refl _)) e4 (zk_put2 (isB := false) g hd hl e5 (k0 rfl))))))
theorem zk_s_as {F G K : zk_Xp} {c d : Nat} (hF : zk_E SH T 0 a b F) (hG : zk_E SH T (0 + 2) b c G) (hK : zk_E SH T (0 + 2 + 2) c d K) (hd : decode T.2.1 d = .ok (.iastore, 1)) : zk_S SH T a (d + 1) bk ct (zk_as SH F G K) := by
  intro κ ω g Rt hR env h o v env' h' hf k0 k1 k2 k3
  obtain ⟨⟨v1, h1⟩, e1, hf⟩ := Option.bind_eq_some_iff.mp hf
  obtain ⟨⟨v2, h2⟩, e2, hf⟩ := Option.bind_eq_some_iff.mp hf
  obtain ⟨⟨v3, h3⟩, e3, hf⟩ := Option.bind_eq_some_iff.mp hf
  obtain ⟨h4, e4, hf⟩ := Option.bind_eq_some_iff.mp hf
  cases hf
  obtain ⟨aa, n, j, x, ea, ej, ex, es, ei, eh⟩ := zk_wrA_spec e4
  dsimp only at ea ej ex eh
  subst ea ej ex eh
  exact hF κ ω g env [] h _ h1 (Nat.le_refl _) e1 (hG κ ω g env _ h1 _ h2 (zk_push _ (Nat.le_refl _)) e2 (hK κ ω g env _ h2 _ h3 (zk_push _ (zk_push _ (Nat.le_refl _))) e3 (zk_iast g hd es ei (k0 rfl))))
theorem zk_s_aso {F G K : zk_Xp} {f : Value → Value → Option Value} {c d : Nat} (hF : zk_E SH T 0 a b F) (hG : zk_E SH T (0 + 2) b c G) (hdu : decode T.2.1 c = .ok (.dup2, 1)) (hda : decode T.2.1 (c + 1) = .ok (.iaload, 1)) (hK : zk_E SH T (0 + 2 + 2 + 2) (c + 1 + 1) d K) (hI : zk_I2 T (0 + 2 + 2) d 1 f) (hd : decode T.2.1 (d + 1) = .ok (.iastore, 1)) : zk_S SH T a (d + 1 + 1) bk ct (zk_aso SH f F G K) := by
  intro κ ω g Rt hR env h o v env' h' hf k0 k1 k2 k3
  obtain ⟨⟨v1, h1⟩, e1, hf⟩ := Option.bind_eq_some_iff.mp hf
  obtain ⟨⟨v2, h2⟩, e2, hf⟩ := Option.bind_eq_some_iff.mp hf
  obtain ⟨x0, e3, hf⟩ := Option.bind_eq_some_iff.mp hf
  obtain ⟨⟨v3, h3⟩, e4, hf⟩ := Option.bind_eq_some_iff.mp hf
  obtain ⟨w, e5, hf⟩ := Option.bind_eq_some_iff.mp hf
  obtain ⟨h4, e6, hf⟩ := Option.bind_eq_some_iff.mp hf
  cases hf
  obtain ⟨aa, n, j, x, ea, ej, ex, es, ei, eh⟩ := zk_wrA_spec e6
  dsimp only at ea ej ex eh
  subst ea ej ex eh
  obtain ⟨aa2, n2, i2, ea2, ej2, es2, ei2, er⟩ := zk_rdA_spec e3
  dsimp only at ea2 ej2 er
  cases ea2
  cases ej2
  subst er
  exact hF κ ω g env [] h _ h1 (Nat.le_refl _) e1 (hG κ ω g env _ h1 _ h2 (zk_push _ (Nat.le_refl _)) e2 (zk_dup2 g hdu rfl rfl (zk_iald g hda es2 ei2 (hK κ ω g env _ h2 v3 h3 (zk_push _ (zk_push _ (zk_push _ (Nat.le_refl _)))) e4 (hI κ ω g env _ SH h3 _ v3 _ (zk_push _ (zk_push _ (Nat.le_refl _))) e5 (zk_iast g hd es ei (k0 rfl)))))))
theorem zk_s_cps {Fs : List zk_Xp} {i : Nat} (hF : zk_Es SH T 0 a b Fs) (hd : decode T.2.1 b = .ok (.invokestatic i, 3)) (hw : Cond.methodLink T.1 i arraycopyName ∈ zk_tbl ∧ Cond.native arraycopyName ∈ zk_tbl ∧ Cond.static arraycopyName ∈ zk_tbl ∧ Cond.initialized "java/lang/System" ∈ zk_tbl) (hfr : 1 ≤ T.2.2.2.1) (hlo : 8 + (nativeFrameWords "java/lang/System" "arraycopy" 5 + 11) ≤ T.2.2.2.2) : zk_S SH T a (b + 3) bk ct (zk_cps SH Fs) := by
  intro κ ω g Rt hR env h o v env' h' hf k0 k1 k2 k3
  obtain ⟨⟨v1, h1⟩, e1, hf⟩ := Option.bind_eq_some_iff.mp hf
  obtain ⟨h3, e3, hf⟩ := Option.bind_eq_some_iff.mp hf
  cases hf
  refine hF κ ω g env [] h v1 h1 (Nat.le_refl _) e1 ?_
  dsimp only at e3
  unfold zk_cpA at e3
  split at e3
  · split at e3
    · rename_i ha hb
      split at e3
      · rename_i hc
        cases e3
        exact zk_acopy g hd hw (by simp) hfr hlo ha hb hc.1 hc.2.1 hc.2.2.1 hc.2.2.2.1 hc.2.2.2.2 (k0 rfl)
      · cases e3
    · cases e3
  · cases e3
theorem zk_s_if {c : zk_Cn} {s t : zk_Sm} {t1 f1 : Nat} (hC : zk_C SH T 0 a t1 f1 c) (hs : zk_S SH T t1 nx bk ct s) (ht : zk_S SH T f1 nx bk ct t) : zk_S SH T a nx bk ct (zk_if c s t) := by
  intro κ ω g Rt hR env h o v env' h' hf k0 k1 k2 k3
  obtain ⟨⟨v1, h1⟩, e1, hf⟩ := Option.bind_eq_some_iff.mp hf
  refine hC κ ω g env [] h v1 h1 (Nat.le_refl _) e1 ?_
  cases v1 with
  | true => exact hs κ ω g Rt hR env h1 o v env' h' hf k0 k1 k2 k3
  | false => exact ht κ ω g Rt hR env h1 o v env' h' hf k0 k1 k2 k3
theorem zk_s_loop {c : zk_Cn} {s u : zk_Sm} {tb m : Nat} {bu cu : Nat} (hC : zk_C SH T 0 a tb nx c) (hB : zk_S SH T tb m nx m s) (hU : zk_S SH T m a bu cu u) : ∀ n : Nat, zk_S SH T a nx bk ct (zk_loop c s u n)
  | 0 => by
    intro κ ω g Rt hR env h o v env' h' hf k0 k1 k2 k3
    cases hf
  | n + 1 => by
    intro κ ω g Rt hR env h o v env' h' hf k0 k1 k2 k3
    obtain ⟨⟨v1, h1⟩, e1, hf⟩ := Option.bind_eq_some_iff.mp hf
    refine hC κ ω g env [] h v1 h1 (Nat.le_refl _) e1 ?_
    cases v1 with
    | false =>
      cases hf
      exact k0 rfl
    | true =>
      obtain ⟨⟨o2, v2, env2, h2⟩, e2, hf⟩ := Option.bind_eq_some_iff.mp hf
      have hup : o2 ≠ 1 → o2 ≠ 3 → zk_At κ ω m env2 [] SH h2 := by
        intro n1 n3
        simp only [if_neg n1, if_neg n3] at hf
        obtain ⟨⟨o3, v3, env3, h3⟩, e3, hf⟩ := Option.bind_eq_some_iff.mp hf
        by_cases z3 : o3 = 0
        · subst z3
          exact hU κ ω g Rt hR env2 h2 0 v3 env3 h3 e3 (fun _ => zk_s_loop hC hB hU n κ ω g Rt hR env3 h3 o v env' h' hf k0 k1 k2 k3) (fun z => by cases z) (fun z => by cases z) (fun z => by cases z)
        · simp [z3] at hf
      refine hB κ ω g Rt hR env h1 o2 v2 env2 h2 e2 (fun z => hup (by omega) (by omega)) (fun z => ?_) (fun z => hup (by omega) (by omega)) (fun z => ?_)
      · subst z
        cases hf
        exact k0 rfl
      · subst z
        cases hf
        exact k3 rfl
theorem zk_s_ret {F : zk_Xp} (hF : zk_E SH T 0 a b F) (hd : decode T.2.1 b = .ok (.ireturn, 1)) : zk_S SH T a nx bk ct (zk_ret F) := by
  intro κ ω g Rt hR env h o v env' h' hf k0 k1 k2 k3
  obtain ⟨⟨v1, h1⟩, e1, hf⟩ := Option.bind_eq_some_iff.mp hf
  cases v1 <;> simp only [reduceCtorEq] at hf
  cases hf
  exact hF κ ω g env [] h _ _ (Nat.le_refl _) e1 (hR.1 b env _ _ hd (k3 rfl))
theorem zk_s_ret0 (hd : decode T.2.1 a = .ok (.return_, 1)) : zk_S SH T a nx bk ct zk_ret0 := by
  intro κ ω g Rt hR env h o v env' h' hf k0 k1 k2 k3
  cases hf
  exact hR.2 a env h hd (k3 rfl)
theorem zk_s_brk {o : Int} (hd : decode T.2.1 a = .ok (.goto o, 3)) (ht : (a : Int) + o = (bk : Int)) : zk_S SH T a nx bk ct zk_brk := by
  intro κ ω g Rt hR env h o v env' h' hf k0 k1 k2 k3
  cases hf
  exact zk_goto g hd ht (k1 rfl)
theorem zk_s_cnt {o : Int} (hd : decode T.2.1 a = .ok (.goto o, 3)) (ht : (a : Int) + o = (ct : Int)) : zk_S SH T a nx bk ct zk_cnt := by
  intro κ ω g Rt hR env h o v env' h' hf k0 k1 k2 k3
  cases hf
  exact zk_goto g hd ht (k2 rfl)
theorem zk_s_xc {f : zk_Fn} {Fs : List zk_Xp} {k : Nat} (hF : zk_Es SH T 0 a b Fs) (hI : zk_Inv SH T 0 b k none f) (hk : Fs.length = k) : zk_S SH T a (b + 3) bk ct (zk_xc f Fs) := by
  intro κ ω g Rt hR env h o v env' h' hf k0 k1 k2 k3
  obtain ⟨⟨v1, h1⟩, e1, hf⟩ := Option.bind_eq_some_iff.mp hf
  obtain ⟨⟨v2, h2⟩, e2, hf⟩ := Option.bind_eq_some_iff.mp hf
  cases hf
  exact hF κ ω g env [] h v1 h1 (Nat.le_refl _) e1 (hI κ ω g env [] h1 v1 v2 h2 (Nat.le_refl _) ((zk_ev_len _ _ _ _ _ e1).trans hk) e2 (k0 rfl))
end ZS
