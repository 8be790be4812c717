/-! evaluation, step by step, nothing under a binder -/
section QE
variable {e : List Value} {h g : zk_H} {F G K : zk_Xp} {s t : zk_Sm} {c d : zk_Cn} {SH : List zk_Sh}
def zq_r (o : Option Value) (h : zk_H) : Option (Value × zk_H) := o.bind fun w => some (w, h)
theorem zq_r1 (v : Value) : zq_r (some v) h = some (v, h) := rfl
theorem ze_c (v : Value) : zk_c v e h = some (v, h) := rfl
def zq_li (o : Option Value) (h : zk_H) : Option (Value × zk_H) := match o with
  | some (.int x) => some (.int x, h)
  | _ => none
theorem ze_li (k : Nat) : zk_li k e h = zq_li e[k]? h := rfl
theorem zq_li1 (x : Int32) : zq_li (some (.int x)) h = some (.int x, h) := rfl
def zq_lr (o : Option Value) (h : zk_H) : Option (Value × zk_H) := match o with
  | some (.ref x) => some (.ref x, h)
  | some (.retAddr x) => some (.retAddr x, h)
  | _ => none
theorem ze_lr (k : Nat) : zk_lr k e h = zq_lr e[k]? h := rfl
theorem zq_lr1 (x : Nat) : zq_lr (some (.ref x)) h = some (.ref x, h) := rfl
theorem zq_lr2 (x : Nat) : zq_lr (some (.retAddr x)) h = some (.retAddr x, h) := rfl
def zq_ll (o : Option Value) (h : zk_H) : Option (Value × zk_H) := match o with
  | some (.long x) => some (.long x, h)
  | _ => none
theorem ze_ll (k : Nat) : zk_ll k e h = zq_ll e[k]? h := rfl
theorem zq_ll1 (x : Int64) : zq_ll (some (.long x)) h = some (.long x, h) := rfl
def zq_u (f : Value → Option Value) (o : Option (Value × zk_H)) : Option (Value × zk_H) := o.bind fun q => (f q.1).bind fun w => some (w, q.2)
theorem ze_u (f : Value → Option Value) : zk_u f F e h = zq_u f (F e h) := rfl
theorem zq_u1 (f : Value → Option Value) (v : Value) : zq_u f (some (v, h)) = zq_r (f v) h := rfl
def zq_b (f : Value → Value → Option Value) (o : Option (Value × zk_H)) (G : zk_Xp) (e : List Value) : Option (Value × zk_H) := o.bind fun q => (G e q.2).bind fun r => (f q.1 r.1).bind fun w => some (w, r.2)
def zq_b2 (f : Value → Value → Option Value) (v : Value) (o : Option (Value × zk_H)) : Option (Value × zk_H) := o.bind fun r => (f v r.1).bind fun w => some (w, r.2)
theorem ze_b (f : Value → Value → Option Value) : zk_b f F G e h = zq_b f (F e h) G e := rfl
theorem zq_b1 (f : Value → Value → Option Value) (v : Value) : zq_b f (some (v, h)) G e = zq_b2 f v (G e h) := rfl
theorem zq_b3 (f : Value → Value → Option Value) (v w : Value) : zq_b2 f v (some (w, h)) = zq_r (f v w) h := rfl
theorem ze_fi (f : Int32 → Int32 → Int32) (x y : Int32) : zk_fi f (.int x) (.int y) = some (.int (f x y)) := rfl
theorem ze_fd (f : Int32 → Int32 → Int32) (x y : Int32) : zk_fd f (.int x) (.int y) = if y = 0 then none else some (.int (f x y)) := rfl
theorem ze_fl (f : Int64 → Int64 → Int64) (x y : Int64) : zk_fl f (.long x) (.long y) = some (.long (f x y)) := rfl
theorem ze_fs (f : Int64 → Int32 → Int64) (x : Int64) (y : Int32) : zk_fs f (.long x) (.int y) = some (.long (f x y)) := rfl
theorem ze_gi (f : Int32 → Int32) (x : Int32) : zk_gi f (.int x) = some (.int (f x)) := rfl
theorem ze_gl (f : Int32 → Int64) (x : Int32) : zk_gl f (.int x) = some (.long (f x)) := rfl
theorem ze_gn (f : Int64 → Int32) (x : Int64) : zk_gn f (.long x) = some (.int (f x)) := rfl
def zq_gf (SH : List zk_Sh) (ci k : Nat) (o : Option (Value × zk_H)) : Option (Value × zk_H) := o.bind fun q => (zk_rdF SH ci k q.1 q.2).bind fun w => some (w, q.2)
theorem ze_gf (ci k : Nat) : zk_gf SH ci k F e h = zq_gf SH ci k (F e h) := rfl
theorem zq_gf1 (ci k : Nat) (v : Value) : zq_gf SH ci k (some (v, h)) = zq_r (zk_rdF SH ci k v h) h := rfl
def zq_al (SH : List zk_Sh) (o : Option (Value × zk_H)) (G : zk_Xp) (e : List Value) : Option (Value × zk_H) := o.bind fun q => (G e q.2).bind fun r => (zk_rdA SH q.1 r.1 r.2).bind fun w => some (w, r.2)
def zq_al2 (SH : List zk_Sh) (v : Value) (o : Option (Value × zk_H)) : Option (Value × zk_H) := o.bind fun r => (zk_rdA SH v r.1 r.2).bind fun w => some (w, r.2)
theorem ze_al : zk_al SH F G e h = zq_al SH (F e h) G e := rfl
theorem zq_al1 (v : Value) : zq_al SH (some (v, h)) G e = zq_al2 SH v (G e h) := rfl
theorem zq_al3 (v w : Value) : zq_al2 SH v (some (w, h)) = zq_r (zk_rdA SH v w h) h := rfl
def zq_aa (SH : List zk_Sh) (o : Option (Value × zk_H)) (G : zk_Xp) (e : List Value) : Option (Value × zk_H) := o.bind fun q => (G e q.2).bind fun r => (zk_rdR SH q.1 r.1).bind fun w => some (w, r.2)
def zq_aa2 (SH : List zk_Sh) (v : Value) (o : Option (Value × zk_H)) : Option (Value × zk_H) := o.bind fun r => (zk_rdR SH v r.1).bind fun w => some (w, r.2)
theorem ze_aa : zk_aa SH F G e h = zq_aa SH (F e h) G e := rfl
theorem zq_aa1 (v : Value) : zq_aa SH (some (v, h)) G e = zq_aa2 SH v (G e h) := rfl
theorem zq_aa3 (v w : Value) : zq_aa2 SH v (some (w, h)) = zq_r (zk_rdR SH v w) h := rfl
/-- arguments -/
def zq_ev (o : Option (Value × zk_H)) (r : List zk_Xp) (e : List Value) : Option (List Value × zk_H) := o.bind fun q => (zk_ev r e q.2).bind fun t => some (q.1 :: t.1, t.2)
def zq_ev2 (v : Value) (o : Option (List Value × zk_H)) : Option (List Value × zk_H) := o.bind fun t => some (v :: t.1, t.2)
theorem ze_ev0 : zk_ev [] e h = some ([], h) := rfl
theorem ze_ev (r : List zk_Xp) : zk_ev (F :: r) e h = zq_ev (F e h) r e := rfl
theorem zq_ev1 (v : Value) (r : List zk_Xp) : zq_ev (some (v, h)) r e = zq_ev2 v (zk_ev r e h) := rfl
theorem zq_ev3 (v : Value) (l : List Value) : zq_ev2 v (some (l, h)) = some (v :: l, h) := rfl
def zq_ca (f : zk_Fn) (o : Option (List Value × zk_H)) : Option (Value × zk_H) := o.bind fun q => f q.1 q.2
theorem ze_ca (f : zk_Fn) (Fs : List zk_Xp) : zk_ca f Fs e h = zq_ca f (zk_ev Fs e h) := rfl
theorem zq_ca1 (f : zk_Fn) (l : List Value) : zq_ca f (some (l, h)) = f l h := rfl
def zq_xc (f : zk_Fn) (o : Option (List Value × zk_H)) (e : List Value) : Option (Nat × Value × List Value × zk_H) := o.bind fun q => (f q.1 q.2).bind fun r => some (0, .null, e, r.2)
def zq_xc2 (o : Option (Value × zk_H)) (e : List Value) : Option (Nat × Value × List Value × zk_H) := o.bind fun r => some (0, .null, e, r.2)
theorem ze_xc (f : zk_Fn) (Fs : List zk_Xp) : zk_xc f Fs e h = zq_xc f (zk_ev Fs e h) e := rfl
theorem zq_xc1 (f : zk_Fn) (l : List Value) : zq_xc f (some (l, h)) e = zq_xc2 (f l h) e := rfl
theorem zq_xc3 (v : Value) : zq_xc2 (some (v, h)) e = some (0, .null, e, h) := rfl
def zq_ck (o : Bool) (f : zk_Fn) (l : List Value) (h : zk_H) : Option (Value × zk_H) := if o then f l h else none
theorem ze_ck (ci : Nat) (f : zk_Fn) (l : List Value) : zk_ck SH ci f l h = zq_ck (zk_rc SH ci l) f l h := rfl
theorem zq_ck1 (f : zk_Fn) (l : List Value) : zq_ck true f l h = f l h := rfl
def zq_rc (ci : Nat) (o : Option zk_Sh) : Bool := match o with
  | some (.inl o) => o.1 == ci
  | _ => false
theorem ze_rc (ci a : Nat) (l : List Value) : zk_rc SH ci (.ref a :: l) = zq_rc ci SH[a]? := rfl
theorem zq_rc1 (ci : Nat) (fs : List zk_Fd) : zq_rc ci (some (.inl (ci, fs))) = true := by simp [zq_rc]
/-- conditions -/
def zq_c1 (r : Int32 → Bool) (o : Option (Value × zk_H)) : Option (Bool × zk_H) := o.bind fun q => match q.1 with
  | .int x => some (r x, q.2)
  | _ => none
theorem ze_c1 (r : Int32 → Bool) : zk_c1 r F e h = zq_c1 r (F e h) := rfl
theorem zq_c11 (r : Int32 → Bool) (x : Int32) : zq_c1 r (some (.int x, h)) = some (r x, h) := rfl
def zq_c2 (r : Int32 → Int32 → Bool) (o : Option (Value × zk_H)) (G : zk_Xp) (e : List Value) : Option (Bool × zk_H) := o.bind fun q => (G e q.2).bind fun t => match q.1, t.1 with
  | .int x, .int y => some (r x y, t.2)
  | _, _ => none
def zq_c22 (r : Int32 → Int32 → Bool) (v : Value) (o : Option (Value × zk_H)) : Option (Bool × zk_H) := o.bind fun t => match v, t.1 with
  | .int x, .int y => some (r x y, t.2)
  | _, _ => none
theorem ze_c2 (r : Int32 → Int32 → Bool) : zk_c2 r F G e h = zq_c2 r (F e h) G e := rfl
theorem zq_c21 (r : Int32 → Int32 → Bool) (v : Value) : zq_c2 r (some (v, h)) G e = zq_c22 r v (G e h) := rfl
theorem zq_c23 (r : Int32 → Int32 → Bool) (x y : Int32) : zq_c22 r (.int x) (some (.int y, h)) = some (r x y, h) := rfl
def zq_and (o : Option (Bool × zk_H)) (d : zk_Cn) (e : List Value) : Option (Bool × zk_H) := o.bind fun q => if q.1 then d e q.2 else some (false, q.2)
theorem ze_and : zk_and c d e h = zq_and (c e h) d e := rfl
theorem zq_andt : zq_and (some (true, h)) d e = d e h := rfl
theorem zq_andf : zq_and (some (false, h)) d e = some (false, h) := rfl
def zq_or (o : Option (Bool × zk_H)) (d : zk_Cn) (e : List Value) : Option (Bool × zk_H) := o.bind fun q => if q.1 then some (true, q.2) else d e q.2
theorem ze_or : zk_or c d e h = zq_or (c e h) d e := rfl
theorem zq_ort : zq_or (some (true, h)) d e = some (true, h) := rfl
theorem zq_orf : zq_or (some (false, h)) d e = d e h := rfl
def zq_not (o : Option (Bool × zk_H)) : Option (Bool × zk_H) := o.bind fun q => some (!q.1, q.2)
theorem ze_not : zk_not c e h = zq_not (c e h) := rfl
theorem zq_not1 (b : Bool) : zq_not (some (b, h)) = some (!b, h) := rfl
def zq_it (o : Option (Bool × zk_H)) (F G : zk_Xp) (e : List Value) : Option (Value × zk_H) := o.bind fun q => if q.1 then F e q.2 else G e q.2
theorem ze_it : zk_it c F G e h = zq_it (c e h) F G e := rfl
theorem zq_itt : zq_it (some (true, h)) F G e = F e h := rfl
theorem zq_itf : zq_it (some (false, h)) F G e = G e h := rfl
theorem zq_itd (p : Prop) [Decidable p] : zq_it (some (decide p, h)) F G e = if p then F e h else G e h := by
  by_cases hp : p <;> simp [zq_it, hp]
/-- statements -/
theorem ze_skip : zk_skip e h = some (0, .null, e, h) := rfl
theorem ze_brk : zk_brk e h = some (1, .null, e, h) := rfl
theorem ze_cnt : zk_cnt e h = some (2, .null, e, h) := rfl
theorem ze_ret0 : zk_ret0 e h = some (3, .null, e, h) := rfl
def zq_seq (o : Option (Nat × Value × List Value × zk_H)) (t : zk_Sm) : Option (Nat × Value × List Value × zk_H) := o.bind fun q => if q.1 = 0 then t q.2.2.1 q.2.2.2 else some q
theorem ze_seq : zk_seq s t e h = zq_seq (s e h) t := rfl
theorem zq_seq0 (v : Value) : zq_seq (some (0, v, e, h)) t = t e h := rfl
theorem zq_seq1 (v : Value) : zq_seq (some (1, v, e, h)) t = some (1, v, e, h) := rfl
theorem zq_seq2 (v : Value) : zq_seq (some (2, v, e, h)) t = some (2, v, e, h) := rfl
theorem zq_seq3 (v : Value) : zq_seq (some (3, v, e, h)) t = some (3, v, e, h) := rfl
def zq_si (k : Nat) (o : Option (Value × zk_H)) (e : List Value) : Option (Nat × Value × List Value × zk_H) := o.bind fun q => match q.1 with
  | .int x => if zk_okS e k = true then some (0, .null, e.set k (.int x), q.2) else none
  | _ => none
theorem ze_si (k : Nat) : zk_si k F e h = zq_si k (F e h) e := rfl
theorem zq_si1 (k : Nat) (x : Int32) : zq_si k (some (.int x, h)) e = if zk_okS e k = true then some (0, .null, e.set k (.int x), h) else none := rfl
def zq_sr (k : Nat) (o : Option (Value × zk_H)) (e : List Value) : Option (Nat × Value × List Value × zk_H) := o.bind fun q => match q.1 with
  | .ref x => if zk_okS e k = true then some (0, .null, e.set k (.ref x), q.2) else none
  | _ => none
theorem ze_sr (k : Nat) : zk_sr k F e h = zq_sr k (F e h) e := rfl
theorem zq_sr1 (k : Nat) (x : Nat) : zq_sr k (some (.ref x, h)) e = if zk_okS e k = true then some (0, .null, e.set k (.ref x), h) else none := rfl
def zq_inc (k : Nat) (n : Int32) (o : Option Value) (e : List Value) (h : zk_H) : Option (Nat × Value × List Value × zk_H) := match o with
  | some (.int x) => if zk_okS e k = true then some (0, .null, e.set k (.int (x + n)), h) else none
  | _ => none
theorem ze_inc (k : Nat) (n : Int32) : zk_inc k n e h = zq_inc k n e[k]? e h := rfl
theorem zq_inc1 (k : Nat) (n x : Int32) : zq_inc k n (some (.int x)) e h = if zk_okS e k = true then some (0, .null, e.set k (.int (x + n)), h) else none := rfl
def zq_ok (o : Option Value) : Bool := match o with
  | some v => v.category == 1
  | none => true
theorem ze_ok0 : zk_okS e 0 = true := rfl
theorem ze_okS (k : Nat) : zk_okS e (k + 1) = zq_ok e[k]? := rfl
theorem zq_oki (x : Int32) : zq_ok (some (.int x)) = true := rfl
theorem zq_okr (x : Nat) : zq_ok (some (.ref x)) = true := rfl
theorem zq_oka (x : Nat) : zq_ok (some (.retAddr x)) = true := rfl
theorem zq_okf : zq_ok (some (.float 0)) = true := rfl
def zq_h (o : Option zk_H) (e : List Value) : Option (Nat × Value × List Value × zk_H) := o.bind fun h => some (0, .null, e, h)
theorem zq_h1 : zq_h (some h) e = some (0, .null, e, h) := rfl
def zq_pf (SH : List zk_Sh) (ci k : Nat) (isB : Bool) (o : Option (Value × zk_H)) (G : zk_Xp) (e : List Value) : Option (Nat × Value × List Value × zk_H) := o.bind fun q => (G e q.2).bind fun r => (zk_wrF SH ci k isB q.1 r.1 r.2).bind fun h3 => some (0, .null, e, h3)
def zq_pf2 (SH : List zk_Sh) (ci k : Nat) (isB : Bool) (v : Value) (o : Option (Value × zk_H)) (e : List Value) : Option (Nat × Value × List Value × zk_H) := o.bind fun r => (zk_wrF SH ci k isB v r.1 r.2).bind fun h3 => some (0, .null, e, h3)
theorem ze_pf (ci k : Nat) (isB : Bool) : zk_pf SH ci k isB F G e h = zq_pf SH ci k isB (F e h) G e := rfl
theorem zq_pf1 (ci k : Nat) (isB : Bool) (v : Value) : zq_pf SH ci k isB (some (v, h)) G e = zq_pf2 SH ci k isB v (G e h) e := rfl
theorem zq_pf3 (ci k : Nat) (isB : Bool) (v w : Value) : zq_pf2 SH ci k isB v (some (w, h)) e = zq_h (zk_wrF SH ci k isB v w h) e := rfl
def zq_pfo (SH : List zk_Sh) (ci k : Nat) (f : Value → Value → Option Value) (o : Option (Value × zk_H)) (G : zk_Xp) (e : List Value) : Option (Nat × Value × List Value × zk_H) := o.bind fun q => (zk_rdF SH ci k q.1 q.2).bind fun x => (G e q.2).bind fun r => (f x r.1).bind fun w => (zk_wrF SH ci k false q.1 w r.2).bind fun h3 => some (0, .null, e, h3)
def zq_pfo2 (SH : List zk_Sh) (ci k : Nat) (f : Value → Value → Option Value) (v : Value) (x : Option Value) (G : zk_Xp) (e : List Value) (h : zk_H) : Option (Nat × Value × List Value × zk_H) := x.bind fun x => (G e h).bind fun r => (f x r.1).bind fun w => (zk_wrF SH ci k false v w r.2).bind fun h3 => some (0, .null, e, h3)
def zq_pfo3 (SH : List zk_Sh) (ci k : Nat) (f : Value → Value → Option Value) (v x : Value) (o : Option (Value × zk_H)) (e : List Value) : Option (Nat × Value × List Value × zk_H) := o.bind fun r => (f x r.1).bind fun w => (zk_wrF SH ci k false v w r.2).bind fun h3 => some (0, .null, e, h3)
def zq_pfo4 (SH : List zk_Sh) (ci k : Nat) (v : Value) (o : Option Value) (e : List Value) (h : zk_H) : Option (Nat × Value × List Value × zk_H) := o.bind fun w => (zk_wrF SH ci k false v w h).bind fun h3 => some (0, .null, e, h3)
theorem ze_pfo (ci k : Nat) (f : Value → Value → Option Value) : zk_pfo SH ci k f F G e h = zq_pfo SH ci k f (F e h) G e := rfl
theorem zq_pfo1 (ci k : Nat) (f : Value → Value → Option Value) (v : Value) : zq_pfo SH ci k f (some (v, h)) G e = zq_pfo2 SH ci k f v (zk_rdF SH ci k v h) G e h := rfl
theorem zq_pfo21 (ci k : Nat) (f : Value → Value → Option Value) (v x : Value) : zq_pfo2 SH ci k f v (some x) G e h = zq_pfo3 SH ci k f v x (G e h) e := rfl
theorem zq_pfo31 (ci k : Nat) (f : Value → Value → Option Value) (v x w : Value) : zq_pfo3 SH ci k f v x (some (w, h)) e = zq_pfo4 SH ci k v (f x w) e h := rfl
theorem zq_pfo41 (ci k : Nat) (v w : Value) : zq_pfo4 SH ci k v (some w) e h = zq_h (zk_wrF SH ci k false v w h) e := rfl
def zq_as (SH : List zk_Sh) (o : Option (Value × zk_H)) (G K : zk_Xp) (e : List Value) : Option (Nat × Value × List Value × zk_H) := o.bind fun q => (G e q.2).bind fun r => (K e r.2).bind fun t => (zk_wrA SH q.1 r.1 t.1 t.2).bind fun h3 => some (0, .null, e, h3)
def zq_as2 (SH : List zk_Sh) (v : Value) (o : Option (Value × zk_H)) (K : zk_Xp) (e : List Value) : Option (Nat × Value × List Value × zk_H) := o.bind fun r => (K e r.2).bind fun t => (zk_wrA SH v r.1 t.1 t.2).bind fun h3 => some (0, .null, e, h3)
def zq_as3 (SH : List zk_Sh) (v i : Value) (o : Option (Value × zk_H)) (e : List Value) : Option (Nat × Value × List Value × zk_H) := o.bind fun t => (zk_wrA SH v i t.1 t.2).bind fun h3 => some (0, .null, e, h3)
theorem ze_as : zk_as SH F G K e h = zq_as SH (F e h) G K e := rfl
theorem zq_as1 (v : Value) : zq_as SH (some (v, h)) G K e = zq_as2 SH v (G e h) K e := rfl
theorem zq_as21 (v i : Value) : zq_as2 SH v (some (i, h)) K e = zq_as3 SH v i (K e h) e := rfl
theorem zq_as31 (v i w : Value) : zq_as3 SH v i (some (w, h)) e = zq_h (zk_wrA SH v i w h) e := rfl
def zq_aso (SH : List zk_Sh) (f : Value → Value → Option Value) (o : Option (Value × zk_H)) (G K : zk_Xp) (e : List Value) : Option (Nat × Value × List Value × zk_H) := o.bind fun q => (G e q.2).bind fun r => (zk_rdA SH q.1 r.1 r.2).bind fun x => (K e r.2).bind fun t => (f x t.1).bind fun w => (zk_wrA SH q.1 r.1 w t.2).bind fun h3 => some (0, .null, e, h3)
def zq_aso2 (SH : List zk_Sh) (f : Value → Value → Option Value) (v : Value) (o : Option (Value × zk_H)) (K : zk_Xp) (e : List Value) : Option (Nat × Value × List Value × zk_H) := o.bind fun r => (zk_rdA SH v r.1 r.2).bind fun x => (K e r.2).bind fun t => (f x t.1).bind fun w => (zk_wrA SH v r.1 w t.2).bind fun h3 => some (0, .null, e, h3)
def zq_aso3 (SH : List zk_Sh) (f : Value → Value → Option Value) (v i : Value) (o : Option Value) (K : zk_Xp) (e : List Value) (h : zk_H) : Option (Nat × Value × List Value × zk_H) := o.bind fun x => (K e h).bind fun t => (f x t.1).bind fun w => (zk_wrA SH v i w t.2).bind fun h3 => some (0, .null, e, h3)
def zq_aso4 (SH : List zk_Sh) (f : Value → Value → Option Value) (v i x : Value) (o : Option (Value × zk_H)) (e : List Value) : Option (Nat × Value × List Value × zk_H) := o.bind fun t => (f x t.1).bind fun w => (zk_wrA SH v i w t.2).bind fun h3 => some (0, .null, e, h3)
def zq_aso5 (SH : List zk_Sh) (v i : Value) (o : Option Value) (e : List Value) (h : zk_H) : Option (Nat × Value × List Value × zk_H) := o.bind fun w => (zk_wrA SH v i w h).bind fun h3 => some (0, .null, e, h3)
theorem ze_aso (f : Value → Value → Option Value) : zk_aso SH f F G K e h = zq_aso SH f (F e h) G K e := rfl
theorem zq_aso1 (f : Value → Value → Option Value) (v : Value) : zq_aso SH f (some (v, h)) G K e = zq_aso2 SH f v (G e h) K e := rfl
theorem zq_aso21 (f : Value → Value → Option Value) (v i : Value) : zq_aso2 SH f v (some (i, h)) K e = zq_aso3 SH f v i (zk_rdA SH v i h) K e h := rfl
theorem zq_aso31 (f : Value → Value → Option Value) (v i x : Value) : zq_aso3 SH f v i (some x) K e h = zq_aso4 SH f v i x (K e h) e := rfl
theorem zq_aso41 (f : Value → Value → Option Value) (v i x w : Value) : zq_aso4 SH f v i x (some (w, h)) e = zq_aso5 SH v i (f x w) e h := rfl
theorem zq_aso51 (v i w : Value) : zq_aso5 SH v i (some w) e h = zq_h (zk_wrA SH v i w h) e := rfl
def zq_if (o : Option (Bool × zk_H)) (s t : zk_Sm) (e : List Value) : Option (Nat × Value × List Value × zk_H) := o.bind fun q => if q.1 then s e q.2 else t e q.2
theorem ze_if : zk_if c s t e h = zq_if (c e h) s t e := rfl
theorem zq_ift : zq_if (some (true, h)) s t e = s e h := rfl
theorem zq_iff : zq_if (some (false, h)) s t e = t e h := rfl
theorem zq_ifd (p : Prop) [Decidable p] : zq_if (some (decide p, h)) s t e = if p then s e h else t e h := by
  by_cases hp : p <;> simp [zq_if, hp]
def zq_ret (o : Option (Value × zk_H)) (e : List Value) : Option (Nat × Value × List Value × zk_H) := o.bind fun q => match q.1 with
  | .int x => some (3, .int x, e, q.2)
  | _ => none
theorem ze_ret : zk_ret F e h = zq_ret (F e h) e := rfl
theorem zq_ret1 (x : Int32) : zq_ret (some (.int x, h)) e = some (3, .int x, e, h) := rfl
theorem ze_pk0 (x : Int32) (d : zk_Sm) : zk_pick x [] d = d := rfl
theorem ze_pk1 (x y : Int32) (s d : zk_Sm) (l : List (Int32 × zk_Sm)) : zk_pick x ((y, s) :: l) d = if x = y then s else zk_pick x l d := rfl
def zq_sw (o : Option (Value × zk_H)) (l : List (Int32 × zk_Sm)) (d : zk_Sm) (e : List Value) : Option (Nat × Value × List Value × zk_H) := o.bind fun q => match q.1 with
  | .int x => zk_pick x l d e q.2
  | _ => none
theorem ze_sw (l : List (Int32 × zk_Sm)) (d : zk_Sm) : zk_sw F l d e h = zq_sw (F e h) l d e := rfl
theorem zq_sw1 (x : Int32) (l : List (Int32 × zk_Sm)) (d : zk_Sm) : zq_sw (some (.int x, h)) l d e = zk_pick x l d e h := rfl
def zq_cps (SH : List zk_Sh) (o : Option (List Value × zk_H)) (e : List Value) : Option (Nat × Value × List Value × zk_H) := o.bind fun q => (zk_cpA SH q.1 q.2).bind fun h3 => some (0, .null, e, h3)
theorem ze_cps (Fs : List zk_Xp) : zk_cps SH Fs e h = zq_cps SH (zk_ev Fs e h) e := rfl
theorem zq_cps1 (l : List Value) : zq_cps SH (some (l, h)) e = zq_h (zk_cpA SH l h) e := rfl
/-- a turn of a loop -/
def zq_o1 (o : Option (Bool × zk_H)) (b u : zk_Sm) (e : List Value) : Option ((Nat × Value × List Value × zk_H) ⊕ (List Value × zk_H)) := o.bind fun q => if q.1 then (b e q.2).bind fun r => if r.1 = 1 then some (.inl (0, .null, r.2.2.1, r.2.2.2)) else if r.1 = 3 then some (.inl r) else (u r.2.2.1 r.2.2.2).bind fun t => if t.1 = 0 then some (.inr (t.2.2.1, t.2.2.2)) else none else some (.inl (0, .null, e, q.2))
def zq_o2 (o : Option (Nat × Value × List Value × zk_H)) (u : zk_Sm) : Option ((Nat × Value × List Value × zk_H) ⊕ (List Value × zk_H)) := o.bind fun r => if r.1 = 1 then some (.inl (0, .null, r.2.2.1, r.2.2.2)) else if r.1 = 3 then some (.inl r) else (u r.2.2.1 r.2.2.2).bind fun t => if t.1 = 0 then some (.inr (t.2.2.1, t.2.2.2)) else none
def zq_o3 (o : Option (Nat × Value × List Value × zk_H)) : Option ((Nat × Value × List Value × zk_H) ⊕ (List Value × zk_H)) := o.bind fun t => if t.1 = 0 then some (.inr (t.2.2.1, t.2.2.2)) else none
theorem ze_one (b u : zk_Sm) : zk_one c b u e h = zq_o1 (c e h) b u e := rfl
theorem zq_o1t (b u : zk_Sm) : zq_o1 (some (true, h)) b u e = zq_o2 (b e h) u := rfl
theorem zq_o1f (b u : zk_Sm) : zq_o1 (some (false, h)) b u e = some (.inl (0, .null, e, h)) := rfl
theorem zq_o20 (v : Value) (u : zk_Sm) : zq_o2 (some (0, v, e, h)) u = zq_o3 (u e h) := rfl
theorem zq_o22 (v : Value) (u : zk_Sm) : zq_o2 (some (2, v, e, h)) u = zq_o3 (u e h) := rfl
theorem zq_o21 (v : Value) (u : zk_Sm) : zq_o2 (some (1, v, e, h)) u = some (.inl (0, .null, e, h)) := rfl
theorem zq_o23 (v : Value) (u : zk_Sm) : zq_o2 (some (3, v, e, h)) u = some (.inl (3, v, e, h)) := rfl
theorem zq_o30 (v : Value) : zq_o3 (some (0, v, e, h)) = some (.inr (e, h)) := rfl
/-- a method -/
def zq_sem (ret : Option FieldType) (o : Option (Nat × Value × List Value × zk_H)) : Option (Value × zk_H) := o.bind fun q => if q.1 = 3 ∧ zk_rok ret q.2.1 = true then some (q.2.1, q.2.2.2) else none
def zq_len (b : Bool) (o : Option (Value × zk_H)) : Option (Value × zk_H) := if b then o else none
theorem zq_len1 (o : Option (Value × zk_H)) : zq_len true o = o := rfl
def zq_pad (n : Nat) : List Value := List.replicate n (.float 0)
theorem zq_pad0 : zq_pad 0 = [] := rfl
theorem zq_padS (n : Nat) : zq_pad (n + 1) = .float 0 :: zq_pad n := rfl
theorem ze_sem (nL : Nat) (ret : Option FieldType) (av : List Value) : zk_sem nL ret s av h = zq_len (decide ((zk_flat av).length ≤ nL)) (zq_sem ret (s (zk_flat av ++ zq_pad (nL - (zk_flat av).length)) h)) := by
  unfold zk_sem zq_len zq_sem zq_pad
  by_cases hl : (zk_flat av).length ≤ nL
  · rw [if_pos hl, decide_eq_true hl]; rfl
  · rw [if_neg hl, decide_eq_false hl]; rfl
theorem ze_fl0 : zk_flat [] = [] := rfl
theorem ze_flI (x : Int32) (l : List Value) : zk_flat (.int x :: l) = .int x :: zk_flat l := rfl
theorem ze_flR (x : Nat) (l : List Value) : zk_flat (.ref x :: l) = .ref x :: zk_flat l := rfl
theorem ze_flA (x : Nat) (l : List Value) : zk_flat (.retAddr x :: l) = .retAddr x :: zk_flat l := rfl
theorem ze_flL (x : Int64) (l : List Value) : zk_flat (.long x :: l) = .long x :: .float 0 :: zk_flat l := rfl
theorem zq_semi (x : Int32) : zq_sem (some .int) (some (3, .int x, e, h)) = some (.int x, h) := by
  simp [zq_sem, zk_rok, narrow]
theorem zq_semv : zq_sem none (some (3, .null, e, h)) = some (.null, h) := by
  simp [zq_sem, zk_rok]
theorem zq_semb0 : zq_sem (some .boolean) (some (3, .int (nI 0), e, h)) = some (.int (nI 0), h) := by
  have : nI 0 &&& 1 = nI 0 := by decide
  simp [zq_sem, zk_rok, narrow, this]
theorem zq_semb1 : zq_sem (some .boolean) (some (3, .int (nI 1), e, h)) = some (.int (nI 1), h) := by
  have : nI 1 &&& 1 = nI 1 := by decide
  simp [zq_sem, zk_rok, narrow, this]
end QE
