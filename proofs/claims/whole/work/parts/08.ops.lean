/-! expressions, conditions, statements: what they do, and that the bytes do it -/
abbrev zk_Xp : Type := List Value → zk_H → Option (Value × zk_H)
abbrev zk_Cn : Type := List Value → zk_H → Option (Bool × zk_H)
abbrev zk_Sm : Type := List Value → zk_H → Option (Nat × Value × List Value × zk_H)
def zk_E (SH : List zk_Sh) (T : zk_M) (n a b : Nat) (F : zk_Xp) : Prop := ∀ (κ : zk_K) (ω : zk_O), zk_ok T κ ω → ∀ (env stk : List Value) (h : zk_H) (v : Value) (h' : zk_H), (stk.map fun v => v.category).sum ≤ n → F env h = some (v, h') → zk_At κ ω b env (v :: stk) SH h' → zk_At κ ω a env stk SH h
def zk_ev (Fs : List zk_Xp) (env : List Value) (h : zk_H) : Option (List Value × zk_H) := match Fs with
  | [] => some ([], h)
  | F :: r => (F env h).bind fun q => (zk_ev r env q.2).bind fun t => some (q.1 :: t.1, t.2)
def zk_Es (SH : List zk_Sh) (T : zk_M) (n a b : Nat) (Fs : List zk_Xp) : Prop := ∀ (κ : zk_K) (ω : zk_O), zk_ok T κ ω → ∀ (env stk : List Value) (h : zk_H) (vs : List Value) (h' : zk_H), (stk.map fun v => v.category).sum ≤ n → zk_ev Fs env h = some (vs, h') → zk_At κ ω b env (vs.reverse ++ stk) SH h' → zk_At κ ω a env stk SH h
def zk_C (SH : List zk_Sh) (T : zk_M) (n a t f : Nat) (c : zk_Cn) : Prop := ∀ (κ : zk_K) (ω : zk_O), zk_ok T κ ω → ∀ (env stk : List Value) (h : zk_H) (b : Bool) (h' : zk_H), (stk.map fun v => v.category).sum ≤ n → c env h = some (b, h') → zk_At κ ω (if b then t else f) env stk SH h' → zk_At κ ω a env stk SH h
def zk_Rt (SH : List zk_Sh) (T : zk_M) (κ : zk_K) (ω : zk_O) (Rt : Value → zk_H → Prop) : Prop := (∀ (pc : Nat) (env : List Value) (x : Int32) (h : zk_H), decode T.2.1 pc = .ok (.ireturn, 1) → Rt (.int x) h → zk_At κ ω pc env [.int x] SH h) ∧ (∀ (pc : Nat) (env : List Value) (h : zk_H), decode T.2.1 pc = .ok (.return_, 1) → Rt .null h → zk_At κ ω pc env [] SH h)
def zk_S (SH : List zk_Sh) (T : zk_M) (a nx bk ct : Nat) (c : zk_Sm) : Prop := ∀ (κ : zk_K) (ω : zk_O), zk_ok T κ ω → ∀ (Rt : Value → zk_H → Prop), zk_Rt SH T κ ω Rt → ∀ (env : List Value) (h : zk_H) (o : Nat) (v : Value) (env' : List Value) (h' : zk_H), c env h = some (o, v, env', h') → (o = 0 → zk_At κ ω nx env' [] SH h') → (o = 1 → zk_At κ ω bk env' [] SH h') → (o = 2 → zk_At κ ω ct env' [] SH h') → (o = 3 → Rt v h') → zk_At κ ω a env [] SH h
/-! one instruction -/
def zk_I1 (T : zk_M) (n pc k : Nat) (f : Value → Option Value) : Prop := ∀ (κ : zk_K) (ω : zk_O), zk_ok T κ ω → ∀ (env stk : List Value) (SH : List zk_Sh) (h : zk_H) (x w : Value), (stk.map fun v => v.category).sum ≤ n → f x = some w → zk_At κ ω (pc + k) env (w :: stk) SH h → zk_At κ ω pc env (x :: stk) SH h
def zk_I2 (T : zk_M) (n pc k : Nat) (f : Value → Value → Option Value) : Prop := ∀ (κ : zk_K) (ω : zk_O), zk_ok T κ ω → ∀ (env stk : List Value) (SH : List zk_Sh) (h : zk_H) (x y w : Value), (stk.map fun v => v.category).sum ≤ n → f x y = some w → zk_At κ ω (pc + k) env (w :: stk) SH h → zk_At κ ω pc env (y :: x :: stk) SH h
def zk_J1 (T : zk_M) (pc t f : Nat) (r : Int32 → Bool) : Prop := ∀ (κ : zk_K) (ω : zk_O), zk_ok T κ ω → ∀ (env stk : List Value) (SH : List zk_Sh) (h : zk_H) (x : Int32), zk_At κ ω (if r x then t else f) env stk SH h → zk_At κ ω pc env (.int x :: stk) SH h
def zk_J2 (T : zk_M) (pc t f : Nat) (r : Int32 → Int32 → Bool) : Prop := ∀ (κ : zk_K) (ω : zk_O), zk_ok T κ ω → ∀ (env stk : List Value) (SH : List zk_Sh) (h : zk_H) (x y : Int32), zk_At κ ω (if r x y then t else f) env stk SH h → zk_At κ ω pc env (.int y :: .int x :: stk) SH h
def zk_fi (f : Int32 → Int32 → Int32) : Value → Value → Option Value := fun a b => match a, b with
  | .int x, .int y => some (.int (f x y))
  | _, _ => none
def zk_fl (f : Int64 → Int64 → Int64) : Value → Value → Option Value := fun a b => match a, b with
  | .long x, .long y => some (.long (f x y))
  | _, _ => none
def zk_fs (f : Int64 → Int32 → Int64) : Value → Value → Option Value := fun a b => match a, b with
  | .long x, .int y => some (.long (f x y))
  | _, _ => none
def zk_fd (f : Int32 → Int32 → Int32) : Value → Value → Option Value := fun a b => match a, b with
  | .int x, .int y => if y = 0 then none else some (.int (f x y))
  | _, _ => none
def zk_gi (f : Int32 → Int32) : Value → Option Value := fun a => match a with
  | .int x => some (.int (f x))
  | _ => none
def zk_gl (f : Int32 → Int64) : Value → Option Value := fun a => match a with
  | .int x => some (.long (f x))
  | _ => none
def zk_gn (f : Int64 → Int32) : Value → Option Value := fun a => match a with
  | .long x => some (.int (f x))
  | _ => none
theorem zk_o_iadd {T : zk_M} {n pc : Nat} (hd : decode T.2.1 pc = .ok (.iadd, 1)) : zk_I2 T n pc 1 (zk_fi fun x y => x + y) := by
  intro κ ω g env stk SH h a b w _ hf k
  cases a <;> cases b <;> simp only [zk_fi, Option.some.injEq, reduceCtorEq] at hf
  subst hf
  exact zk_iadd g hd k
theorem zk_o_isub {T : zk_M} {n pc : Nat} (hd : decode T.2.1 pc = .ok (.isub, 1)) : zk_I2 T n pc 1 (zk_fi fun x y => x - y) := by
  intro κ ω g env stk SH h a b w _ hf k
  cases a <;> cases b <;> simp only [zk_fi, Option.some.injEq, reduceCtorEq] at hf
  subst hf
  exact zk_isub g hd k
theorem zk_o_imul {T : zk_M} {n pc : Nat} (hd : decode T.2.1 pc = .ok (.imul, 1)) : zk_I2 T n pc 1 (zk_fi fun x y => x * y) := by
  intro κ ω g env stk SH h a b w _ hf k
  cases a <;> cases b <;> simp only [zk_fi, Option.some.injEq, reduceCtorEq] at hf
  subst hf
  exact zk_imul g hd k
theorem zk_o_iand {T : zk_M} {n pc : Nat} (hd : decode T.2.1 pc = .ok (.iand, 1)) : zk_I2 T n pc 1 (zk_fi fun x y => x &&& y) := by
  intro κ ω g env stk SH h a b w _ hf k
  cases a <;> cases b <;> simp only [zk_fi, Option.some.injEq, reduceCtorEq] at hf
  subst hf
  exact zk_iand g hd k
theorem zk_o_ior {T : zk_M} {n pc : Nat} (hd : decode T.2.1 pc = .ok (.ior, 1)) : zk_I2 T n pc 1 (zk_fi fun x y => x ||| y) := by
  intro κ ω g env stk SH h a b w _ hf k
  cases a <;> cases b <;> simp only [zk_fi, Option.some.injEq, reduceCtorEq] at hf
  subst hf
  exact zk_ior g hd k
theorem zk_o_ishl {T : zk_M} {n pc : Nat} (hd : decode T.2.1 pc = .ok (.ishl, 1)) : zk_I2 T n pc 1 (zk_fi fun x y => x <<< (y &&& 31)) := by
  intro κ ω g env stk SH h a b w _ hf k
  cases a <;> cases b <;> simp only [zk_fi, Option.some.injEq, reduceCtorEq] at hf
  subst hf
  exact zk_ishl g hd k
theorem zk_o_ishr {T : zk_M} {n pc : Nat} (hd : decode T.2.1 pc = .ok (.ishr, 1)) : zk_I2 T n pc 1 (zk_fi fun x y => x >>> (y &&& 31)) := by
  intro κ ω g env stk SH h a b w _ hf k
  cases a <;> cases b <;> simp only [zk_fi, Option.some.injEq, reduceCtorEq] at hf
  subst hf
  exact zk_ishr g hd k
theorem zk_o_iushr {T : zk_M} {n pc : Nat} (hd : decode T.2.1 pc = .ok (.iushr, 1)) : zk_I2 T n pc 1 (zk_fi fun x y => (x.toUInt32 >>> (y.toUInt32 &&& Int32.toUInt32 31)).toInt32) := by
  intro κ ω g env stk SH h a b w _ hf k
  cases a <;> cases b <;> simp only [zk_fi, Option.some.injEq, reduceCtorEq] at hf
  subst hf
  exact zk_iushr g hd k
theorem zk_o_idiv {T : zk_M} {n pc : Nat} (hd : decode T.2.1 pc = .ok (.idiv, 1)) : zk_I2 T n pc 1 (zk_fd fun x y => x / y) := by
  intro κ ω g env stk SH h a b w _ hf k
  cases a <;> cases b <;> simp only [zk_fd, reduceCtorEq] at hf
  rename_i x y
  by_cases hy : y = 0
  · simp [hy] at hf
  · rw [if_neg hy] at hf
    cases hf
    exact zk_idiv g hd hy k
theorem zk_o_irem {T : zk_M} {n pc : Nat} (hd : decode T.2.1 pc = .ok (.irem, 1)) : zk_I2 T n pc 1 (zk_fd fun x y => x - x / y * y) := by
  intro κ ω g env stk SH h a b w _ hf k
  cases a <;> cases b <;> simp only [zk_fd, reduceCtorEq] at hf
  rename_i x y
  by_cases hy : y = 0
  · simp [hy] at hf
  · rw [if_neg hy] at hf
    cases hf
    exact zk_irem g hd hy k
theorem zk_o_land {T : zk_M} {n pc : Nat} (hd : decode T.2.1 pc = .ok (.land, 1)) : zk_I2 T n pc 1 (zk_fl fun x y => x &&& y) := by
  intro κ ω g env stk SH h a b w _ hf k
  cases a <;> cases b <;> simp only [zk_fl, Option.some.injEq, reduceCtorEq] at hf
  subst hf
  exact zk_land g hd k
theorem zk_o_lor {T : zk_M} {n pc : Nat} (hd : decode T.2.1 pc = .ok (.lor, 1)) : zk_I2 T n pc 1 (zk_fl fun x y => x ||| y) := by
  intro κ ω g env stk SH h a b w _ hf k
  cases a <;> cases b <;> simp only [zk_fl, Option.some.injEq, reduceCtorEq] at hf
  subst hf
  exact zk_lor g hd k
theorem zk_o_lshl {T : zk_M} {n pc : Nat} (hd : decode T.2.1 pc = .ok (.lshl, 1)) : zk_I2 T n pc 1 (zk_fs fun x y => x <<< (y.toInt64 &&& 63)) := by
  intro κ ω g env stk SH h a b w _ hf k
  cases a <;> cases b <;> simp only [zk_fs, Option.some.injEq, reduceCtorEq] at hf
  subst hf
  exact zk_lshl g hd k
theorem zk_o_lushr {T : zk_M} {n pc : Nat} (hd : decode T.2.1 pc = .ok (.lushr, 1)) : zk_I2 T n pc 1 (zk_fs fun x y => (x.toUInt64 >>> (y.toInt64.toUInt64 &&& Int64.toUInt64 63)).toInt64) := by
  intro κ ω g env stk SH h a b w _ hf k
  cases a <;> cases b <;> simp only [zk_fs, Option.some.injEq, reduceCtorEq] at hf
  subst hf
  exact zk_lushr g hd k
theorem zk_o_ineg {T : zk_M} {n pc : Nat} (hd : decode T.2.1 pc = .ok (.ineg, 1)) : zk_I1 T n pc 1 (zk_gi fun x => -x) := by
  intro κ ω g env stk SH h a w _ hf k
  cases a <;> simp only [zk_gi, Option.some.injEq, reduceCtorEq] at hf
  subst hf
  exact zk_ineg g hd k
theorem zk_o_i2l {T : zk_M} {n pc : Nat} (hd : decode T.2.1 pc = .ok (.i2l, 1)) : zk_I1 T n pc 1 (zk_gl fun x => x.toInt64) := by
  intro κ ω g env stk SH h a w _ hf k
  cases a <;> simp only [zk_gl, Option.some.injEq, reduceCtorEq] at hf
  subst hf
  exact zk_i2l g hd k
theorem zk_o_l2i {T : zk_M} {n pc : Nat} (hd : decode T.2.1 pc = .ok (.l2i, 1)) : zk_I1 T n pc 1 (zk_gn fun x => x.toInt32) := by
  intro κ ω g env stk SH h a w _ hf k
  cases a <;> simp only [zk_gn, Option.some.injEq, reduceCtorEq] at hf
  subst hf
  exact zk_l2i g hd k
theorem zk_o_min {T : zk_M} {n pc i : Nat} (hd : decode T.2.1 pc = .ok (.invokestatic i, 3)) (hw : Cond.methodLink T.1 i Lib.Math.min.name ∈ zk_tbl ∧ Cond.static Lib.Math.min.name ∈ zk_tbl ∧ Cond.initialized "java/lang/Math" ∈ zk_tbl ∧ Cond.code Lib.Math.min.name Lib.Math.min.code 2 (some .int) ∈ zk_tbl) (hn : n ≤ 8) (hfr : 1 ≤ T.2.2.2.1) (hlo : 21 ≤ T.2.2.2.2) : zk_I2 T n pc 3 (zk_fi fun x y => if y < x then y else x) := by
  intro κ ω g env stk SH h a b w hst hf k
  cases a <;> cases b <;> simp only [zk_fi, Option.some.injEq, reduceCtorEq] at hf
  subst hf
  exact zk_min g hd hw (Nat.le_trans hst hn) hfr hlo k
theorem zk_o_max {T : zk_M} {n pc i : Nat} (hd : decode T.2.1 pc = .ok (.invokestatic i, 3)) (hw : Cond.methodLink T.1 i Lib.Math.max.name ∈ zk_tbl ∧ Cond.static Lib.Math.max.name ∈ zk_tbl ∧ Cond.initialized "java/lang/Math" ∈ zk_tbl ∧ Cond.code Lib.Math.max.name Lib.Math.max.code 2 (some .int) ∈ zk_tbl) (hn : n ≤ 8) (hfr : 1 ≤ T.2.2.2.1) (hlo : 21 ≤ T.2.2.2.2) : zk_I2 T n pc 3 (zk_fi fun x y => if x < y then y else x) := by
  intro κ ω g env stk SH h a b w hst hf k
  cases a <;> cases b <;> simp only [zk_fi, Option.some.injEq, reduceCtorEq] at hf
  subst hf
  exact zk_max g hd hw (Nat.le_trans hst hn) hfr hlo k
theorem zk_o_abs {T : zk_M} {n pc i : Nat} (hd : decode T.2.1 pc = .ok (.invokestatic i, 3)) (hw : Cond.methodLink T.1 i Lib.Math.abs.name ∈ zk_tbl ∧ Cond.static Lib.Math.abs.name ∈ zk_tbl ∧ Cond.initialized "java/lang/Math" ∈ zk_tbl ∧ Cond.code Lib.Math.abs.name Lib.Math.abs.code 1 (some .int) ∈ zk_tbl) (hn : n ≤ 8) (hfr : 1 ≤ T.2.2.2.1) (hlo : 21 ≤ T.2.2.2.2) : zk_I1 T n pc 3 (zk_gi fun x => if 0 ≤ x then x else 0 - x) := by
  intro κ ω g env stk SH h a w hst hf k
  cases a <;> simp only [zk_gi, Option.some.injEq, reduceCtorEq] at hf
  subst hf
  exact zk_abs g hd hw (Nat.le_trans hst hn) hfr hlo k
theorem zk_p2lt {T : zk_M} {pc t : Nat} {o : Int} (hd : decode T.2.1 pc = .ok (.if_icmp .lt o, 3)) (ht : (pc : Int) + o = (t : Int)) : zk_J2 T pc t (pc + 3) (fun x y => decide (x < y)) := by
  intro κ ω g env stk SH h x y k
  exact zk_j2lt g hd ht (fun q => by rw [if_pos (decide_eq_true q)] at k; exact k) (fun q => by rw [if_neg (by simpa using q)] at k; exact k)
theorem zk_n2lt {T : zk_M} {pc t : Nat} {o : Int} (hd : decode T.2.1 pc = .ok (.if_icmp .ge o, 3)) (ht : (pc : Int) + o = (t : Int)) : zk_J2 T pc (pc + 3) t (fun x y => decide (x < y)) := by
  intro κ ω g env stk SH h x y k
  refine zk_j2ge g hd ht (fun q => ?_) (fun q => ?_)
  · have q2 : ¬ (x < y) := by
      first | exact q | exact fun z => z q | exact Int32.not_lt.mpr q | exact Int32.not_le.mpr q
    rw [if_neg (by simpa using q2)] at k
    exact k
  · have q2 : x < y := by
      first | exact q | exact Decidable.not_not.mp q | exact Int32.not_lt.mp q | exact Int32.not_le.mp q
    rw [if_pos (decide_eq_true q2)] at k
    exact k
theorem zk_p1lt {T : zk_M} {pc t : Nat} {o : Int} (hd : decode T.2.1 pc = .ok (.ifCond .lt o, 3)) (ht : (pc : Int) + o = (t : Int)) : zk_J1 T pc t (pc + 3) (fun x => decide (x < 0)) := by
  intro κ ω g env stk SH h x k
  exact zk_j1lt g hd ht (fun q => by rw [if_pos (decide_eq_true q)] at k; exact k) (fun q => by rw [if_neg (by simpa using q)] at k; exact k)
theorem zk_n1lt {T : zk_M} {pc t : Nat} {o : Int} (hd : decode T.2.1 pc = .ok (.ifCond .ge o, 3)) (ht : (pc : Int) + o = (t : Int)) : zk_J1 T pc (pc + 3) t (fun x => decide (x < 0)) := by
  intro κ ω g env stk SH h x k
  refine zk_j1ge g hd ht (fun q => ?_) (fun q => ?_)
  · have q2 : ¬ (x < 0) := by
      first | exact q | exact fun z => z q | exact Int32.not_lt.mpr q | exact Int32.not_le.mpr q
    rw [if_neg (by simpa using q2)] at k
    exact k
  · have q2 : x < 0 := by
      first | exact q | exact Decidable.not_not.mp q | exact Int32.not_lt.mp q | exact Int32.not_le.mp q
    rw [if_pos (decide_eq_true q2)] at k
    exact k
theorem zk_p2le {T : zk_M} {pc t : Nat} {o : Int} (hd : decode T.2.1 pc = .ok (.if_icmp .le o, 3)) (ht : (pc : Int) + o = (t : Int)) : zk_J2 T pc t (pc + 3) (fun x y => decide (x ≤ y)) := by
  intro κ ω g env stk SH h x y k
  exact zk_j2le g hd ht (fun q => by rw [if_pos (decide_eq_true q)] at k; exact k) (fun q => by rw [if_neg (by simpa using q)] at k; exact k)
theorem zk_n2le {T : zk_M} {pc t : Nat} {o : Int} (hd : decode T.2.1 pc = .ok (.if_icmp .gt o, 3)) (ht : (pc : Int) + o = (t : Int)) : zk_J2 T pc (pc + 3) t (fun x y => decide (x ≤ y)) := by
  intro κ ω g env stk SH h x y k
  refine zk_j2gt g hd ht (fun q => ?_) (fun q => ?_)
  · have q2 : ¬ (x ≤ y) := by
      first | exact q | exact fun z => z q | exact Int32.not_lt.mpr q | exact Int32.not_le.mpr q
    rw [if_neg (by simpa using q2)] at k
    exact k
  · have q2 : x ≤ y := by
      first | exact q | exact Decidable.not_not.mp q | exact Int32.not_lt.mp q | exact Int32.not_le.mp q
    rw [if_pos (decide_eq_true q2)] at k
    exact k
theorem zk_p1le {T : zk_M} {pc t : Nat} {o : Int} (hd : decode T.2.1 pc = .ok (.ifCond .le o, 3)) (ht : (pc : Int) + o = (t : Int)) : zk_J1 T pc t (pc + 3) (fun x => decide (x ≤ 0)) := by
  intro κ ω g env stk SH h x k
  exact zk_j1le g hd ht (fun q => by rw [if_pos (decide_eq_true q)] at k; exact k) (fun q => by rw [if_neg (by simpa using q)] at k; exact k)
theorem zk_n1le {T : zk_M} {pc t : Nat} {o : Int} (hd : decode T.2.1 pc = .ok (.ifCond .gt o, 3)) (ht : (pc : Int) + o = (t : Int)) : zk_J1 T pc (pc + 3) t (fun x => decide (x ≤ 0)) := by
  intro κ ω g env stk SH h x k
  refine zk_j1gt g hd ht (fun q => ?_) (fun q => ?_)
  · have q2 : ¬ (x ≤ 0) := by
      first | exact q | exact fun z => z q | exact Int32.not_lt.mpr q | exact Int32.not_le.mpr q
    rw [if_neg (by simpa using q2)] at k
    exact k
  · have q2 : x ≤ 0 := by
      first | exact q | exact Decidable.not_not.mp q | exact Int32.not_lt.mp q | exact Int32.not_le.mp q
    rw [if_pos (decide_eq_true q2)] at k
    exact k
theorem zk_p2gt {T : zk_M} {pc t : Nat} {o : Int} (hd : decode T.2.1 pc = .ok (.if_icmp .gt o, 3)) (ht : (pc : Int) + o = (t : Int)) : zk_J2 T pc t (pc + 3) (fun x y => decide (y < x)) := by
  intro κ ω g env stk SH h x y k
  exact zk_j2gt g hd ht (fun q => by rw [if_pos (decide_eq_true q)] at k; exact k) (fun q => by rw [if_neg (by simpa using q)] at k; exact k)
theorem zk_n2gt {T : zk_M} {pc t : Nat} {o : Int} (hd : decode T.2.1 pc = .ok (.if_icmp .le o, 3)) (ht : (pc : Int) + o = (t : Int)) : zk_J2 T pc (pc + 3) t (fun x y => decide (y < x)) := by
  intro κ ω g env stk SH h x y k
  refine zk_j2le g hd ht (fun q => ?_) (fun q => ?_)
  · have q2 : ¬ (y < x) := by
      first | exact q | exact fun z => z q | exact Int32.not_lt.mpr q | exact Int32.not_le.mpr q
    rw [if_neg (by simpa using q2)] at k
    exact k
  · have q2 : y < x := by
      first | exact q | exact Decidable.not_not.mp q | exact Int32.not_lt.mp q | exact Int32.not_le.mp q
    rw [if_pos (decide_eq_true q2)] at k
    exact k
theorem zk_p1gt {T : zk_M} {pc t : Nat} {o : Int} (hd : decode T.2.1 pc = .ok (.ifCond .gt o, 3)) (ht : (pc : Int) + o = (t : Int)) : zk_J1 T pc t (pc + 3) (fun x => decide (0 < x)) := by
  intro κ ω g env stk SH h x k
  exact zk_j1gt g hd ht (fun q => by rw [if_pos (decide_eq_true q)] at k; exact k) (fun q => by rw [if_neg (by simpa using q)] at k; exact k)
theorem zk_n1gt {T : zk_M} {pc t : Nat} {o : Int} (hd : decode T.2.1 pc = .ok (.ifCond .le o, 3)) (ht : (pc : Int) + o = (t : Int)) : zk_J1 T pc (pc + 3) t (fun x => decide (0 < x)) := by
  intro κ ω g env stk SH h x k
  refine zk_j1le g hd ht (fun q => ?_) (fun q => ?_)
  · have q2 : ¬ (0 < x) := by
      first | exact q | exact fun z => z q | exact Int32.not_lt.mpr q | exact Int32.not_le.mpr q
    rw [if_neg (by simpa using q2)] at k
    exact k
  · have q2 : 0 < x := by
      first | exact q | exact Decidable.not_not.mp q | exact Int32.not_lt.mp q | exact Int32.not_le.mp q
    rw [if_pos (decide_eq_true q2)] at k
    exact k
theorem zk_p2ge {T : zk_M} {pc t : Nat} {o : Int} (hd : decode T.2.1 pc = .ok (.if_icmp .ge o, 3)) (ht : (pc : Int) + o = (t : Int)) : zk_J2 T pc t (pc + 3) (fun x y => decide (y ≤ x)) := by
  intro κ ω g env stk SH h x y k
  exact zk_j2ge g hd ht (fun q => by rw [if_pos (decide_eq_true q)] at k; exact k) (fun q => by rw [if_neg (by simpa using q)] at k; exact k)
theorem zk_n2ge {T : zk_M} {pc t : Nat} {o : Int} (hd : decode T.2.1 pc = .ok (.if_icmp .lt o, 3)) (ht : (pc : Int) + o = (t : Int)) : zk_J2 T pc (pc + 3) t (fun x y => decide (y ≤ x)) := by
  intro κ ω g env stk SH h x y k
  refine zk_j2lt g hd ht (fun q => ?_) (fun q => ?_)
  · have q2 : ¬ (y ≤ x) := by
      first | exact q | exact fun z => z q | exact Int32.not_lt.mpr q | exact Int32.not_le.mpr q
    rw [if_neg (by simpa using q2)] at k
    exact k
  · have q2 : y ≤ x := by
      first | exact q | exact Decidable.not_not.mp q | exact Int32.not_lt.mp q | exact Int32.not_le.mp q
    rw [if_pos (decide_eq_true q2)] at k
    exact k
theorem zk_p1ge {T : zk_M} {pc t : Nat} {o : Int} (hd : decode T.2.1 pc = .ok (.ifCond .ge o, 3)) (ht : (pc : Int) + o = (t : Int)) : zk_J1 T pc t (pc + 3) (fun x => decide (0 ≤ x)) := by
  intro κ ω g env stk SH h x k
  exact zk_j1ge g hd ht (fun q => by rw [if_pos (decide_eq_true q)] at k; exact k) (fun q => by rw [if_neg (by simpa using q)] at k; exact k)
theorem zk_n1ge {T : zk_M} {pc t : Nat} {o : Int} (hd : decode T.2.1 pc = .ok (.ifCond .lt o, 3)) (ht : (pc : Int) + o = (t : Int)) : zk_J1 T pc (pc + 3) t (fun x => decide (0 ≤ x)) := by
  intro κ ω g env stk SH h x k
  refine zk_j1lt g hd ht (fun q => ?_) (fun q => ?_)
  · have q2 : ¬ (0 ≤ x) := by
      first | exact q | exact fun z => z q | exact Int32.not_lt.mpr q | exact Int32.not_le.mpr q
    rw [if_neg (by simpa using q2)] at k
    exact k
  · have q2 : 0 ≤ x := by
      first | exact q | exact Decidable.not_not.mp q | exact Int32.not_lt.mp q | exact Int32.not_le.mp q
    rw [if_pos (decide_eq_true q2)] at k
    exact k
theorem zk_p2eq {T : zk_M} {pc t : Nat} {o : Int} (hd : decode T.2.1 pc = .ok (.if_icmp .eq o, 3)) (ht : (pc : Int) + o = (t : Int)) : zk_J2 T pc t (pc + 3) (fun x y => decide (x = y)) := by
  intro κ ω g env stk SH h x y k
  exact zk_j2eq g hd ht (fun q => by rw [if_pos (decide_eq_true q)] at k; exact k) (fun q => by rw [if_neg (by simpa using q)] at k; exact k)
theorem zk_n2eq {T : zk_M} {pc t : Nat} {o : Int} (hd : decode T.2.1 pc = .ok (.if_icmp .ne o, 3)) (ht : (pc : Int) + o = (t : Int)) : zk_J2 T pc (pc + 3) t (fun x y => decide (x = y)) := by
  intro κ ω g env stk SH h x y k
  refine zk_j2ne g hd ht (fun q => ?_) (fun q => ?_)
  · have q2 : ¬ (x = y) := by
      first | exact q | exact fun z => z q | exact Int32.not_lt.mpr q | exact Int32.not_le.mpr q
    rw [if_neg (by simpa using q2)] at k
    exact k
  · have q2 : x = y := by
      first | exact q | exact Decidable.not_not.mp q | exact Int32.not_lt.mp q | exact Int32.not_le.mp q
    rw [if_pos (decide_eq_true q2)] at k
    exact k
theorem zk_p1eq {T : zk_M} {pc t : Nat} {o : Int} (hd : decode T.2.1 pc = .ok (.ifCond .eq o, 3)) (ht : (pc : Int) + o = (t : Int)) : zk_J1 T pc t (pc + 3) (fun x => decide (x = 0)) := by
  intro κ ω g env stk SH h x k
  exact zk_j1eq g hd ht (fun q => by rw [if_pos (decide_eq_true q)] at k; exact k) (fun q => by rw [if_neg (by simpa using q)] at k; exact k)
theorem zk_n1eq {T : zk_M} {pc t : Nat} {o : Int} (hd : decode T.2.1 pc = .ok (.ifCond .ne o, 3)) (ht : (pc : Int) + o = (t : Int)) : zk_J1 T pc (pc + 3) t (fun x => decide (x = 0)) := by
  intro κ ω g env stk SH h x k
  refine zk_j1ne g hd ht (fun q => ?_) (fun q => ?_)
  · have q2 : ¬ (x = 0) := by
      first | exact q | exact fun z => z q | exact Int32.not_lt.mpr q | exact Int32.not_le.mpr q
    rw [if_neg (by simpa using q2)] at k
    exact k
  · have q2 : x = 0 := by
      first | exact q | exact Decidable.not_not.mp q | exact Int32.not_lt.mp q | exact Int32.not_le.mp q
    rw [if_pos (decide_eq_true q2)] at k
    exact k
theorem zk_p2ne {T : zk_M} {pc t : Nat} {o : Int} (hd : decode T.2.1 pc = .ok (.if_icmp .ne o, 3)) (ht : (pc : Int) + o = (t : Int)) : zk_J2 T pc t (pc + 3) (fun x y => decide (¬ x = y)) := by
  intro κ ω g env stk SH h x y k
  exact zk_j2ne g hd ht (fun q => by rw [if_pos (decide_eq_true q)] at k; exact k) (fun q => by rw [if_neg (by simpa using q)] at k; exact k)
theorem zk_n2ne {T : zk_M} {pc t : Nat} {o : Int} (hd : decode T.2.1 pc = .ok (.if_icmp .eq o, 3)) (ht : (pc : Int) + o = (t : Int)) : zk_J2 T pc (pc + 3) t (fun x y => decide (¬ x = y)) := by
  intro κ ω g env stk SH h x y k
  refine zk_j2eq g hd ht (fun q => ?_) (fun q => ?_)
  · have q2 : ¬ (¬ x = y) := by
      first | exact q | exact fun z => z q | exact Int32.not_lt.mpr q | exact Int32.not_le.mpr q
    rw [if_neg (by simpa using q2)] at k
    exact k
  · have q2 : ¬ x = y := by
      first | exact q | exact Decidable.not_not.mp q | exact Int32.not_lt.mp q | exact Int32.not_le.mp q
    rw [if_pos (decide_eq_true q2)] at k
    exact k
theorem zk_p1ne {T : zk_M} {pc t : Nat} {o : Int} (hd : decode T.2.1 pc = .ok (.ifCond .ne o, 3)) (ht : (pc : Int) + o = (t : Int)) : zk_J1 T pc t (pc + 3) (fun x => decide (¬ x = 0)) := by
  intro κ ω g env stk SH h x k
  exact zk_j1ne g hd ht (fun q => by rw [if_pos (decide_eq_true q)] at k; exact k) (fun q => by rw [if_neg (by simpa using q)] at k; exact k)
theorem zk_n1ne {T : zk_M} {pc t : Nat} {o : Int} (hd : decode T.2.1 pc = .ok (.ifCond .eq o, 3)) (ht : (pc : Int) + o = (t : Int)) : zk_J1 T pc (pc + 3) t (fun x => decide (¬ x = 0)) := by
  intro κ ω g env stk SH h x k
  refine zk_j1eq g hd ht (fun q => ?_) (fun q => ?_)
  · have q2 : ¬ (¬ x = 0) := by
      first | exact q | exact fun z => z q | exact Int32.not_lt.mpr q | exact Int32.not_le.mpr q
    rw [if_neg (by simpa using q2)] at k
    exact k
  · have q2 : ¬ x = 0 := by
      first | exact q | exact Decidable.not_not.mp q | exact Int32.not_lt.mp q | exact Int32.not_le.mp q
    rw [if_pos (decide_eq_true q2)] at k
    exact k
