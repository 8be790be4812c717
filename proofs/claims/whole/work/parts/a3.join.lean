/-! joined: what it is -/
def qab (a b : Nat) : Nat := if a ≤ b then b - a else a - b
def qF (W : qW) (i j : Nat) : Bool := match W.bA[i]?, W.bB[j]? with
  | some x, some y => decide (x.1 = y.1) && decide (qab x.2.1 y.2.1 ≤ 2) && decide (qab x.2.2 y.2.2 ≤ W.drift)
  | _, _ => false
def qD (W : qW) (i j : Nat) : Nat := match W.bA[i]?, W.bB[j]? with
  | some x, some y => qab x.2.2 y.2.2
  | _, _ => 0
def qbt (x y : Nat × Nat) : Bool := decide (y.1 < x.1 ∨ (x.1 = y.1 ∧ x.2 < y.2))
def qVj (f : Nat → Bool) (c : Nat → Nat × Nat) (x0 : Nat × Nat) : Nat → Nat × Nat
  | 0 => x0
  | j + 1 => if f j = true ∧ qbt (c j) (qVj f c x0 j) = true then c j else qVj f c x0 j
def qfree (W : qW) (i : Nat) (set j : Nat) : Bool := qF W i j && !set.testBit j
def qV (W : qW) : Nat → Nat → Nat × Nat
  | 0, _ => (0, 0)
  | k + 1, set => qVj (qfree W (W.bA.length - (k + 1)) set) (fun j => ((qV W k (set ||| 2 ^ j)).1 + 1, (qV W k (set ||| 2 ^ j)).2 + qD W (W.bA.length - (k + 1)) j)) (qV W k set) W.bB.length
def qcand (W : qW) (i set j : Nat) : Nat × Nat := ((qV W (W.bA.length - (i + 1)) (set ||| 2 ^ j)).1 + 1, (qV W (W.bA.length - (i + 1)) (set ||| 2 ^ j)).2 + qD W i j)
def qenc (w : Nat) (x : Nat × Nat) : Nat := w * x.1 - x.2
def qgd (k : Nat) (x : Nat × Nat) : Prop := x.1 ≤ k ∧ x.2 ≤ 20 * x.1
theorem qF_D {W : qW} (hf : qWf W) {i j : Nat} (h : qF W i j = true) : qD W i j ≤ 20 := by
  have hd := hf.drift
  unfold qF at h
  unfold qD
  cases h1 : W.bA[i]? with
  | none => rw [h1] at h; simp at h
  | some x =>
    cases h2 : W.bB[j]? with
    | none => rw [h1, h2] at h; simp at h
    | some y =>
      rw [h1, h2] at h
      simp at h
      simp only
      omega
theorem qVj_gd {f : Nat → Bool} {c : Nat → Nat × Nat} {x0 : Nat × Nat} {k : Nat} (h0 : qgd k x0) (hc : ∀ j, f j = true → qgd k (c j)) : ∀ m, qgd k (qVj f c x0 m)
  | 0 => h0
  | m + 1 => by
    unfold qVj
    split
    · rename_i hz; exact hc m hz.1
    · exact qVj_gd h0 hc m
theorem qV_gd {W : qW} (hf : qWf W) : ∀ k set, qgd k (qV W k set)
  | 0, set => ⟨Nat.le_refl _, Nat.le_refl _⟩
  | k + 1, set => by
    unfold qV
    refine qVj_gd ?_ ?_ _
    · have := qV_gd hf k set
      exact ⟨by have := this.1; omega, this.2⟩
    · intro j hj
      have h1 := qV_gd hf k (set ||| 2 ^ j)
      have h2 : qF W (W.bA.length - (k + 1)) j = true := by
        unfold qfree at hj; simp at hj; exact hj.1
      have h3 := qF_D hf h2
      exact ⟨by have := h1.1; simp only; omega, by have := h1.2; simp only; omega⟩
theorem qV_i {W : qW} {i : Nat} (hi : i < W.bA.length) (set : Nat) : qV W (W.bA.length - i) set = qVj (qfree W i set) (qcand W i set) (qV W (W.bA.length - (i + 1)) set) W.bB.length := by
  rw [show W.bA.length - i = (W.bA.length - (i + 1)) + 1 by omega, qV]
  rw [show W.bA.length - (W.bA.length - (i + 1) + 1) = i by omega]
  rfl
theorem qcand_gd {W : qW} (hf : qWf W) {i set j : Nat} (hi : i < W.bA.length) (h : qfree W i set j = true) : qgd (W.bA.length - i) (qcand W i set j) := by
  have h1 := qV_gd hf (W.bA.length - (i + 1)) (set ||| 2 ^ j)
  have h2 : qF W i j = true := by
    unfold qfree at h; simp at h; exact h.1
  have h3 := qF_D hf h2
  unfold qcand
  exact ⟨by have := h1.1; simp only; omega, by have := h1.2; simp only; omega⟩
theorem qVp_gd {W : qW} (hf : qWf W) {i : Nat} (hi : i < W.bA.length) (set m : Nat) : qgd (W.bA.length - i) (qVj (qfree W i set) (qcand W i set) (qV W (W.bA.length - (i + 1)) set) m) := by
  refine qVj_gd ?_ (fun j hj => qcand_gd hf hi hj) m
  have := qV_gd hf (W.bA.length - (i + 1)) set
  exact ⟨by have := this.1; omega, this.2⟩
theorem qenc1_lt {x y : Nat × Nat} (hx : qgd 7 x) (hy : qgd 7 y) : qenc 1000 y < qenc 1000 x ↔ qbt x y = true := by
  unfold qgd at hx hy
  unfold qenc qbt
  simp only [decide_eq_true_eq]
  omega
theorem qenc2_lt {x y : Nat × Nat} (hx : qgd 7 x) (hy : qgd 7 y) : qenc 10000 y < qenc 10000 x ↔ qbt x y = true := by
  unfold qgd at hx hy
  unfold qenc qbt
  simp only [decide_eq_true_eq]
  omega
theorem qenc1_eq {x y : Nat × Nat} (hx : qgd 7 x) (hy : qgd 7 y) : qenc 1000 x = qenc 1000 y ↔ x = y := by
  unfold qgd at hx hy
  unfold qenc
  constructor
  · intro h; exact Prod.ext (by omega) (by omega)
  · intro h; rw [h]
theorem qenc2_eq {x y : Nat × Nat} (hx : qgd 7 x) (hy : qgd 7 y) : qenc 10000 x = qenc 10000 y ↔ x = y := by
  unfold qgd at hx hy
  unfold qenc
  constructor
  · intro h; exact Prod.ext (by omega) (by omega)
  · intro h; rw [h]
theorem qenc1_le {x : Nat × Nat} (hx : qgd 7 x) : qenc 1000 x ≤ 100000 := by
  unfold qgd at hx; unfold qenc; omega
theorem qenc2_le {x : Nat × Nat} (hx : qgd 7 x) : qenc 10000 x ≤ 100000 := by
  unfold qgd at hx; unfold qenc; omega
theorem qenc1_c {W : qW} (hf : qWf W) {i set j : Nat} (hi : i < W.bA.length) (h : qfree W i set j = true) : 1000 - qD W i j + qenc 1000 (qV W (W.bA.length - (i + 1)) (set ||| 2 ^ j)) = qenc 1000 (qcand W i set j) ∧ qD W i j ≤ 20 := by
  have h1 := qV_gd hf (W.bA.length - (i + 1)) (set ||| 2 ^ j)
  have h2 : qF W i j = true := by
    unfold qfree at h; simp at h; exact h.1
  have h3 := qF_D hf h2
  unfold qgd at h1
  unfold qcand qenc
  constructor <;> (try simp only) <;> omega
theorem qenc2_c {W : qW} (hf : qWf W) {i set j : Nat} (hi : i < W.bA.length) (h : qfree W i set j = true) : 10000 - qD W i j + qenc 10000 (qV W (W.bA.length - (i + 1)) (set ||| 2 ^ j)) = qenc 10000 (qcand W i set j) ∧ qD W i j ≤ 20 := by
  have h1 := qV_gd hf (W.bA.length - (i + 1)) (set ||| 2 ^ j)
  have h2 : qF W i j = true := by
    unfold qfree at h; simp at h; exact h.1
  have h3 := qF_D hf h2
  unfold qgd at h1
  unfold qcand qenc
  constructor <;> (try simp only) <;> omega
theorem qgd7 {k : Nat} {x : Nat × Nat} (h : qgd k x) (hk : k ≤ 7) : qgd 7 x := ⟨Nat.le_trans h.1 hk, h.2⟩
theorem qn_bit : ∀ s, s < 128 → ∀ j, j < 7 → (nI s >>> (nI j &&& nI 31)) &&& nI 1 = nI (if s.testBit j then 1 else 0) := by decide +kernel
theorem qset_lt {s j m : Nat} (hs : s < 2 ^ m) (hj : j < m) : s ||| 2 ^ j < 2 ^ m := Nat.or_lt_two_pow hs (Nat.pow_lt_pow_right (by omega) hj)
theorem qpow7 {m : Nat} (hm : m ≤ 7) : 2 ^ m ≤ 128 := by
  have : 2 ^ m ≤ 2 ^ 7 := Nat.pow_le_pow_right (by omega) hm
  exact this
/-- the least that fits, from either end -/
def qlo (f : Nat → Bool) : Nat → Option Nat
  | 0 => none
  | j + 1 => match qlo f j with
    | some x => some x
    | none => if f j then some j else none
def qhi (f : Nat → Bool) (m : Nat) : Nat → Option Nat
  | 0 => none
  | t + 1 => if f (m - (t + 1)) then some (m - (t + 1)) else qhi f m t
theorem qlo_hi (f : Nat → Bool) (m : Nat) : ∀ t, t ≤ m → (match qlo f (m - t) with | some x => some x | none => qhi f m t) = qlo f m
  | 0, _ => by
    simp only [Nat.sub_zero, qhi]
    cases qlo f m <;> rfl
  | t + 1, ht => by
    have ih := qlo_hi f m t (by omega)
    rw [← ih, show m - t = (m - (t + 1)) + 1 by omega]
    simp only [qlo, qhi]
    cases qlo f (m - (t + 1)) with
    | some x => rfl
    | none => simp only; split <;> rfl
theorem qhi_lo (f : Nat → Bool) (m : Nat) : qhi f m m = qlo f m := by
  have := qlo_hi f m m (Nat.le_refl _)
  rw [Nat.sub_self] at this
  exact this
theorem qlo_lt {f : Nat → Bool} : ∀ {m j : Nat}, qlo f m = some j → j < m ∧ f j = true
  | 0, j, h => by simp [qlo] at h
  | m + 1, j, h => by
    unfold qlo at h
    cases hq : qlo f m with
    | some x => rw [hq] at h; simp at h; subst h; have := qlo_lt hq; exact ⟨by omega, this.2⟩
    | none =>
      rw [hq] at h
      simp only at h
      split at h
      · simp at h; subst h; exact ⟨by omega, by assumption⟩
      · cases h
def qtkf (W : qW) (i set j : Nat) : Bool := qfree W i set j && decide (qcand W i set j = qV W (W.bA.length - i) set)
def qfol (W : qW) : Nat → Nat × Nat × Nat
  | 0 => (0, 0, 0)
  | i + 1 => match qlo (qtkf W i (qfol W i).1) W.bB.length with
    | none => qfol W i
    | some j => ((qfol W i).1 ||| 2 ^ j, (qfol W i).2.1 + 1, (qfol W i).2.2 + qD W i j)
theorem qfol_lt {W : qW} : ∀ i, (qfol W i).1 < 2 ^ W.bB.length
  | 0 => Nat.two_pow_pos _
  | i + 1 => by
    unfold qfol
    cases h : qlo (qtkf W i (qfol W i).1) W.bB.length with
    | none => exact qfol_lt i
    | some j => exact qset_lt (qfol_lt i) (qlo_lt h).1
