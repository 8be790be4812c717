-- shares by coming: what each plug gets
set_option maxRecDepth 4000
set_option maxHeartbeats 4000000
def qpk1 (a t : Nat → Nat) (D : Nat) (b : Option Nat) (p : Nat) : Option Nat :=
  if 0 < a p ∧ D.testBit p = false then (match b with | none => some p | some q => if t p < t q then some p else some q) else b
def qpk (a t : Nat → Nat) (D : Nat) (l : List Nat) : Option Nat := l.foldl (qpk1 a t D) none
def qf1 (a t : Nat → Nat) (l : List Nat) (x : qSh) : qSh :=
  match qpk a t x.2.1 l with
  | none => x
  | some p => (x.1 - (if x.1 < a p then x.1 else a p), x.2.1 ||| 2 ^ p, qst x.2.2 p (if x.1 < a p then x.1 else a p))
def qfn (a t : Nat → Nat) (l : List Nat) (P : Nat) : Nat → qSh
  | 0 => (P, 0, fun _ => 0)
  | n + 1 => qf1 a t l (qfn a t l P n)
def qfv (a t : Nat → Nat) (l : List Nat) (P : Nat) : Nat → Nat := (qfn a t l P 16).2.2
theorem qfv_filter (a t : Nat → Nat) (f : Nat → Bool) (l : List Nat) (P : Nat) : qfv (fun p => if f p = true then a p else 0) t l P = qfv a t (l.filter f) P := by
  have e1 : ∀ D x, l.foldl (qpk1 (fun p => if f p = true then a p else 0) t D) x = (l.filter f).foldl (qpk1 a t D) x := fun D => qfs_filter _ _ f (fun x p h => by simp only [qpk1, h, if_true]) (fun x p h => by simp [qpk1, h]) l
  have e0 : ∀ D p, l.foldl (qpk1 (fun p => if f p = true then a p else 0) t D) none = some p → f p = true := by
    intro D
    have : ∀ (l : List Nat) (b : Option Nat), (∀ p, b = some p → f p = true) → ∀ p, l.foldl (qpk1 (fun p => if f p = true then a p else 0) t D) b = some p → f p = true := by
      intro l
      induction l with
      | nil => intro b hb p hp; exact hb p hp
      | cons q l ih =>
        intro b hb p hp
        rw [List.foldl_cons] at hp
        refine ih _ ?_ p hp
        intro r hr
        unfold qpk1 at hr
        split at hr
        · rename_i hq
          have hfq : f q = true := by
            by_cases hz : f q = true
            · exact hz
            · simp only [if_neg hz] at hq; omega
          split at hr
          · cases hr; exact hfq
          · split at hr
            · cases hr; exact hfq
            · exact hb r hr
        · exact hb r hr
    exact this l none (fun p hp => by cases hp)
  have e2 : ∀ x, qf1 (fun p => if f p = true then a p else 0) t l x = qf1 a t (l.filter f) x := by
    intro x
    unfold qf1 qpk
    have h0 := e0 x.2.1
    rw [e1] at h0 ⊢
    cases hz : (l.filter f).foldl (qpk1 a t x.2.1) none with
    | none => rfl
    | some p => simp only [h0 p hz, if_true]
  have e3 : ∀ n, qfn (fun p => if f p = true then a p else 0) t l P n = qfn a t (l.filter f) P n := by
    intro n
    induction n with
    | zero => rfl
    | succ n ih => rw [qfn, qfn, ih, e2]
  unfold qfv
  rw [e3]
/-! what is picked -/
theorem qpk_mem {a t : Nat → Nat} {D : Nat} : ∀ (l : List Nat) (b : Option Nat) (p : Nat), l.foldl (qpk1 a t D) b = some p → b = some p ∨ (p ∈ l ∧ 0 < a p ∧ D.testBit p = false)
  | [], b, p, h => Or.inl h
  | q :: l, b, p, h => by
    rw [List.foldl_cons] at h
    rcases qpk_mem l _ p h with h1 | ⟨h1, h2⟩
    · unfold qpk1 at h1
      split at h1
      · rename_i hq
        split at h1
        · cases h1; exact Or.inr ⟨List.mem_cons_self, hq⟩
        · split at h1
          · cases h1; exact Or.inr ⟨List.mem_cons_self, hq⟩
          · exact Or.inl h1
      · exact Or.inl h1
    · exact Or.inr ⟨List.mem_cons_of_mem _ h1, h2⟩
theorem qpk_some {a t : Nat → Nat} {D : Nat} : ∀ (l : List Nat) (q : Nat), ∃ p, l.foldl (qpk1 a t D) (some q) = some p
  | [], q => ⟨q, rfl⟩
  | r :: l, q => by
    rw [List.foldl_cons]
    unfold qpk1
    split
    · simp only
      split
      · exact qpk_some l r
      · exact qpk_some l q
    · exact qpk_some l q
def qct (a : Nat → Nat) (D : Nat) (l : List Nat) : Nat := (l.filter (fun p => decide (0 < a p) && !D.testBit p)).length
theorem qpk_none {a t : Nat → Nat} {D : Nat} : ∀ (l : List Nat), qpk a t D l = none ↔ qct a D l = 0
  | [] => ⟨fun _ => rfl, fun _ => rfl⟩
  | r :: l => by
    unfold qpk qct
    rw [List.foldl_cons]
    by_cases hz : 0 < a r ∧ D.testBit r = false
    · rw [show qpk1 a t D none r = some r from if_pos hz, List.filter_cons_of_pos (by simp [hz.1, hz.2]), List.length_cons]
      obtain ⟨p, hp⟩ := qpk_some (a := a) (t := t) (D := D) l r
      rw [hp]
      exact ⟨(fun z => by cases z), (fun z => by omega)⟩
    · rw [show qpk1 a t D none r = none from if_neg hz, List.filter_cons_of_neg (by
        intro z; apply hz
        simp only [Bool.and_eq_true, decide_eq_true_eq, Bool.not_eq_true'] at z
        exact z)]
      exact qpk_none l
theorem qcnl (f : Nat → Bool) (p : Nat) : ∀ (l : List Nat), l.Nodup → p ∈ l → f p = true → (l.filter (fun q => f q && !decide (q = p))).length + 1 = (l.filter f).length
  | [], _, h, _ => by cases h
  | q :: l, hn, h, hf => by
    rw [List.nodup_cons] at hn
    by_cases hz : q = p
    · subst hz
      rw [List.filter_cons_of_neg (by simp), List.filter_cons_of_pos hf, List.length_cons]
      congr 2
      apply List.filter_congr
      intro r hr
      have : r ≠ q := fun z => hn.1 (z ▸ hr)
      simp [this]
    · have hm : p ∈ l := by
        rcases List.mem_cons.1 h with z | z
        · exact absurd z.symm hz
        · exact z
      have ih := qcnl f p l hn.2 hm hf
      by_cases hq : f q = true
      · rw [List.filter_cons_of_pos (by simp [hq, hz]), List.filter_cons_of_pos hq, List.length_cons, List.length_cons, ih]
      · rw [List.filter_cons_of_neg (by simp [hq]), List.filter_cons_of_neg hq, ih]
theorem qct_or {a : Nat → Nat} {D p : Nat} {l : List Nat} (hn : l.Nodup) (hp : p ∈ l) (h1 : 0 < a p) (h2 : D.testBit p = false) : qct a (D ||| 2 ^ p) l + 1 = qct a D l := by
  unfold qct
  rw [← qcnl (fun p => decide (0 < a p) && !D.testBit p) p l hn hp (by simp [h1, h2])]
  congr 2
  apply List.filter_congr
  intro q _
  rw [Nat.testBit_or, Nat.testBit_two_pow]
  by_cases hz : q = p
  · subst hz; simp
  · have : ¬ p = q := fun z => hz z.symm
    simp [hz, this]
theorem qfn_ct {a t : Nat → Nat} {l : List Nat} (hn : l.Nodup) (P : Nat) : ∀ n, qct a (qfn a t l P n).2.1 l = (l.filter (fun p => decide (0 < a p))).length - n
  | 0 => by
    unfold qct qfn
    simp
  | n + 1 => by
    have ih := qfn_ct hn P n (a := a) (t := t)
    rw [qfn]
    generalize qfn a t l P n = x at ih ⊢
    unfold qf1
    cases hz : qpk a t x.2.1 l with
    | none =>
      have := (qpk_none l).1 hz
      simp only
      omega
    | some p =>
      simp only
      rcases qpk_mem l none p hz with h | ⟨h1, h2, h3⟩
      · cases h
      · have := qct_or (a := a) hn h1 h2 h3
        omega
theorem qfn_fix {a t : Nat → Nat} {l : List Nat} {P n : Nat} (h : qpk a t (qfn a t l P n).2.1 l = none) : ∀ m, n ≤ m → qfn a t l P m = qfn a t l P n := by
  intro m
  induction m with
  | zero => intro hm; rw [show n = 0 by omega]
  | succ m ih =>
    intro hm
    by_cases hz : n = m + 1
    · rw [hz]
    · rw [qfn, ih (by omega)]
      unfold qf1; rw [h]
/-! who is done got something, or nothing was left -/
theorem qfn_inv {a t : Nat → Nat} {l : List Nat} {P : Nat} : ∀ n, (qfn a t l P n).1 ≤ P ∧ (∀ p, (qfn a t l P n).2.2 p ≤ P) ∧ (∀ p, (qfn a t l P n).2.1.testBit p = false → (qfn a t l P n).2.2 p = 0) ∧ (0 < (qfn a t l P n).1 → ∀ p, (qfn a t l P n).2.1.testBit p = true → 0 < (qfn a t l P n).2.2 p)
  | 0 => ⟨Nat.le_refl _, fun _ => Nat.zero_le _, fun _ _ => rfl, fun _ p hp => by rw [show (qfn a t l P 0).2.1 = 0 from rfl, Nat.zero_testBit] at hp; cases hp⟩
  | n + 1 => by
    have ih := qfn_inv (a := a) (t := t) (l := l) (P := P) n
    rw [qfn]
    generalize qfn a t l P n = x at ih ⊢
    obtain ⟨h1, h2, h3, h4⟩ := ih
    unfold qf1
    cases hz : qpk a t x.2.1 l with
    | none => exact ⟨h1, h2, h3, h4⟩
    | some p =>
      simp only
      rcases qpk_mem l none p hz with h | ⟨g1, g2, g3⟩
      · cases h
      · refine ⟨by omega, ?_, ?_, ?_⟩
        · intro q
          unfold qst
          split
          · split <;> omega
          · exact h2 q
        · intro q hq
          rw [Nat.testBit_or, Nat.testBit_two_pow] at hq
          simp only [Bool.or_eq_false_iff, decide_eq_false_iff_not] at hq
          rw [qst_n _ _ (fun z => hq.2 z.symm)]
          exact h3 q hq.1
        · intro hl q hq
          have hx : 0 < x.1 := by omega
          by_cases hqp : q = p
          · subst hqp; rw [qst_s]; split <;> omega
          · rw [qst_n _ _ hqp]
            apply h4 hx q
            rw [Nat.testBit_or, Nat.testBit_two_pow] at hq
            simpa [show ¬ p = q from fun z => hqp z.symm] using hq
theorem qfn_zero {a t : Nat → Nat} {l : List Nat} {P n : Nat} (h : (qfn a t l P n).1 = 0) : ∀ m, n ≤ m → (qfn a t l P m).1 = 0 ∧ (qfn a t l P m).2.2 = (qfn a t l P n).2.2 := by
  intro m
  induction m with
  | zero => intro hm; rw [show n = 0 by omega] at h ⊢; exact ⟨h, rfl⟩
  | succ m ih =>
    intro hm
    by_cases hz : n = m + 1
    · rw [← hz]; exact ⟨h, rfl⟩
    · obtain ⟨i1, i2⟩ := ih (by omega)
      have i3 := (qfn_inv (a := a) (t := t) (l := l) (P := P) m).2.2.1
      rw [qfn]
      rw [← i2]
      generalize qfn a t l P m = x at i1 i3 ⊢
      unfold qf1
      cases hk : qpk a t x.2.1 l with
      | none => exact ⟨i1, rfl⟩
      | some p =>
        simp only
        rcases qpk_mem l none p hk with h | ⟨g1, g2, g3⟩
        · cases h
        · refine ⟨by omega, ?_⟩
          funext q
          by_cases hqp : q = p
          · subst hqp; rw [qst_s, i3 q g3, i1, if_pos g2]
          · rw [qst_n _ _ hqp]
