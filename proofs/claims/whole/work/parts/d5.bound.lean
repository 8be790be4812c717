-- shares: no plug gets more than it asks for, all plugs no more than the power
set_option maxRecDepth 4000
set_option maxHeartbeats 200000
theorem qe1_ga {a : Nat → Nat} : ∀ (l : List Nat) (x : qSh), (∀ q, x.2.2 q ≤ a q) → ∀ q, (l.foldl (qe1 a) x).2.2 q ≤ a q
  | [], x, h => h
  | p :: l, x, h => by
    rw [List.foldl_cons]
    refine qe1_ga l _ ?_
    intro q
    unfold qe1
    split
    · simp only [qst]
      split
      · rename_i z; subst z; split <;> omega
      · exact h q
    · exact h q
theorem qe2_ga {a : Nat → Nat} : ∀ (l : List Nat) (x : Nat × (Nat → Nat)), (∀ q, x.2 q ≤ a q) → ∀ q, (l.foldl (qe2 a) x).2 q ≤ a q
  | [], x, h => h
  | p :: l, x, h => by
    rw [List.foldl_cons]
    refine qe2_ga l _ ?_
    intro q
    unfold qe2
    split
    · simp only [qst]
      split
      · rename_i z; subst z; omega
      · exact h q
    · exact h q
theorem qe3_ga {a : Nat → Nat} (l : List Nat) (x : Nat × (Nat → Nat)) (h : ∀ q, x.2 q ≤ a q) : ∀ n q, (qe3 a l n x).2 q ≤ a q
  | 0 => h
  | n + 1 => qe2_ga l _ (qe3_ga l x h n)
theorem qev_le (a : Nat → Nat) (l : List Nat) (P m : Nat) (q : Nat) : qev a l P m q ≤ a q := by
  have h0 : ∀ q, (qe0 a l P m).2.2 q ≤ a q := qe1_ga l (P, m, fun _ => 0) (fun _ => Nat.zero_le _)
  unfold qev
  generalize 300 = n
  generalize qe0 a l P m = x at h0 ⊢
  exact qe3_ga l (x.1, x.2.2) h0 n q
theorem qfn_ga {a t : Nat → Nat} {l : List Nat} {P : Nat} : ∀ n q, (qfn a t l P n).2.2 q ≤ a q
  | 0 => fun _ => Nat.zero_le _
  | n + 1 => by
    have ih := qfn_ga (a := a) (t := t) (l := l) (P := P) n
    rw [qfn]
    generalize qfn a t l P n = x at ih ⊢
    unfold qf1
    intro q
    cases hz : qpk a t x.2.1 l with
    | none => exact ih q
    | some p =>
      simp only [qst]
      split
      · rename_i z; subst z; split <;> omega
      · exact ih q
theorem qfv_le (a t : Nat → Nat) (l : List Nat) (P : Nat) (q : Nat) : qfv a t l P q ≤ a q := by
  unfold qfv
  generalize 16 = n
  exact qfn_ga n q
