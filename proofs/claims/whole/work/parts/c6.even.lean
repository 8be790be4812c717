-- even shares: what each plug gets, and the class
set_option maxRecDepth 4000
set_option maxHeartbeats 4000000
theorem q_forE {c : zk_Cn} {b u : zk_Sm} {P : Nat → List Value → zk_H → Prop} {R : List Value → zk_H → Prop} (n : Nat)
    (st : ∀ i e h, i < n → P i e h → (∃ e' h', zk_one c b u e h = some (.inr (e', h')) ∧ P (i + 1) e' h') ∨ (zk_one c b u e h = some (.inl (0, .null, e, h)) ∧ R e h))
    (en : ∀ e h, P n e h → zk_one c b u e h = some (.inl (0, .null, e, h)) ∧ R e h) {f : Nat} {e : List Value} {h : zk_H} (hf : n < f) (h0 : P 0 e h) :
    ∃ e' h', zk_loop c b u f e h = some (0, .null, e', h') ∧ R e' h' := by
  have := q_whl (c := c) (b := b) (u := u) (P := fun k e h => k ≤ n ∧ P (n - k) e h) (Q := fun q => ∃ e' h', q = (0, .null, e', h') ∧ R e' h') ?_ f n e h hf ⟨Nat.le_refl _, by rw [Nat.sub_self]; exact h0⟩
  · obtain ⟨q, z, e', h', rfl, hp⟩ := this
    exact ⟨e', h', z, hp⟩
  · rintro k e h ⟨hk, hp⟩
    by_cases hz : k = 0
    · subst hz
      obtain ⟨z, hr⟩ := en e h hp
      exact Or.inl ⟨_, z, e, h, rfl, hr⟩
    · rcases st (n - k) e h (by omega) hp with ⟨e', h', z, hp'⟩ | ⟨z, hr⟩
      · exact Or.inr ⟨e', h', k - 1, z, by omega, by omega, by rw [show n - (k - 1) = n - k + 1 by omega]; exact hp'⟩
      · exact Or.inl ⟨_, z, e, h, rfl, hr⟩
abbrev qSh := Nat × Nat × (Nat → Nat)
def qst (g : Nat → Nat) (p v : Nat) : Nat → Nat := fun q => if q = p then v else g q
def qe1 (a : Nat → Nat) (x : qSh) (p : Nat) : qSh :=
  if 0 < a p then (x.1 - (if x.1 / x.2.1 < a p then x.1 / x.2.1 else a p), x.2.1 - 1, qst x.2.2 p (if x.1 / x.2.1 < a p then x.1 / x.2.1 else a p)) else x
def qe2 (a : Nat → Nat) (x : Nat × (Nat → Nat)) (p : Nat) : Nat × (Nat → Nat) :=
  if 0 < x.1 ∧ x.2 p < a p then (x.1 - 1, qst x.2 p (x.2 p + 1)) else x
def qe3 (a : Nat → Nat) (l : List Nat) : Nat → Nat × (Nat → Nat) → Nat × (Nat → Nat)
  | 0, x => x
  | n + 1, x => l.foldl (qe2 a) (qe3 a l n x)
def qe0 (a : Nat → Nat) (l : List Nat) (P m : Nat) : qSh := l.foldl (qe1 a) (P, m, fun _ => 0)
def qev (a : Nat → Nat) (l : List Nat) (P m : Nat) : Nat → Nat := (qe3 a l 300 ((qe0 a l P m).1, (qe0 a l P m).2.2)).2
theorem qfs_take {S : Type} (st : S → Nat → S) (x : S) {l : List Nat} {i p : Nat} (h : l[i]? = some p) : (l.take (i + 1)).foldl st x = st ((l.take i).foldl st x) p := by
  rw [List.take_add_one, h, List.foldl_append]; rfl
theorem qfs_filter {S : Type} (st st' : S → Nat → S) (f : Nat → Bool) (h1 : ∀ x p, f p = true → st' x p = st x p) (h2 : ∀ x p, f p = false → st' x p = x) : ∀ (l : List Nat) (x : S), l.foldl st' x = (l.filter f).foldl st x
  | [], x => rfl
  | p :: l, x => by
    rw [List.foldl_cons]
    cases hp : f p with
    | true => rw [List.filter_cons_of_pos hp, List.foldl_cons, h1 x p hp]; exact qfs_filter st st' f h1 h2 l _
    | false => rw [List.filter_cons_of_neg (by rw [hp]; decide), h2 x p hp]; exact qfs_filter st st' f h1 h2 l _
theorem qev_filter (a : Nat → Nat) (f : Nat → Bool) (l : List Nat) (P m : Nat) : qev (fun p => if f p = true then a p else 0) l P m = qev a (l.filter f) P m := by
  have e1 : ∀ x, l.foldl (qe1 (fun p => if f p = true then a p else 0)) x = (l.filter f).foldl (qe1 a) x := qfs_filter _ _ f (fun x p h => by simp only [qe1, h, if_true]) (fun x p h => by simp [qe1, h]) l
  have e2 : ∀ x, l.foldl (qe2 (fun p => if f p = true then a p else 0)) x = (l.filter f).foldl (qe2 a) x := qfs_filter _ _ f (fun x p h => by simp only [qe2, h, if_true]) (fun x p h => by simp [qe2, h]) l
  have e3 : ∀ n x, qe3 (fun p => if f p = true then a p else 0) l n x = qe3 a (l.filter f) n x := by
    intro n
    induction n with
    | zero => intro x; rfl
    | succ n ih => intro x; rw [qe3, qe3, ih, e2]
  unfold qev qe0
  rw [e1, e3]
/-! the first pass: how many still ask -/
theorem qe1_inv (a : Nat → Nat) (l : List Nat) {P m : Nat} (hm : m = (l.filter (fun p => decide (0 < a p))).length) : ∀ i, i ≤ l.length → ((l.take i).foldl (qe1 a) (P, m, fun _ => 0)).1 ≤ P ∧ ((l.take i).foldl (qe1 a) (P, m, fun _ => 0)).2.1 = ((l.drop i).filter (fun p => decide (0 < a p))).length := by
  intro i
  induction i with
  | zero => intro _; exact ⟨Nat.le_refl _, hm⟩
  | succ i ih =>
    intro hi
    obtain ⟨h1, h2⟩ := ih (by omega)
    have hp : l[i]? = some (l[i]'(by omega)) := List.getElem?_eq_getElem (by omega)
    rw [qfs_take _ _ hp]
    generalize (l.take i).foldl (qe1 a) (P, m, fun _ => 0) = x at h1 h2 ⊢
    rw [List.drop_eq_getElem_cons (by omega)] at h2
    unfold qe1
    by_cases hz : 0 < a (l[i]'(by omega))
    · rw [List.filter_cons_of_pos (by simpa using hz), List.length_cons] at h2
      rw [if_pos hz]
      exact ⟨by simp only; omega, by simp only; omega⟩
    · rw [List.filter_cons_of_neg (by simpa using hz)] at h2
      rw [if_neg hz]
      exact ⟨h1, h2⟩
theorem qe1_rest (a : Nat → Nat) : ∀ (l : List Nat) (x : qSh), (l.filter (fun p => decide (0 < a p))).length = 0 → l.foldl (qe1 a) x = x
  | [], x, _ => rfl
  | p :: l, x, h => by
    by_cases hz : 0 < a p
    · rw [List.filter_cons_of_pos (by simpa using hz), List.length_cons] at h; omega
    · rw [List.filter_cons_of_neg (by simpa using hz)] at h
      rw [List.foldl_cons, show qe1 a x p = x from if_neg hz]; exact qe1_rest a l x h
/-! a round -/
theorem qe2_zero (a : Nat → Nat) : ∀ (l : List Nat) (x : Nat × (Nat → Nat)), x.1 = 0 → l.foldl (qe2 a) x = x
  | [], x, _ => rfl
  | p :: l, x, h => by
    rw [List.foldl_cons, show qe2 a x p = x from if_neg (by omega)]; exact qe2_zero a l x h
theorem qe2_le (a : Nat → Nat) : ∀ (l : List Nat) (x : Nat × (Nat → Nat)), (l.foldl (qe2 a) x).1 ≤ x.1
  | [], x => Nat.le_refl _
  | p :: l, x => by
    rw [List.foldl_cons]
    refine Nat.le_trans (qe2_le a l _) ?_
    unfold qe2; split
    · simp only; omega
    · exact Nat.le_refl _
theorem qe2_fix (a : Nat → Nat) : ∀ (l : List Nat) (x : Nat × (Nat → Nat)), (l.foldl (qe2 a) x).1 = x.1 → l.foldl (qe2 a) x = x
  | [], x, _ => rfl
  | p :: l, x, h => by
    rw [List.foldl_cons] at h ⊢
    have h1 := qe2_le a l (qe2 a x p)
    by_cases hz : 0 < x.1 ∧ x.2 p < a p
    · have : (qe2 a x p).1 = x.1 - 1 := by unfold qe2; rw [if_pos hz]
      omega
    · have e : qe2 a x p = x := if_neg hz
      rw [e] at h ⊢; exact qe2_fix a l x h
theorem qe3_fix (a : Nat → Nat) (l : List Nat) {x : Nat × (Nat → Nat)} {n : Nat} (h : l.foldl (qe2 a) (qe3 a l n x) = qe3 a l n x) : ∀ m, n ≤ m → qe3 a l m x = qe3 a l n x := by
  intro m
  induction m with
  | zero => intro hm; rw [show n = 0 by omega]
  | succ m ih =>
    intro hm
    by_cases hz : n = m + 1
    · rw [hz]
    · rw [qe3, ih (by omega), h]
theorem qe3_le (a : Nat → Nat) (l : List Nat) (x : Nat × (Nat → Nat)) : ∀ n, (qe3 a l n x).1 ≤ x.1
  | 0 => Nat.le_refl _
  | n + 1 => Nat.le_trans (qe2_le a l _) (qe3_le a l x n)
