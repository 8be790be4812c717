-- charging: the class's fold and the reference's
set_option maxRecDepth 4000
set_option maxHeartbeats 400000
theorem qch_join {X : qW} {G : Nat → Nat} {s p a b : Nat} (hn : X.pcar p = none → G p = 0) : qchC G s ((X.up 14 s a).up 0 6 b) p = ((qchR G X p).up 14 s (a + G p)).up 0 6 (b + G p) := by
  have e1 : ((X.up 14 s a).up 0 6 b).pcar p = X.pcar p := rfl
  unfold qchC qchR
  rw [e1]
  cases hc : X.pcar p with
  | none => simp only [hn hc, Nat.add_zero]
  | some c =>
    have e2 : ((X.up 14 s a).up 0 6 b).sgiv s = a := by simp [qW.up, qW.sgiv]
    have e3 : ((X.up 14 s a).up 0 6 b).given = b := by simp [qW.up, qW.given]
    have e4 : ((X.up 14 s a).up 0 6 b).chg c = X.chg c := rfl
    have e5 : ((X.up 14 s a).up 0 6 b).got c = X.got c := rfl
    have e6 : ((X.up 14 s a).up 0 6 b).pays c = X.pays c := rfl
    have e7 : qpr ((X.up 14 s a).up 0 6 b) = qpr X := rfl
    simp only [e2, e3, e4, e5, e6, e7]
    by_cases hz : 0 < G p
    · rw [if_pos hz]
      rw [qW_comm (X.up 14 s a) (f := 0) (g := 28) (by omega), qW_comm _ (f := 0) (g := 34) (by omega), qW_comm _ (f := 0) (g := 36) (by omega), qW_comm _ (f := 0) (g := 14) (by omega), qW_idem, qW_comm X (f := 14) (g := 28) (by omega), qW_comm _ (f := 14) (g := 34) (by omega), qW_comm _ (f := 14) (g := 36) (by omega), qW_idem]
    · rw [if_neg hz]
      have hz0 : G p = 0 := by omega
      simp only [hz0, Nat.add_zero, Nat.zero_mul]
      rw [qW_self _ (f := 28) (i := c) (x := X.chg c) e4, qW_self _ (f := 34) (i := c) (x := X.got c) e5, qW_self _ (f := 36) (i := c) (x := X.pays c) e6, qW_self _ (f := 14) (i := s) e2, qW_self _ (f := 0) (i := 6) e3]
