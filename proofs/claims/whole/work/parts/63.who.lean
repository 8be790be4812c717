/-! who is there: both sides -/
theorem qx_bad {x : Int32} {n : Nat} (hx : x < 0 ∨ nI n ≤ x) : ¬ (0 ≤ x ∧ x < nI n) := by
  rw [Int32.le_iff_toInt_le, Int32.lt_iff_toInt_lt]
  rw [Int32.lt_iff_toInt_lt, Int32.le_iff_toInt_le] at hx
  omega
theorem qx_bad1 {x : Int32} {n : Nat} (hn : n < 2 ^ 31) (hx : x < 0 ∨ nI n ≤ x) : ¬ (0 ≤ x ∧ x ≤ nI n - 1) := by
  intro ⟨h1, h2⟩
  cases n with
  | zero =>
    rw [Int32.le_iff_toInt_le] at h1 h2
    have e : (nI 0 - 1 : Int32).toInt = -1 := by decide
    rw [e] at h2
    have e0 : (0 : Int32).toInt = 0 := by decide
    omega
  | succ n =>
    rw [nI_pred] at h2
    rw [Int32.le_iff_toInt_le] at h1 h2
    rw [Int32.lt_iff_toInt_lt, Int32.le_iff_toInt_le, nI_toInt hn] at hx
    rw [nI_toInt (by omega)] at h2
    omega
theorem qx_ne {b : Int32} {n : Nat} (hn : n < 2 ^ 31) (hb : b < 0 ∨ nI n ≤ b) (k : Nat) (hk : k < n) : ¬ b = nI k := by
  intro e; subst e
  rcases hb with hb | hb
  · exact nI_pos (by omega) hb
  · exact nI_ge hk hn hb
theorem qx_bad2 {x : Int32} {n : Nat} (hn : n + 1 < 2 ^ 31) (hx : x < 0 ∨ nI (n + 1) ≤ x) : ¬ (0 ≤ x ∧ x ≤ nI n) := by
  have e := qx_bad1 hn hx
  rw [nI_pred] at e
  exact e
theorem qx_good {k n : Nat} (hk : k < n) (hn : n < 2 ^ 31) : 0 ≤ nI k ∧ nI k < nI n := ⟨nI_pos' (by omega), nI_lt hk hn⟩
theorem qx_good1 {k n : Nat} (hk : k < n) (hn : n < 2 ^ 31) : 0 ≤ nI k ∧ nI k ≤ nI n - 1 := by
  cases n with
  | zero => omega
  | succ n => rw [nI_pred]; exact ⟨nI_pos' (by omega), nI_le (by omega) (by omega)⟩
theorem qh_Site {h : zk_H} {W : qW} {s : Nat} (hf : qWf W) (hh : qC h W) (hs : s < W.nS) : f_X10_hasSite SHP [.ref 1, .int (nI s)] h = some (.int 1, h) := by
  have hn := hf.hS
  rw [q_hasSite, hh.nS, if_pos (qx_good hs (by omega))]
theorem qh_nSite {h : zk_H} {W : qW} {x : Int32} (hh : qC h W) (hx : x < 0 ∨ nI W.nS ≤ x) : f_X10_hasSite SHP [.ref 1, .int x] h = some (.int 0, h) := by
  rw [q_hasSite, hh.nS, if_neg (qx_bad hx)]
theorem qi_Site {h : zk_H} {W : qW} {s : Nat} (hf : qWf W) (hh : qR (fun r => h (179 + r)) W) (hs : s < W.nS) : f_X12_isSite SHP [.ref 178, .int (nI s)] h = some (.int 1, h) := by
  have hn := hf.hS
  have e := hh.nS
  simp only [Nat.add_zero] at e
  rw [q_isSite, e, if_pos (qx_good1 hs (by omega))]
theorem qi_nSite {h : zk_H} {W : qW} {x : Int32} (hf : qWf W) (hh : qR (fun r => h (179 + r)) W) (hx : x < 0 ∨ nI W.nS ≤ x) : f_X12_isSite SHP [.ref 178, .int x] h = some (.int 0, h) := by
  have hn := hf.hS
  have e := hh.nS
  simp only [Nat.add_zero] at e
  rw [q_isSite, e, if_neg (qx_bad1 (by omega) hx)]
theorem qh_Plug {h : zk_H} {W : qW} {s : Nat} (hf : qWf W) (hh : qC h W) (hs : s < W.nP) : f_X10_hasPlug SHP [.ref 1, .int (nI s)] h = some (.int 1, h) := by
  have hn := hf.hP
  rw [q_hasPlug, hh.nP, if_pos (qx_good hs (by omega))]
theorem qh_nPlug {h : zk_H} {W : qW} {x : Int32} (hh : qC h W) (hx : x < 0 ∨ nI W.nP ≤ x) : f_X10_hasPlug SHP [.ref 1, .int x] h = some (.int 0, h) := by
  rw [q_hasPlug, hh.nP, if_neg (qx_bad hx)]
theorem qi_Plug {h : zk_H} {W : qW} {s : Nat} (hf : qWf W) (hh : qR (fun r => h (179 + r)) W) (hs : s < W.nP) : f_X12_isPlug SHP [.ref 178, .int (nI s)] h = some (.int 1, h) := by
  have hn := hf.hP
  have e := hh.nP
  simp only [Nat.add_zero] at e
  rw [q_isPlug, e, if_pos (qx_good1 hs (by omega))]
theorem qi_nPlug {h : zk_H} {W : qW} {x : Int32} (hf : qWf W) (hh : qR (fun r => h (179 + r)) W) (hx : x < 0 ∨ nI W.nP ≤ x) : f_X12_isPlug SHP [.ref 178, .int x] h = some (.int 0, h) := by
  have hn := hf.hP
  have e := hh.nP
  simp only [Nat.add_zero] at e
  rw [q_isPlug, e, if_neg (qx_bad1 (by omega) hx)]
theorem qh_Car {h : zk_H} {W : qW} {s : Nat} (hf : qWf W) (hh : qC h W) (hs : s < W.nC) : f_X10_hasCar SHP [.ref 1, .int (nI s)] h = some (.int 1, h) := by
  have hn := hf.hC
  rw [q_hasCar, hh.nC, if_pos (qx_good hs (by omega))]
theorem qh_nCar {h : zk_H} {W : qW} {x : Int32} (hh : qC h W) (hx : x < 0 ∨ nI W.nC ≤ x) : f_X10_hasCar SHP [.ref 1, .int x] h = some (.int 0, h) := by
  rw [q_hasCar, hh.nC, if_neg (qx_bad hx)]
theorem qi_Car {h : zk_H} {W : qW} {s : Nat} (hf : qWf W) (hh : qR (fun r => h (179 + r)) W) (hs : s < W.nC) : f_X12_isCar SHP [.ref 178, .int (nI s)] h = some (.int 1, h) := by
  have hn := hf.hC
  have e := hh.nC
  simp only [Nat.add_zero] at e
  rw [q_isCar, e, if_pos (qx_good1 hs (by omega))]
theorem qi_nCar {h : zk_H} {W : qW} {x : Int32} (hf : qWf W) (hh : qR (fun r => h (179 + r)) W) (hx : x < 0 ∨ nI W.nC ≤ x) : f_X12_isCar SHP [.ref 178, .int x] h = some (.int 0, h) := by
  have hn := hf.hC
  have e := hh.nC
  simp only [Nat.add_zero] at e
  rw [q_isCar, e, if_neg (qx_bad1 (by omega) hx)]
