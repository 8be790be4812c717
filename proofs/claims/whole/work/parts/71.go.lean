/-! go -/
theorem qcd_nat {W : qW} (hf : qWf W) {c n : Nat} (hc : c < W.nC) (hn : n ≤ 999) : ∃ d, d < 2 ^ 20 ∧ qcd W c (nI n) = nI d := by
  have h1 := (hf.use c hc).2
  have h2 := hf.cold
  have a1 : n * W.use c ≤ 999 * 40 := Nat.mul_le_mul hn h1
  have a2 : n * W.use c * (100 + W.cold) ≤ 999 * 40 * 150 := Nat.mul_le_mul a1 (by omega)
  refine ⟨(n * W.use c * (100 + W.cold) + 9999) / 10000, by omega, ?_⟩
  unfold qcd
  rw [show (100 : Int32) = nI 100 from rfl, show (9999 : Int32) = nI 9999 from rfl, show (10000 : Int32) = nI 10000 from rfl, pk_mul, nI_add, pk_mul, nI_add, pk_div (by omega) (by omega) (by omega)]
theorem qWf_go {W : qW} (hf : qWf W) {c v : Nat} (hc : c < W.nC) (hv : v ≤ W.chg c) (h0 : W.wh c = 0) : qWf (W.up 28 c v) := by
  apply qWf.mk
  · exact hf.hS
  · exact hf.hP
  · exact hf.hC
  · exact hf.cold
  · exact hf.drift
  · exact hf.now
  · exact hf.price
  · exact hf.km
  · exact hf.inc
  · exact hf.pow
  · exact hf.wait
  · exact hf.first
  · exact hf.cap
  · exact hf.idle
  · exact hf.after
  · exact hf.freshS
  · exact hf.psite
  · exact hf.pmost
  · exact hf.pcab
  · exact hf.pfail
  · exact hf.psays
  · exact hf.freshP
  · exact hf.bat
  · exact hf.use
  · exact hf.rate
  · exact hf.cab
  · intro j hj; rw [qu_chg]; split
    · rename_i z; rw [z.2]; exact Nat.le_trans hv (hf.chg c hc)
    · exact hf.chg j hj
  · exact hf.stay
  · exact hf.tried
  · exact hf.plugAt
  · exact hf.freshC
  · exact hf.whOk
  · intro j hj hw; rw [qu_chg]; split
    · rename_i z; exact absurd (z.2 ▸ h0) hw
    · exact hf.wantOk j hj hw
  · exact hf.qOk
  · exact hf.qNo
  · exact hf.carOk
  · exact hf.trN
  · exact hf.trOk
  · exact hf.bAN
  · exact hf.bBN
  · exact hf.bAOk
  · exact hf.bBOk
