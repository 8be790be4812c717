/-! many cells at once -/
theorem qnd_len : ∀ (n : Nat) (l : List Nat), l.Nodup → (∀ x, x ∈ l → x < n) → l.length ≤ n
  | 0, l, _, hx => by
    cases l with
    | nil => simp
    | cons a r => exact absurd (hx a (List.mem_cons_self ..)) (by omega)
  | n + 1, l, hl, hx => by
    have h1 := qnd_len n (l.erase n) (hl.erase n) (fun x hm => by
      have h2 := (hl.mem_erase_iff).1 hm
      have h3 := hx x h2.2
      omega)
    have h4 := List.length_erase (a := n) (l := l)
    split at h4 <;> omega
theorem qWf.qlen {W : qW} (hf : qWf W) (s : Nat) : (W.q s).length ≤ 12 :=
  Nat.le_trans (qnd_len W.nC (W.q s) (hf.qNo s) (fun x hx => (hf.qOk s x hx).1)) hf.hC
theorem qWf.qk {W : qW} (hf : qWf W) {s k c : Nat} (h : (W.q s)[k]? = some c) : k < 12 := by
  have h1 := (List.getElem?_eq_some_iff.1 h).1
  have h2 := hf.qlen s
  omega
theorem qWf.pllen {W : qW} (hf : qWf W) (s : Nat) : (W.pl s).length ≤ 16 := by
  have h1 := List.length_filter_le (fun p => decide (W.psite p = s)) (List.range W.nP)
  rw [List.length_range] at h1
  have h2 := hf.hP
  unfold qW.pl
  omega
theorem qW.plmem {W : qW} {s p : Nat} : p ∈ W.pl s ↔ p < W.nP ∧ W.psite p = s := by
  unfold qW.pl
  simp
theorem qWf.plk {W : qW} (hf : qWf W) {s k p : Nat} (h : (W.pl s)[k]? = some p) : k < 16 ∧ p < W.nP ∧ W.psite p = s := by
  have h1 := (List.getElem?_eq_some_iff.1 h).1
  have h2 := hf.pllen s
  exact ⟨by omega, qW.plmem.1 (List.mem_of_getElem? h)⟩
theorem qC_trU {h g : zk_H} {W : qW} (hh : qC h W) {l : List (Nat × Nat × Nat × Nat)} (e : ∀ a i, (a < 6 ∨ 10 < a) → g a i = h a i) (e1 : g 6 5 = nI l.length) (e2 : ∃ o, o < 60 ∧ g 6 4 = nI o ∧ ∀ i x, l[i]? = some x → g 7 ((o + i) % 60) = nI x.1 ∧ g 8 ((o + i) % 60) = nI x.2.1 ∧ g 9 ((o + i) % 60) = nI x.2.2.1 ∧ g 10 ((o + i) % 60) = nI x.2.2.2) : qC g (W.upT l) := by
  apply qC.mk
  · exact (e _ _ (by omega)).trans hh.nS
  · exact (e _ _ (by omega)).trans hh.nP
  · exact (e _ _ (by omega)).trans hh.nC
  · exact (e _ _ (by omega)).trans hh.cold
  · exact (e _ _ (by omega)).trans hh.drift
  · exact (e _ _ (by omega)).trans hh.now
  · exact (e _ _ (by omega)).trans hh.given
  · intro s y; exact (e _ _ (by omega)).trans (hh.price s y)
  · intro s y; exact (e _ _ (by omega)).trans (hh.km s y)
  · intro s y; exact (e _ _ (by omega)).trans (hh.pow s y)
  · intro s y; exact (e _ _ (by omega)).trans (hh.wait s y)
  · intro s y; exact (e _ _ (by omega)).trans (hh.sgiv s y)
  · intro s y; exact (e _ _ (by omega)).trans (hh.first s y)
  · intro s y; exact (e _ _ (by omega)).trans (hh.cap s y)
  · intro s y; exact (e _ _ (by omega)).trans (hh.idle s y)
  · intro s y; exact (e _ _ (by omega)).trans (hh.after s y)
  · intro s y; exact (e _ _ (by omega)).trans (hh.qn s y)
  · intro s y; exact (e _ _ (by omega)).trans (hh.pn s y)
  · intro s y k c y2; exact (e _ _ (by omega)).trans (hh.q s y k c y2)
  · intro s y k c y2; exact (e _ _ (by omega)).trans (hh.p s y k c y2)
  · intro s y; exact (e _ _ (by omega)).trans (hh.psite s y)
  · intro s y; exact (e _ _ (by omega)).trans (hh.pmost s y)
  · intro s y; exact (e _ _ (by omega)).trans (hh.pcab s y)
  · intro s y; exact (e _ _ (by omega)).trans (hh.pcar s y)
  · intro s y; exact (e _ _ (by omega)).trans (hh.pfail s y)
  · intro s y; exact (e _ _ (by omega)).trans (hh.psays s y)
  · intro s y; exact (e _ _ (by omega)).trans (hh.bat s y)
  · intro s y; exact (e _ _ (by omega)).trans (hh.use s y)
  · intro s y; exact (e _ _ (by omega)).trans (hh.rate s y)
  · intro s y; exact (e _ _ (by omega)).trans (hh.cab s y)
  · intro s y; exact (e _ _ (by omega)).trans (hh.chg s y)
  · intro s y; exact (e _ _ (by omega)).trans (hh.wh s y)
  · intro s y; exact (e _ _ (by omega)).trans (hh.want s y)
  · intro s y; exact (e _ _ (by omega)).trans (hh.stay s y)
  · intro s y; exact (e _ _ (by omega)).trans (hh.idl s y)
  · intro s y; exact (e _ _ (by omega)).trans (hh.idlAll s y)
  · intro s y; exact (e _ _ (by omega)).trans (hh.got s y)
  · intro s y; exact (e _ _ (by omega)).trans (hh.waited s y)
  · intro s y; exact (e _ _ (by omega)).trans (hh.pays s y)
  · intro s y; exact (e _ _ (by omega)).trans (hh.tried s y)
  · intro s y; exact (e _ _ (by omega)).trans (hh.plugAt s y)
  · exact e1
  · exact e2
  · exact (e _ _ (by omega)).trans hh.bAn
  · intro i x y; exact ⟨(e _ _ (by omega)).trans (hh.bA i x y).1, (e _ _ (by omega)).trans (hh.bA i x y).2.1, (e _ _ (by omega)).trans (hh.bA i x y).2.2⟩
  · exact (e _ _ (by omega)).trans hh.bBn
  · intro i x y; exact ⟨(e _ _ (by omega)).trans (hh.bB i x y).1, (e _ _ (by omega)).trans (hh.bB i x y).2.1, (e _ _ (by omega)).trans (hh.bB i x y).2.2⟩

theorem qC_qU {h g : zk_H} {W : qW} (hh : qC h W) {s : Nat} (hs : s < 6) {l : List Nat} (e : ∀ a i, ((a ≠ 19 + 3 * s ∨ i ≠ 8) ∧ a ≠ 20 + 3 * s) → g a i = h a i) (e1 : g (19 + 3 * s) 8 = nI l.length) (e2 : ∀ k c, l[k]? = some c → g (20 + 3 * s) k = nI c) : qC g (W.upQ s l) := by
  apply qC.mk
  · exact (e _ _ (by omega)).trans hh.nS
  · exact (e _ _ (by omega)).trans hh.nP
  · exact (e _ _ (by omega)).trans hh.nC
  · exact (e _ _ (by omega)).trans hh.cold
  · exact (e _ _ (by omega)).trans hh.drift
  · exact (e _ _ (by omega)).trans hh.now
  · exact (e _ _ (by omega)).trans hh.given
  · intro s y; exact (e _ _ (by omega)).trans (hh.price s y)
  · intro s y; exact (e _ _ (by omega)).trans (hh.km s y)
  · intro s y; exact (e _ _ (by omega)).trans (hh.pow s y)
  · intro s y; exact (e _ _ (by omega)).trans (hh.wait s y)
  · intro s y; exact (e _ _ (by omega)).trans (hh.sgiv s y)
  · intro s y; exact (e _ _ (by omega)).trans (hh.first s y)
  · intro s y; exact (e _ _ (by omega)).trans (hh.cap s y)
  · intro s y; exact (e _ _ (by omega)).trans (hh.idle s y)
  · intro s y; exact (e _ _ (by omega)).trans (hh.after s y)
  · intro t y; rw [quQ_q]; by_cases ht : t = s
    · rw [if_pos ht, ht]; exact e1
    · rw [if_neg ht]; exact (e _ _ (by omega)).trans (hh.qn t y)
  · intro s y; exact (e _ _ (by omega)).trans (hh.pn s y)
  · intro t y k c y2; rw [quQ_q] at y2; by_cases ht : t = s
    · rw [if_pos ht] at y2; rw [ht]; exact e2 k c y2
    · rw [if_neg ht] at y2; exact (e _ _ (by omega)).trans (hh.q t y k c y2)
  · intro s y k c y2; exact (e _ _ (by omega)).trans (hh.p s y k c y2)
  · intro s y; exact (e _ _ (by omega)).trans (hh.psite s y)
  · intro s y; exact (e _ _ (by omega)).trans (hh.pmost s y)
  · intro s y; exact (e _ _ (by omega)).trans (hh.pcab s y)
  · intro s y; exact (e _ _ (by omega)).trans (hh.pcar s y)
  · intro s y; exact (e _ _ (by omega)).trans (hh.pfail s y)
  · intro s y; exact (e _ _ (by omega)).trans (hh.psays s y)
  · intro s y; exact (e _ _ (by omega)).trans (hh.bat s y)
  · intro s y; exact (e _ _ (by omega)).trans (hh.use s y)
  · intro s y; exact (e _ _ (by omega)).trans (hh.rate s y)
  · intro s y; exact (e _ _ (by omega)).trans (hh.cab s y)
  · intro s y; exact (e _ _ (by omega)).trans (hh.chg s y)
  · intro s y; exact (e _ _ (by omega)).trans (hh.wh s y)
  · intro s y; exact (e _ _ (by omega)).trans (hh.want s y)
  · intro s y; exact (e _ _ (by omega)).trans (hh.stay s y)
  · intro s y; exact (e _ _ (by omega)).trans (hh.idl s y)
  · intro s y; exact (e _ _ (by omega)).trans (hh.idlAll s y)
  · intro s y; exact (e _ _ (by omega)).trans (hh.got s y)
  · intro s y; exact (e _ _ (by omega)).trans (hh.waited s y)
  · intro s y; exact (e _ _ (by omega)).trans (hh.pays s y)
  · intro s y; exact (e _ _ (by omega)).trans (hh.tried s y)
  · intro s y; exact (e _ _ (by omega)).trans (hh.plugAt s y)
  · exact (e _ _ (by omega)).trans hh.trn
  · obtain ⟨o, ho, k1, k2⟩ := hh.tr
    exact ⟨o, ho, (e _ _ (by omega)).trans k1, fun i x hx => ⟨(e _ _ (by omega)).trans (k2 i x hx).1, (e _ _ (by omega)).trans (k2 i x hx).2.1, (e _ _ (by omega)).trans (k2 i x hx).2.2.1, (e _ _ (by omega)).trans (k2 i x hx).2.2.2⟩⟩
  · exact (e _ _ (by omega)).trans hh.bAn
  · intro i x y; exact ⟨(e _ _ (by omega)).trans (hh.bA i x y).1, (e _ _ (by omega)).trans (hh.bA i x y).2.1, (e _ _ (by omega)).trans (hh.bA i x y).2.2⟩
  · exact (e _ _ (by omega)).trans hh.bBn
  · intro i x y; exact ⟨(e _ _ (by omega)).trans (hh.bB i x y).1, (e _ _ (by omega)).trans (hh.bB i x y).2.1, (e _ _ (by omega)).trans (hh.bB i x y).2.2⟩

theorem qC_pU {h g : zk_H} {W : qW} (hh : qC h W) {p : Nat} (hp : p < 16) {v : Option Nat} (e : ∀ a i, (a ≠ 37 + p ∨ i ≠ 3) → g a i = h a i) (e1 : g (37 + p) 3 = qoc v) : qC g (W.upP p v) := by
  apply qC.mk
  · exact (e _ _ (by omega)).trans hh.nS
  · exact (e _ _ (by omega)).trans hh.nP
  · exact (e _ _ (by omega)).trans hh.nC
  · exact (e _ _ (by omega)).trans hh.cold
  · exact (e _ _ (by omega)).trans hh.drift
  · exact (e _ _ (by omega)).trans hh.now
  · exact (e _ _ (by omega)).trans hh.given
  · intro s y; exact (e _ _ (by omega)).trans (hh.price s y)
  · intro s y; exact (e _ _ (by omega)).trans (hh.km s y)
  · intro s y; exact (e _ _ (by omega)).trans (hh.pow s y)
  · intro s y; exact (e _ _ (by omega)).trans (hh.wait s y)
  · intro s y; exact (e _ _ (by omega)).trans (hh.sgiv s y)
  · intro s y; exact (e _ _ (by omega)).trans (hh.first s y)
  · intro s y; exact (e _ _ (by omega)).trans (hh.cap s y)
  · intro s y; exact (e _ _ (by omega)).trans (hh.idle s y)
  · intro s y; exact (e _ _ (by omega)).trans (hh.after s y)
  · intro s y; exact (e _ _ (by omega)).trans (hh.qn s y)
  · intro s y; exact (e _ _ (by omega)).trans (hh.pn s y)
  · intro s y k c y2; exact (e _ _ (by omega)).trans (hh.q s y k c y2)
  · intro s y k c y2; exact (e _ _ (by omega)).trans (hh.p s y k c y2)
  · intro s y; exact (e _ _ (by omega)).trans (hh.psite s y)
  · intro s y; exact (e _ _ (by omega)).trans (hh.pmost s y)
  · intro s y; exact (e _ _ (by omega)).trans (hh.pcab s y)
  · intro t y; rw [quP_pcar]; by_cases ht : t = p
    · rw [if_pos ht, ht]; exact e1
    · rw [if_neg ht]; exact (e _ _ (by omega)).trans (hh.pcar t y)
  · intro s y; exact (e _ _ (by omega)).trans (hh.pfail s y)
  · intro s y; exact (e _ _ (by omega)).trans (hh.psays s y)
  · intro s y; exact (e _ _ (by omega)).trans (hh.bat s y)
  · intro s y; exact (e _ _ (by omega)).trans (hh.use s y)
  · intro s y; exact (e _ _ (by omega)).trans (hh.rate s y)
  · intro s y; exact (e _ _ (by omega)).trans (hh.cab s y)
  · intro s y; exact (e _ _ (by omega)).trans (hh.chg s y)
  · intro s y; exact (e _ _ (by omega)).trans (hh.wh s y)
  · intro s y; exact (e _ _ (by omega)).trans (hh.want s y)
  · intro s y; exact (e _ _ (by omega)).trans (hh.stay s y)
  · intro s y; exact (e _ _ (by omega)).trans (hh.idl s y)
  · intro s y; exact (e _ _ (by omega)).trans (hh.idlAll s y)
  · intro s y; exact (e _ _ (by omega)).trans (hh.got s y)
  · intro s y; exact (e _ _ (by omega)).trans (hh.waited s y)
  · intro s y; exact (e _ _ (by omega)).trans (hh.pays s y)
  · intro s y; exact (e _ _ (by omega)).trans (hh.tried s y)
  · intro s y; exact (e _ _ (by omega)).trans (hh.plugAt s y)
  · exact (e _ _ (by omega)).trans hh.trn
  · obtain ⟨o, ho, k1, k2⟩ := hh.tr
    exact ⟨o, ho, (e _ _ (by omega)).trans k1, fun i x hx => ⟨(e _ _ (by omega)).trans (k2 i x hx).1, (e _ _ (by omega)).trans (k2 i x hx).2.1, (e _ _ (by omega)).trans (k2 i x hx).2.2.1, (e _ _ (by omega)).trans (k2 i x hx).2.2.2⟩⟩
  · exact (e _ _ (by omega)).trans hh.bAn
  · intro i x y; exact ⟨(e _ _ (by omega)).trans (hh.bA i x y).1, (e _ _ (by omega)).trans (hh.bA i x y).2.1, (e _ _ (by omega)).trans (hh.bA i x y).2.2⟩
  · exact (e _ _ (by omega)).trans hh.bBn
  · intro i x y; exact ⟨(e _ _ (by omega)).trans (hh.bB i x y).1, (e _ _ (by omega)).trans (hh.bB i x y).2.1, (e _ _ (by omega)).trans (hh.bB i x y).2.2⟩

theorem qC_bAU {h g : zk_H} {W : qW} (hh : qC h W) {l : List (Nat × Nat × Nat)} (e : ∀ a i, (a < 11 ∨ 14 < a) → g a i = h a i) (e1 : g 11 3 = nI l.length) (e2 : ∀ i x, l[i]? = some x → g 12 i = nI x.1 ∧ g 13 i = nI x.2.1 ∧ g 14 i = nI x.2.2) : qC g (W.upA l) := by
  apply qC.mk
  · exact (e _ _ (by omega)).trans hh.nS
  · exact (e _ _ (by omega)).trans hh.nP
  · exact (e _ _ (by omega)).trans hh.nC
  · exact (e _ _ (by omega)).trans hh.cold
  · exact (e _ _ (by omega)).trans hh.drift
  · exact (e _ _ (by omega)).trans hh.now
  · exact (e _ _ (by omega)).trans hh.given
  · intro s y; exact (e _ _ (by omega)).trans (hh.price s y)
  · intro s y; exact (e _ _ (by omega)).trans (hh.km s y)
  · intro s y; exact (e _ _ (by omega)).trans (hh.pow s y)
  · intro s y; exact (e _ _ (by omega)).trans (hh.wait s y)
  · intro s y; exact (e _ _ (by omega)).trans (hh.sgiv s y)
  · intro s y; exact (e _ _ (by omega)).trans (hh.first s y)
  · intro s y; exact (e _ _ (by omega)).trans (hh.cap s y)
  · intro s y; exact (e _ _ (by omega)).trans (hh.idle s y)
  · intro s y; exact (e _ _ (by omega)).trans (hh.after s y)
  · intro s y; exact (e _ _ (by omega)).trans (hh.qn s y)
  · intro s y; exact (e _ _ (by omega)).trans (hh.pn s y)
  · intro s y k c y2; exact (e _ _ (by omega)).trans (hh.q s y k c y2)
  · intro s y k c y2; exact (e _ _ (by omega)).trans (hh.p s y k c y2)
  · intro s y; exact (e _ _ (by omega)).trans (hh.psite s y)
  · intro s y; exact (e _ _ (by omega)).trans (hh.pmost s y)
  · intro s y; exact (e _ _ (by omega)).trans (hh.pcab s y)
  · intro s y; exact (e _ _ (by omega)).trans (hh.pcar s y)
  · intro s y; exact (e _ _ (by omega)).trans (hh.pfail s y)
  · intro s y; exact (e _ _ (by omega)).trans (hh.psays s y)
  · intro s y; exact (e _ _ (by omega)).trans (hh.bat s y)
  · intro s y; exact (e _ _ (by omega)).trans (hh.use s y)
  · intro s y; exact (e _ _ (by omega)).trans (hh.rate s y)
  · intro s y; exact (e _ _ (by omega)).trans (hh.cab s y)
  · intro s y; exact (e _ _ (by omega)).trans (hh.chg s y)
  · intro s y; exact (e _ _ (by omega)).trans (hh.wh s y)
  · intro s y; exact (e _ _ (by omega)).trans (hh.want s y)
  · intro s y; exact (e _ _ (by omega)).trans (hh.stay s y)
  · intro s y; exact (e _ _ (by omega)).trans (hh.idl s y)
  · intro s y; exact (e _ _ (by omega)).trans (hh.idlAll s y)
  · intro s y; exact (e _ _ (by omega)).trans (hh.got s y)
  · intro s y; exact (e _ _ (by omega)).trans (hh.waited s y)
  · intro s y; exact (e _ _ (by omega)).trans (hh.pays s y)
  · intro s y; exact (e _ _ (by omega)).trans (hh.tried s y)
  · intro s y; exact (e _ _ (by omega)).trans (hh.plugAt s y)
  · exact (e _ _ (by omega)).trans hh.trn
  · obtain ⟨o, ho, k1, k2⟩ := hh.tr
    exact ⟨o, ho, (e _ _ (by omega)).trans k1, fun i x hx => ⟨(e _ _ (by omega)).trans (k2 i x hx).1, (e _ _ (by omega)).trans (k2 i x hx).2.1, (e _ _ (by omega)).trans (k2 i x hx).2.2.1, (e _ _ (by omega)).trans (k2 i x hx).2.2.2⟩⟩
  · exact e1
  · exact e2
  · exact (e _ _ (by omega)).trans hh.bBn
  · intro i x y; exact ⟨(e _ _ (by omega)).trans (hh.bB i x y).1, (e _ _ (by omega)).trans (hh.bB i x y).2.1, (e _ _ (by omega)).trans (hh.bB i x y).2.2⟩

theorem qC_bBU {h g : zk_H} {W : qW} (hh : qC h W) {l : List (Nat × Nat × Nat)} (e : ∀ a i, (a < 15 ∨ 18 < a) → g a i = h a i) (e1 : g 15 3 = nI l.length) (e2 : ∀ i x, l[i]? = some x → g 16 i = nI x.1 ∧ g 17 i = nI x.2.1 ∧ g 18 i = nI x.2.2) : qC g (W.upB l) := by
  apply qC.mk
  · exact (e _ _ (by omega)).trans hh.nS
  · exact (e _ _ (by omega)).trans hh.nP
  · exact (e _ _ (by omega)).trans hh.nC
  · exact (e _ _ (by omega)).trans hh.cold
  · exact (e _ _ (by omega)).trans hh.drift
  · exact (e _ _ (by omega)).trans hh.now
  · exact (e _ _ (by omega)).trans hh.given
  · intro s y; exact (e _ _ (by omega)).trans (hh.price s y)
  · intro s y; exact (e _ _ (by omega)).trans (hh.km s y)
  · intro s y; exact (e _ _ (by omega)).trans (hh.pow s y)
  · intro s y; exact (e _ _ (by omega)).trans (hh.wait s y)
  · intro s y; exact (e _ _ (by omega)).trans (hh.sgiv s y)
  · intro s y; exact (e _ _ (by omega)).trans (hh.first s y)
  · intro s y; exact (e _ _ (by omega)).trans (hh.cap s y)
  · intro s y; exact (e _ _ (by omega)).trans (hh.idle s y)
  · intro s y; exact (e _ _ (by omega)).trans (hh.after s y)
  · intro s y; exact (e _ _ (by omega)).trans (hh.qn s y)
  · intro s y; exact (e _ _ (by omega)).trans (hh.pn s y)
  · intro s y k c y2; exact (e _ _ (by omega)).trans (hh.q s y k c y2)
  · intro s y k c y2; exact (e _ _ (by omega)).trans (hh.p s y k c y2)
  · intro s y; exact (e _ _ (by omega)).trans (hh.psite s y)
  · intro s y; exact (e _ _ (by omega)).trans (hh.pmost s y)
  · intro s y; exact (e _ _ (by omega)).trans (hh.pcab s y)
  · intro s y; exact (e _ _ (by omega)).trans (hh.pcar s y)
  · intro s y; exact (e _ _ (by omega)).trans (hh.pfail s y)
  · intro s y; exact (e _ _ (by omega)).trans (hh.psays s y)
  · intro s y; exact (e _ _ (by omega)).trans (hh.bat s y)
  · intro s y; exact (e _ _ (by omega)).trans (hh.use s y)
  · intro s y; exact (e _ _ (by omega)).trans (hh.rate s y)
  · intro s y; exact (e _ _ (by omega)).trans (hh.cab s y)
  · intro s y; exact (e _ _ (by omega)).trans (hh.chg s y)
  · intro s y; exact (e _ _ (by omega)).trans (hh.wh s y)
  · intro s y; exact (e _ _ (by omega)).trans (hh.want s y)
  · intro s y; exact (e _ _ (by omega)).trans (hh.stay s y)
  · intro s y; exact (e _ _ (by omega)).trans (hh.idl s y)
  · intro s y; exact (e _ _ (by omega)).trans (hh.idlAll s y)
  · intro s y; exact (e _ _ (by omega)).trans (hh.got s y)
  · intro s y; exact (e _ _ (by omega)).trans (hh.waited s y)
  · intro s y; exact (e _ _ (by omega)).trans (hh.pays s y)
  · intro s y; exact (e _ _ (by omega)).trans (hh.tried s y)
  · intro s y; exact (e _ _ (by omega)).trans (hh.plugAt s y)
  · exact (e _ _ (by omega)).trans hh.trn
  · obtain ⟨o, ho, k1, k2⟩ := hh.tr
    exact ⟨o, ho, (e _ _ (by omega)).trans k1, fun i x hx => ⟨(e _ _ (by omega)).trans (k2 i x hx).1, (e _ _ (by omega)).trans (k2 i x hx).2.1, (e _ _ (by omega)).trans (k2 i x hx).2.2.1, (e _ _ (by omega)).trans (k2 i x hx).2.2.2⟩⟩
  · exact (e _ _ (by omega)).trans hh.bAn
  · intro i x y; exact ⟨(e _ _ (by omega)).trans (hh.bA i x y).1, (e _ _ (by omega)).trans (hh.bA i x y).2.1, (e _ _ (by omega)).trans (hh.bA i x y).2.2⟩
  · exact e1
  · exact e2

theorem qC_same {h g : zk_H} {W : qW} (hh : qC h W)  (e : ∀ a i, (1 ≤ a ∧ a ≤ 64) → g a i = h a i)  : qC g (W) := by
  apply qC.mk
  · exact (e _ _ (by omega)).trans hh.nS
  · exact (e _ _ (by omega)).trans hh.nP
  · exact (e _ _ (by omega)).trans hh.nC
  · exact (e _ _ (by omega)).trans hh.cold
  · exact (e _ _ (by omega)).trans hh.drift
  · exact (e _ _ (by omega)).trans hh.now
  · exact (e _ _ (by omega)).trans hh.given
  · intro s y; exact (e _ _ (by omega)).trans (hh.price s y)
  · intro s y; exact (e _ _ (by omega)).trans (hh.km s y)
  · intro s y; exact (e _ _ (by omega)).trans (hh.pow s y)
  · intro s y; exact (e _ _ (by omega)).trans (hh.wait s y)
  · intro s y; exact (e _ _ (by omega)).trans (hh.sgiv s y)
  · intro s y; exact (e _ _ (by omega)).trans (hh.first s y)
  · intro s y; exact (e _ _ (by omega)).trans (hh.cap s y)
  · intro s y; exact (e _ _ (by omega)).trans (hh.idle s y)
  · intro s y; exact (e _ _ (by omega)).trans (hh.after s y)
  · intro s y; exact (e _ _ (by omega)).trans (hh.qn s y)
  · intro s y; exact (e _ _ (by omega)).trans (hh.pn s y)
  · intro s y k c y2; exact (e _ _ (by omega)).trans (hh.q s y k c y2)
  · intro s y k c y2; exact (e _ _ (by omega)).trans (hh.p s y k c y2)
  · intro s y; exact (e _ _ (by omega)).trans (hh.psite s y)
  · intro s y; exact (e _ _ (by omega)).trans (hh.pmost s y)
  · intro s y; exact (e _ _ (by omega)).trans (hh.pcab s y)
  · intro s y; exact (e _ _ (by omega)).trans (hh.pcar s y)
  · intro s y; exact (e _ _ (by omega)).trans (hh.pfail s y)
  · intro s y; exact (e _ _ (by omega)).trans (hh.psays s y)
  · intro s y; exact (e _ _ (by omega)).trans (hh.bat s y)
  · intro s y; exact (e _ _ (by omega)).trans (hh.use s y)
  · intro s y; exact (e _ _ (by omega)).trans (hh.rate s y)
  · intro s y; exact (e _ _ (by omega)).trans (hh.cab s y)
  · intro s y; exact (e _ _ (by omega)).trans (hh.chg s y)
  · intro s y; exact (e _ _ (by omega)).trans (hh.wh s y)
  · intro s y; exact (e _ _ (by omega)).trans (hh.want s y)
  · intro s y; exact (e _ _ (by omega)).trans (hh.stay s y)
  · intro s y; exact (e _ _ (by omega)).trans (hh.idl s y)
  · intro s y; exact (e _ _ (by omega)).trans (hh.idlAll s y)
  · intro s y; exact (e _ _ (by omega)).trans (hh.got s y)
  · intro s y; exact (e _ _ (by omega)).trans (hh.waited s y)
  · intro s y; exact (e _ _ (by omega)).trans (hh.pays s y)
  · intro s y; exact (e _ _ (by omega)).trans (hh.tried s y)
  · intro s y; exact (e _ _ (by omega)).trans (hh.plugAt s y)
  · exact (e _ _ (by omega)).trans hh.trn
  · obtain ⟨o, ho, k1, k2⟩ := hh.tr
    exact ⟨o, ho, (e _ _ (by omega)).trans k1, fun i x hx => ⟨(e _ _ (by omega)).trans (k2 i x hx).1, (e _ _ (by omega)).trans (k2 i x hx).2.1, (e _ _ (by omega)).trans (k2 i x hx).2.2.1, (e _ _ (by omega)).trans (k2 i x hx).2.2.2⟩⟩
  · exact (e _ _ (by omega)).trans hh.bAn
  · intro i x y; exact ⟨(e _ _ (by omega)).trans (hh.bA i x y).1, (e _ _ (by omega)).trans (hh.bA i x y).2.1, (e _ _ (by omega)).trans (hh.bA i x y).2.2⟩
  · exact (e _ _ (by omega)).trans hh.bBn
  · intro i x y; exact ⟨(e _ _ (by omega)).trans (hh.bB i x y).1, (e _ _ (by omega)).trans (hh.bB i x y).2.1, (e _ _ (by omega)).trans (hh.bB i x y).2.2⟩

theorem qR_trU {h g : zk_H} {W : qW} (hh : qR (fun r => h (179 + r)) W) {l : List (Nat × Nat × Nat × Nat)} (e : ∀ a i, (179 ≤ a ∧ a < 187 ∧ a ≠ 185 ∧ (a = 179 → i ≠ 4)) → g a i = h a i) (e1 : g 179 4 = nI l.length) (e2 : ∀ i x, l[i]? = some x → g 185 (4 * i) = nI x.1 ∧ g 185 (4 * i + 1) = nI x.2.1 ∧ g 185 (4 * i + 2) = nI x.2.2.1 ∧ g 185 (4 * i + 3) = nI x.2.2.2) : qR (fun r => g (179 + r)) (W.upT l) := by
  apply qR.mk
  · exact (e _ _ (by omega)).trans hh.now
  · exact (e _ _ (by omega)).trans hh.nS
  · exact (e _ _ (by omega)).trans hh.nP
  · exact (e _ _ (by omega)).trans hh.nC
  · exact e1
  · exact (e _ _ (by omega)).trans hh.bAn
  · exact (e _ _ (by omega)).trans hh.bBn
  · exact (e _ _ (by omega)).trans hh.cold
  · exact (e _ _ (by omega)).trans hh.drift
  · exact (e _ _ (by omega)).trans hh.given
  · intro s y; exact (e _ _ (by omega)).trans (hh.price s y)
  · intro s y; exact (e _ _ (by omega)).trans (hh.km s y)
  · intro s y; exact (e _ _ (by omega)).trans (hh.pow s y)
  · intro s y; exact (e _ _ (by omega)).trans (hh.first s y)
  · intro s y; exact (e _ _ (by omega)).trans (hh.cap s y)
  · intro s y; exact (e _ _ (by omega)).trans (hh.idle s y)
  · intro s y; exact (e _ _ (by omega)).trans (hh.after s y)
  · intro s y; exact (e _ _ (by omega)).trans (hh.qn s y)
  · intro s y; exact (e _ _ (by omega)).trans (hh.wait s y)
  · intro s y; exact (e _ _ (by omega)).trans (hh.sgiv s y)
  · intro s y k c y2; exact (e _ _ (by omega)).trans (hh.q s y k c y2)
  · intro s y; exact (e _ _ (by omega)).trans (hh.psite s y)
  · intro s y; exact (e _ _ (by omega)).trans (hh.pmost s y)
  · intro s y; exact (e _ _ (by omega)).trans (hh.pcab s y)
  · intro s y; exact (e _ _ (by omega)).trans (hh.pcar s y)
  · intro s y; exact (e _ _ (by omega)).trans (hh.pfail s y)
  · intro s y; exact (e _ _ (by omega)).trans (hh.psays s y)
  · intro s y; exact (e _ _ (by omega)).trans (hh.bat s y)
  · intro s y; exact (e _ _ (by omega)).trans (hh.use s y)
  · intro s y; exact (e _ _ (by omega)).trans (hh.rate s y)
  · intro s y; exact (e _ _ (by omega)).trans (hh.cab s y)
  · intro s y; exact (e _ _ (by omega)).trans (hh.chg s y)
  · intro s y; exact (e _ _ (by omega)).trans (hh.wh s y)
  · intro s y; exact (e _ _ (by omega)).trans (hh.want s y)
  · intro s y; exact (e _ _ (by omega)).trans (hh.stay s y)
  · intro s y; exact (e _ _ (by omega)).trans (hh.got s y)
  · intro s y; exact (e _ _ (by omega)).trans (hh.waited s y)
  · intro s y; exact (e _ _ (by omega)).trans (hh.idlAll s y)
  · intro s y; exact (e _ _ (by omega)).trans (hh.pays s y)
  · intro s y; exact (e _ _ (by omega)).trans (hh.tried s y)
  · intro s y; exact (e _ _ (by omega)).trans (hh.idl s y)
  · intro s y; exact (e _ _ (by omega)).trans (hh.plugAt s y)
  · exact e2
  · intro i x y; exact ⟨(e _ _ (by omega)).trans (hh.bA i x y).1, (e _ _ (by omega)).trans (hh.bA i x y).2.1, (e _ _ (by omega)).trans (hh.bA i x y).2.2⟩
  · intro i x y; exact ⟨(e _ _ (by omega)).trans (hh.bB i x y).1, (e _ _ (by omega)).trans (hh.bB i x y).2.1, (e _ _ (by omega)).trans (hh.bB i x y).2.2⟩

theorem qR_qU {h g : zk_H} {W : qW} (hh : qR (fun r => h (179 + r)) W) (hf : ∀ t, (W.q t).length ≤ 12) {s : Nat} {l : List Nat} (e : ∀ a i, (179 ≤ a ∧ a < 187 ∧ (a = 180 → i ≠ 9 * s + 6) ∧ (a = 181 → i < 12 * s ∨ 12 * s + 12 ≤ i)) → g a i = h a i) (e1 : g 180 (9 * s + 6) = nI l.length) (e2 : ∀ k c, l[k]? = some c → g 181 (12 * s + k) = nI c) : qR (fun r => g (179 + r)) (W.upQ s l) := by
  apply qR.mk
  · exact (e _ _ (by omega)).trans hh.now
  · exact (e _ _ (by omega)).trans hh.nS
  · exact (e _ _ (by omega)).trans hh.nP
  · exact (e _ _ (by omega)).trans hh.nC
  · exact (e _ _ (by omega)).trans hh.trn
  · exact (e _ _ (by omega)).trans hh.bAn
  · exact (e _ _ (by omega)).trans hh.bBn
  · exact (e _ _ (by omega)).trans hh.cold
  · exact (e _ _ (by omega)).trans hh.drift
  · exact (e _ _ (by omega)).trans hh.given
  · intro s y; exact (e _ _ (by omega)).trans (hh.price s y)
  · intro s y; exact (e _ _ (by omega)).trans (hh.km s y)
  · intro s y; exact (e _ _ (by omega)).trans (hh.pow s y)
  · intro s y; exact (e _ _ (by omega)).trans (hh.first s y)
  · intro s y; exact (e _ _ (by omega)).trans (hh.cap s y)
  · intro s y; exact (e _ _ (by omega)).trans (hh.idle s y)
  · intro s y; exact (e _ _ (by omega)).trans (hh.after s y)
  · intro t y; rw [quQ_q]; by_cases ht : t = s
    · rw [if_pos ht, ht]; exact e1
    · rw [if_neg ht]; exact (e _ _ (by omega)).trans (hh.qn t y)
  · intro s y; exact (e _ _ (by omega)).trans (hh.wait s y)
  · intro s y; exact (e _ _ (by omega)).trans (hh.sgiv s y)
  · intro t y k c y2; rw [quQ_q] at y2; by_cases ht : t = s
    · rw [if_pos ht] at y2; rw [ht]; exact e2 k c y2
    · rw [if_neg ht] at y2; have hk1 := (List.getElem?_eq_some_iff.1 y2).1; have hk2 := hf t; exact (e _ _ (by omega)).trans (hh.q t y k c y2)
  · intro s y; exact (e _ _ (by omega)).trans (hh.psite s y)
  · intro s y; exact (e _ _ (by omega)).trans (hh.pmost s y)
  · intro s y; exact (e _ _ (by omega)).trans (hh.pcab s y)
  · intro s y; exact (e _ _ (by omega)).trans (hh.pcar s y)
  · intro s y; exact (e _ _ (by omega)).trans (hh.pfail s y)
  · intro s y; exact (e _ _ (by omega)).trans (hh.psays s y)
  · intro s y; exact (e _ _ (by omega)).trans (hh.bat s y)
  · intro s y; exact (e _ _ (by omega)).trans (hh.use s y)
  · intro s y; exact (e _ _ (by omega)).trans (hh.rate s y)
  · intro s y; exact (e _ _ (by omega)).trans (hh.cab s y)
  · intro s y; exact (e _ _ (by omega)).trans (hh.chg s y)
  · intro s y; exact (e _ _ (by omega)).trans (hh.wh s y)
  · intro s y; exact (e _ _ (by omega)).trans (hh.want s y)
  · intro s y; exact (e _ _ (by omega)).trans (hh.stay s y)
  · intro s y; exact (e _ _ (by omega)).trans (hh.got s y)
  · intro s y; exact (e _ _ (by omega)).trans (hh.waited s y)
  · intro s y; exact (e _ _ (by omega)).trans (hh.idlAll s y)
  · intro s y; exact (e _ _ (by omega)).trans (hh.pays s y)
  · intro s y; exact (e _ _ (by omega)).trans (hh.tried s y)
  · intro s y; exact (e _ _ (by omega)).trans (hh.idl s y)
  · intro s y; exact (e _ _ (by omega)).trans (hh.plugAt s y)
  · intro i x y; exact ⟨(e _ _ (by omega)).trans (hh.tr i x y).1, (e _ _ (by omega)).trans (hh.tr i x y).2.1, (e _ _ (by omega)).trans (hh.tr i x y).2.2.1, (e _ _ (by omega)).trans (hh.tr i x y).2.2.2⟩
  · intro i x y; exact ⟨(e _ _ (by omega)).trans (hh.bA i x y).1, (e _ _ (by omega)).trans (hh.bA i x y).2.1, (e _ _ (by omega)).trans (hh.bA i x y).2.2⟩
  · intro i x y; exact ⟨(e _ _ (by omega)).trans (hh.bB i x y).1, (e _ _ (by omega)).trans (hh.bB i x y).2.1, (e _ _ (by omega)).trans (hh.bB i x y).2.2⟩

theorem qR_pU {h g : zk_H} {W : qW} (hh : qR (fun r => h (179 + r)) W) {p : Nat} {v : Option Nat} (e : ∀ a i, (179 ≤ a ∧ a < 187 ∧ (a = 182 → i ≠ 6 * p + 3)) → g a i = h a i) (e1 : g 182 (6 * p + 3) = qoc v) : qR (fun r => g (179 + r)) (W.upP p v) := by
  apply qR.mk
  · exact (e _ _ (by omega)).trans hh.now
  · exact (e _ _ (by omega)).trans hh.nS
  · exact (e _ _ (by omega)).trans hh.nP
  · exact (e _ _ (by omega)).trans hh.nC
  · exact (e _ _ (by omega)).trans hh.trn
  · exact (e _ _ (by omega)).trans hh.bAn
  · exact (e _ _ (by omega)).trans hh.bBn
  · exact (e _ _ (by omega)).trans hh.cold
  · exact (e _ _ (by omega)).trans hh.drift
  · exact (e _ _ (by omega)).trans hh.given
  · intro s y; exact (e _ _ (by omega)).trans (hh.price s y)
  · intro s y; exact (e _ _ (by omega)).trans (hh.km s y)
  · intro s y; exact (e _ _ (by omega)).trans (hh.pow s y)
  · intro s y; exact (e _ _ (by omega)).trans (hh.first s y)
  · intro s y; exact (e _ _ (by omega)).trans (hh.cap s y)
  · intro s y; exact (e _ _ (by omega)).trans (hh.idle s y)
  · intro s y; exact (e _ _ (by omega)).trans (hh.after s y)
  · intro s y; exact (e _ _ (by omega)).trans (hh.qn s y)
  · intro s y; exact (e _ _ (by omega)).trans (hh.wait s y)
  · intro s y; exact (e _ _ (by omega)).trans (hh.sgiv s y)
  · intro s y k c y2; exact (e _ _ (by omega)).trans (hh.q s y k c y2)
  · intro s y; exact (e _ _ (by omega)).trans (hh.psite s y)
  · intro s y; exact (e _ _ (by omega)).trans (hh.pmost s y)
  · intro s y; exact (e _ _ (by omega)).trans (hh.pcab s y)
  · intro t y; rw [quP_pcar]; by_cases ht : t = p
    · rw [if_pos ht, ht]; exact e1
    · rw [if_neg ht]; exact (e _ _ (by omega)).trans (hh.pcar t y)
  · intro s y; exact (e _ _ (by omega)).trans (hh.pfail s y)
  · intro s y; exact (e _ _ (by omega)).trans (hh.psays s y)
  · intro s y; exact (e _ _ (by omega)).trans (hh.bat s y)
  · intro s y; exact (e _ _ (by omega)).trans (hh.use s y)
  · intro s y; exact (e _ _ (by omega)).trans (hh.rate s y)
  · intro s y; exact (e _ _ (by omega)).trans (hh.cab s y)
  · intro s y; exact (e _ _ (by omega)).trans (hh.chg s y)
  · intro s y; exact (e _ _ (by omega)).trans (hh.wh s y)
  · intro s y; exact (e _ _ (by omega)).trans (hh.want s y)
  · intro s y; exact (e _ _ (by omega)).trans (hh.stay s y)
  · intro s y; exact (e _ _ (by omega)).trans (hh.got s y)
  · intro s y; exact (e _ _ (by omega)).trans (hh.waited s y)
  · intro s y; exact (e _ _ (by omega)).trans (hh.idlAll s y)
  · intro s y; exact (e _ _ (by omega)).trans (hh.pays s y)
  · intro s y; exact (e _ _ (by omega)).trans (hh.tried s y)
  · intro s y; exact (e _ _ (by omega)).trans (hh.idl s y)
  · intro s y; exact (e _ _ (by omega)).trans (hh.plugAt s y)
  · intro i x y; exact ⟨(e _ _ (by omega)).trans (hh.tr i x y).1, (e _ _ (by omega)).trans (hh.tr i x y).2.1, (e _ _ (by omega)).trans (hh.tr i x y).2.2.1, (e _ _ (by omega)).trans (hh.tr i x y).2.2.2⟩
  · intro i x y; exact ⟨(e _ _ (by omega)).trans (hh.bA i x y).1, (e _ _ (by omega)).trans (hh.bA i x y).2.1, (e _ _ (by omega)).trans (hh.bA i x y).2.2⟩
  · intro i x y; exact ⟨(e _ _ (by omega)).trans (hh.bB i x y).1, (e _ _ (by omega)).trans (hh.bB i x y).2.1, (e _ _ (by omega)).trans (hh.bB i x y).2.2⟩

theorem qR_bAU {h g : zk_H} {W : qW} (hh : qR (fun r => h (179 + r)) W) (hf : qWf W) {l : List (Nat × Nat × Nat)} (e : ∀ a i, (179 ≤ a ∧ a < 187 ∧ (a = 179 → i ≠ 5) ∧ (a = 186 → 21 ≤ i)) → g a i = h a i) (e1 : g 179 5 = nI l.length) (e2 : ∀ i x, l[i]? = some x → g 186 (3 * i) = nI x.1 ∧ g 186 (3 * i + 1) = nI x.2.1 ∧ g 186 (3 * i + 2) = nI x.2.2) : qR (fun r => g (179 + r)) (W.upA l) := by
  apply qR.mk
  · exact (e _ _ (by omega)).trans hh.now
  · exact (e _ _ (by omega)).trans hh.nS
  · exact (e _ _ (by omega)).trans hh.nP
  · exact (e _ _ (by omega)).trans hh.nC
  · exact (e _ _ (by omega)).trans hh.trn
  · exact e1
  · exact (e _ _ (by omega)).trans hh.bBn
  · exact (e _ _ (by omega)).trans hh.cold
  · exact (e _ _ (by omega)).trans hh.drift
  · exact (e _ _ (by omega)).trans hh.given
  · intro s y; exact (e _ _ (by omega)).trans (hh.price s y)
  · intro s y; exact (e _ _ (by omega)).trans (hh.km s y)
  · intro s y; exact (e _ _ (by omega)).trans (hh.pow s y)
  · intro s y; exact (e _ _ (by omega)).trans (hh.first s y)
  · intro s y; exact (e _ _ (by omega)).trans (hh.cap s y)
  · intro s y; exact (e _ _ (by omega)).trans (hh.idle s y)
  · intro s y; exact (e _ _ (by omega)).trans (hh.after s y)
  · intro s y; exact (e _ _ (by omega)).trans (hh.qn s y)
  · intro s y; exact (e _ _ (by omega)).trans (hh.wait s y)
  · intro s y; exact (e _ _ (by omega)).trans (hh.sgiv s y)
  · intro s y k c y2; exact (e _ _ (by omega)).trans (hh.q s y k c y2)
  · intro s y; exact (e _ _ (by omega)).trans (hh.psite s y)
  · intro s y; exact (e _ _ (by omega)).trans (hh.pmost s y)
  · intro s y; exact (e _ _ (by omega)).trans (hh.pcab s y)
  · intro s y; exact (e _ _ (by omega)).trans (hh.pcar s y)
  · intro s y; exact (e _ _ (by omega)).trans (hh.pfail s y)
  · intro s y; exact (e _ _ (by omega)).trans (hh.psays s y)
  · intro s y; exact (e _ _ (by omega)).trans (hh.bat s y)
  · intro s y; exact (e _ _ (by omega)).trans (hh.use s y)
  · intro s y; exact (e _ _ (by omega)).trans (hh.rate s y)
  · intro s y; exact (e _ _ (by omega)).trans (hh.cab s y)
  · intro s y; exact (e _ _ (by omega)).trans (hh.chg s y)
  · intro s y; exact (e _ _ (by omega)).trans (hh.wh s y)
  · intro s y; exact (e _ _ (by omega)).trans (hh.want s y)
  · intro s y; exact (e _ _ (by omega)).trans (hh.stay s y)
  · intro s y; exact (e _ _ (by omega)).trans (hh.got s y)
  · intro s y; exact (e _ _ (by omega)).trans (hh.waited s y)
  · intro s y; exact (e _ _ (by omega)).trans (hh.idlAll s y)
  · intro s y; exact (e _ _ (by omega)).trans (hh.pays s y)
  · intro s y; exact (e _ _ (by omega)).trans (hh.tried s y)
  · intro s y; exact (e _ _ (by omega)).trans (hh.idl s y)
  · intro s y; exact (e _ _ (by omega)).trans (hh.plugAt s y)
  · intro i x y; exact ⟨(e _ _ (by omega)).trans (hh.tr i x y).1, (e _ _ (by omega)).trans (hh.tr i x y).2.1, (e _ _ (by omega)).trans (hh.tr i x y).2.2.1, (e _ _ (by omega)).trans (hh.tr i x y).2.2.2⟩
  · exact e2
  · intro i x y; exact ⟨(e _ _ (by omega)).trans (hh.bB i x y).1, (e _ _ (by omega)).trans (hh.bB i x y).2.1, (e _ _ (by omega)).trans (hh.bB i x y).2.2⟩

theorem qR_bBU {h g : zk_H} {W : qW} (hh : qR (fun r => h (179 + r)) W) (hf : qWf W) {l : List (Nat × Nat × Nat)} (e : ∀ a i, (179 ≤ a ∧ a < 187 ∧ (a = 179 → i ≠ 6) ∧ (a = 186 → i < 21)) → g a i = h a i) (e1 : g 179 6 = nI l.length) (e2 : ∀ i x, l[i]? = some x → g 186 (21 + 3 * i) = nI x.1 ∧ g 186 (21 + 3 * i + 1) = nI x.2.1 ∧ g 186 (21 + 3 * i + 2) = nI x.2.2) : qR (fun r => g (179 + r)) (W.upB l) := by
  apply qR.mk
  · exact (e _ _ (by omega)).trans hh.now
  · exact (e _ _ (by omega)).trans hh.nS
  · exact (e _ _ (by omega)).trans hh.nP
  · exact (e _ _ (by omega)).trans hh.nC
  · exact (e _ _ (by omega)).trans hh.trn
  · exact (e _ _ (by omega)).trans hh.bAn
  · exact e1
  · exact (e _ _ (by omega)).trans hh.cold
  · exact (e _ _ (by omega)).trans hh.drift
  · exact (e _ _ (by omega)).trans hh.given
  · intro s y; exact (e _ _ (by omega)).trans (hh.price s y)
  · intro s y; exact (e _ _ (by omega)).trans (hh.km s y)
  · intro s y; exact (e _ _ (by omega)).trans (hh.pow s y)
  · intro s y; exact (e _ _ (by omega)).trans (hh.first s y)
  · intro s y; exact (e _ _ (by omega)).trans (hh.cap s y)
  · intro s y; exact (e _ _ (by omega)).trans (hh.idle s y)
  · intro s y; exact (e _ _ (by omega)).trans (hh.after s y)
  · intro s y; exact (e _ _ (by omega)).trans (hh.qn s y)
  · intro s y; exact (e _ _ (by omega)).trans (hh.wait s y)
  · intro s y; exact (e _ _ (by omega)).trans (hh.sgiv s y)
  · intro s y k c y2; exact (e _ _ (by omega)).trans (hh.q s y k c y2)
  · intro s y; exact (e _ _ (by omega)).trans (hh.psite s y)
  · intro s y; exact (e _ _ (by omega)).trans (hh.pmost s y)
  · intro s y; exact (e _ _ (by omega)).trans (hh.pcab s y)
  · intro s y; exact (e _ _ (by omega)).trans (hh.pcar s y)
  · intro s y; exact (e _ _ (by omega)).trans (hh.pfail s y)
  · intro s y; exact (e _ _ (by omega)).trans (hh.psays s y)
  · intro s y; exact (e _ _ (by omega)).trans (hh.bat s y)
  · intro s y; exact (e _ _ (by omega)).trans (hh.use s y)
  · intro s y; exact (e _ _ (by omega)).trans (hh.rate s y)
  · intro s y; exact (e _ _ (by omega)).trans (hh.cab s y)
  · intro s y; exact (e _ _ (by omega)).trans (hh.chg s y)
  · intro s y; exact (e _ _ (by omega)).trans (hh.wh s y)
  · intro s y; exact (e _ _ (by omega)).trans (hh.want s y)
  · intro s y; exact (e _ _ (by omega)).trans (hh.stay s y)
  · intro s y; exact (e _ _ (by omega)).trans (hh.got s y)
  · intro s y; exact (e _ _ (by omega)).trans (hh.waited s y)
  · intro s y; exact (e _ _ (by omega)).trans (hh.idlAll s y)
  · intro s y; exact (e _ _ (by omega)).trans (hh.pays s y)
  · intro s y; exact (e _ _ (by omega)).trans (hh.tried s y)
  · intro s y; exact (e _ _ (by omega)).trans (hh.idl s y)
  · intro s y; exact (e _ _ (by omega)).trans (hh.plugAt s y)
  · intro i x y; exact ⟨(e _ _ (by omega)).trans (hh.tr i x y).1, (e _ _ (by omega)).trans (hh.tr i x y).2.1, (e _ _ (by omega)).trans (hh.tr i x y).2.2.1, (e _ _ (by omega)).trans (hh.tr i x y).2.2.2⟩
  · intro i x y
    have y1 := (List.getElem?_eq_some_iff.1 y).1
    have y2 := hf.bAN
    have y3 : i < 7 := Nat.lt_of_lt_of_le y1 y2
    exact ⟨(e _ _ (by omega)).trans (hh.bA i x y).1, (e _ _ (by omega)).trans (hh.bA i x y).2.1, (e _ _ (by omega)).trans (hh.bA i x y).2.2⟩
  · exact e2

theorem qR_same {h g : zk_H} {W : qW} (hh : qR (fun r => h (179 + r)) W)  (e : ∀ a i, (179 ≤ a ∧ a < 187) → g a i = h a i)  : qR (fun r => g (179 + r)) (W) := by
  apply qR.mk
  · exact (e _ _ (by omega)).trans hh.now
  · exact (e _ _ (by omega)).trans hh.nS
  · exact (e _ _ (by omega)).trans hh.nP
  · exact (e _ _ (by omega)).trans hh.nC
  · exact (e _ _ (by omega)).trans hh.trn
  · exact (e _ _ (by omega)).trans hh.bAn
  · exact (e _ _ (by omega)).trans hh.bBn
  · exact (e _ _ (by omega)).trans hh.cold
  · exact (e _ _ (by omega)).trans hh.drift
  · exact (e _ _ (by omega)).trans hh.given
  · intro s y; exact (e _ _ (by omega)).trans (hh.price s y)
  · intro s y; exact (e _ _ (by omega)).trans (hh.km s y)
  · intro s y; exact (e _ _ (by omega)).trans (hh.pow s y)
  · intro s y; exact (e _ _ (by omega)).trans (hh.first s y)
  · intro s y; exact (e _ _ (by omega)).trans (hh.cap s y)
  · intro s y; exact (e _ _ (by omega)).trans (hh.idle s y)
  · intro s y; exact (e _ _ (by omega)).trans (hh.after s y)
  · intro s y; exact (e _ _ (by omega)).trans (hh.qn s y)
  · intro s y; exact (e _ _ (by omega)).trans (hh.wait s y)
  · intro s y; exact (e _ _ (by omega)).trans (hh.sgiv s y)
  · intro s y k c y2; exact (e _ _ (by omega)).trans (hh.q s y k c y2)
  · intro s y; exact (e _ _ (by omega)).trans (hh.psite s y)
  · intro s y; exact (e _ _ (by omega)).trans (hh.pmost s y)
  · intro s y; exact (e _ _ (by omega)).trans (hh.pcab s y)
  · intro s y; exact (e _ _ (by omega)).trans (hh.pcar s y)
  · intro s y; exact (e _ _ (by omega)).trans (hh.pfail s y)
  · intro s y; exact (e _ _ (by omega)).trans (hh.psays s y)
  · intro s y; exact (e _ _ (by omega)).trans (hh.bat s y)
  · intro s y; exact (e _ _ (by omega)).trans (hh.use s y)
  · intro s y; exact (e _ _ (by omega)).trans (hh.rate s y)
  · intro s y; exact (e _ _ (by omega)).trans (hh.cab s y)
  · intro s y; exact (e _ _ (by omega)).trans (hh.chg s y)
  · intro s y; exact (e _ _ (by omega)).trans (hh.wh s y)
  · intro s y; exact (e _ _ (by omega)).trans (hh.want s y)
  · intro s y; exact (e _ _ (by omega)).trans (hh.stay s y)
  · intro s y; exact (e _ _ (by omega)).trans (hh.got s y)
  · intro s y; exact (e _ _ (by omega)).trans (hh.waited s y)
  · intro s y; exact (e _ _ (by omega)).trans (hh.idlAll s y)
  · intro s y; exact (e _ _ (by omega)).trans (hh.pays s y)
  · intro s y; exact (e _ _ (by omega)).trans (hh.tried s y)
  · intro s y; exact (e _ _ (by omega)).trans (hh.idl s y)
  · intro s y; exact (e _ _ (by omega)).trans (hh.plugAt s y)
  · intro i x y; exact ⟨(e _ _ (by omega)).trans (hh.tr i x y).1, (e _ _ (by omega)).trans (hh.tr i x y).2.1, (e _ _ (by omega)).trans (hh.tr i x y).2.2.1, (e _ _ (by omega)).trans (hh.tr i x y).2.2.2⟩
  · intro i x y; exact ⟨(e _ _ (by omega)).trans (hh.bA i x y).1, (e _ _ (by omega)).trans (hh.bA i x y).2.1, (e _ _ (by omega)).trans (hh.bA i x y).2.2⟩
  · intro i x y; exact ⟨(e _ _ (by omega)).trans (hh.bB i x y).1, (e _ _ (by omega)).trans (hh.bB i x y).2.1, (e _ _ (by omega)).trans (hh.bB i x y).2.2⟩

