-- charging: what it is, on both sides
set_option maxRecDepth 4000
set_option maxHeartbeats 400000
theorem qWf_ch1 {W : qW} (hf : qWf W) {c x y : Nat} {g : Nat} (hc : c < W.nC) (hw : W.wh c ≠ 0) (hg : W.chg c + g ≤ W.want c) : qWf (((W.up 28 c (W.chg c + g)).up 34 c x).up 36 c y) := by
  apply qWf.mk
  · exact hf.hS
  · exact hf.hP
  · exact hf.hC
  · exact hf.cold
  · exact hf.drift
  · exact hf.now
  · exact hf.price
  · exact hf.km
  · exact hf.inc
  · exact hf.pow
  · exact hf.wait
  · exact hf.first
  · exact hf.cap
  · exact hf.idle
  · exact hf.after
  · exact hf.freshS
  · exact hf.psite
  · exact hf.pmost
  · exact hf.pcab
  · exact hf.pfail
  · exact hf.psays
  · exact hf.freshP
  · exact hf.bat
  · exact hf.use
  · exact hf.rate
  · exact hf.cab
  · intro j hj
    simp only [qu_chg, qu_bat]
    have h1 := hf.chg j hj
    have h2 := hf.wantOk c hc hw
    by_cases hjc : j = c
    · subst hjc; simp; omega
    · simp [hjc]; exact h1
  · exact hf.stay
  · exact hf.tried
  · exact hf.plugAt
  · intro j hj
    have hj : W.nC ≤ j := hj
    have z := hf.freshC j hj
    have hjc : j ≠ c := by omega
    refine ⟨z.1, z.2.1, z.2.2.1, z.2.2.2.1, z.2.2.2.2.1, ?_, z.2.2.2.2.2.2.1, ?_, z.2.2.2.2.2.2.2.2⟩
    · simp only [qu_got]; simp [hjc]; exact z.2.2.2.2.2.1
    · simp only [qu_pays]; simp [hjc]; exact z.2.2.2.2.2.2.2.1
  · exact hf.whOk
  · intro j hj hz
    simp only [qu_chg, qu_bat, qu_want]
    have h2 := hf.wantOk j hj hz
    by_cases hjc : j = c
    · subst hjc; simp; omega
    · simp [hjc]; exact h2
  · exact hf.qOk
  · exact hf.qNo
  · exact hf.carOk
  · exact hf.trN
  · exact hf.trOk
  · exact hf.bAN
  · exact hf.bBN
  · exact hf.bAOk
  · exact hf.bBOk
theorem qWf_sgiv {W : qW} (hf : qWf W) {s x : Nat} (hs : s < W.nS) : qWf (W.up 14 s x) := by
  apply qWf.mk
  · exact hf.hS
  · exact hf.hP
  · exact hf.hC
  · exact hf.cold
  · exact hf.drift
  · exact hf.now
  · exact hf.price
  · exact hf.km
  · exact hf.inc
  · exact hf.pow
  · exact hf.wait
  · exact hf.first
  · exact hf.cap
  · exact hf.idle
  · exact hf.after
  · intro t ht
    have ht : W.nS ≤ t := ht
    have z := hf.freshS t ht
    refine ⟨z.1, z.2.1, z.2.2.1, ?_, z.2.2.2.2⟩
    simp only [qu_sgiv]; rw [if_neg (by omega)]; exact z.2.2.2.1
  · exact hf.psite
  · exact hf.pmost
  · exact hf.pcab
  · exact hf.pfail
  · exact hf.psays
  · exact hf.freshP
  · exact hf.bat
  · exact hf.use
  · exact hf.rate
  · exact hf.cab
  · exact hf.chg
  · exact hf.stay
  · exact hf.tried
  · exact hf.plugAt
  · exact hf.freshC
  · exact hf.whOk
  · exact hf.wantOk
  · exact hf.qOk
  · exact hf.qNo
  · exact hf.carOk
  · exact hf.trN
  · exact hf.trOk
  · exact hf.bAN
  · exact hf.bBN
  · exact hf.bAOk
  · exact hf.bBOk
theorem qWf_given {W : qW} (hf : qWf W) {x : Nat} : qWf (W.up 0 6 x) := by
  apply qWf.mk
  · exact hf.hS
  · exact hf.hP
  · exact hf.hC
  · exact hf.cold
  · exact hf.drift
  · exact hf.now
  · exact hf.price
  · exact hf.km
  · exact hf.inc
  · exact hf.pow
  · exact hf.wait
  · exact hf.first
  · exact hf.cap
  · exact hf.idle
  · exact hf.after
  · exact hf.freshS
  · exact hf.psite
  · exact hf.pmost
  · exact hf.pcab
  · exact hf.pfail
  · exact hf.psays
  · exact hf.freshP
  · exact hf.bat
  · exact hf.use
  · exact hf.rate
  · exact hf.cab
  · exact hf.chg
  · exact hf.stay
  · exact hf.tried
  · exact hf.plugAt
  · exact hf.freshC
  · exact hf.whOk
  · exact hf.wantOk
  · exact hf.qOk
  · exact hf.qNo
  · exact hf.carOk
  · exact hf.trN
  · exact hf.trOk
  · exact hf.bAN
  · exact hf.bBN
  · exact hf.bAOk
  · exact hf.bBOk
theorem qWf_idl1 {W : qW} (hf : qWf W) {c x y z : Nat} (hc : c < W.nC) : qWf (((W.up 32 c x).up 33 c y).up 36 c z) := by
  apply qWf.mk
  · exact hf.hS
  · exact hf.hP
  · exact hf.hC
  · exact hf.cold
  · exact hf.drift
  · exact hf.now
  · exact hf.price
  · exact hf.km
  · exact hf.inc
  · exact hf.pow
  · exact hf.wait
  · exact hf.first
  · exact hf.cap
  · exact hf.idle
  · exact hf.after
  · exact hf.freshS
  · exact hf.psite
  · exact hf.pmost
  · exact hf.pcab
  · exact hf.pfail
  · exact hf.psays
  · exact hf.freshP
  · exact hf.bat
  · exact hf.use
  · exact hf.rate
  · exact hf.cab
  · exact hf.chg
  · exact hf.stay
  · exact hf.tried
  · exact hf.plugAt
  · intro j hj
    have hj : W.nC ≤ j := hj
    have z := hf.freshC j hj
    have hjc : j ≠ c := by omega
    refine ⟨z.1, z.2.1, z.2.2.1, ?_, ?_, z.2.2.2.2.2.1, z.2.2.2.2.2.2.1, ?_, z.2.2.2.2.2.2.2.2⟩
    · simp only [qu_idl]; simp [hjc]; exact z.2.2.2.1
    · simp only [qu_idlAll]; simp [hjc]; exact z.2.2.2.2.1
    · simp only [qu_pays]; simp [hjc]; exact z.2.2.2.2.2.2.2.1
  · exact hf.whOk
  · exact hf.wantOk
  · exact hf.qOk
  · exact hf.qNo
  · exact hf.carOk
  · exact hf.trN
  · exact hf.trOk
  · exact hf.bAN
  · exact hf.bBN
  · exact hf.bAOk
  · exact hf.bBOk
theorem qWf_wait1 {W : qW} (hf : qWf W) {c x : Nat} (hc : c < W.nC) : qWf (W.up 35 c x) := by
  apply qWf.mk
  · exact hf.hS
  · exact hf.hP
  · exact hf.hC
  · exact hf.cold
  · exact hf.drift
  · exact hf.now
  · exact hf.price
  · exact hf.km
  · exact hf.inc
  · exact hf.pow
  · exact hf.wait
  · exact hf.first
  · exact hf.cap
  · exact hf.idle
  · exact hf.after
  · exact hf.freshS
  · exact hf.psite
  · exact hf.pmost
  · exact hf.pcab
  · exact hf.pfail
  · exact hf.psays
  · exact hf.freshP
  · exact hf.bat
  · exact hf.use
  · exact hf.rate
  · exact hf.cab
  · exact hf.chg
  · exact hf.stay
  · exact hf.tried
  · exact hf.plugAt
  · intro j hj
    have hj : W.nC ≤ j := hj
    have z := hf.freshC j hj
    have hjc : j ≠ c := by omega
    refine ⟨z.1, z.2.1, z.2.2.1, z.2.2.2.1, z.2.2.2.2.1, z.2.2.2.2.2.1, ?_, z.2.2.2.2.2.2.2⟩
    simp only [qu_waited]; simp [hjc]; exact z.2.2.2.2.2.2.1
  · exact hf.whOk
  · exact hf.wantOk
  · exact hf.qOk
  · exact hf.qNo
  · exact hf.carOk
  · exact hf.trN
  · exact hf.trOk
  · exact hf.bAN
  · exact hf.bBN
  · exact hf.bAOk
  · exact hf.bBOk
theorem qWf_now1 {W : qW} (hf : qWf W) (hn : W.now + 1 ≤ 2000) : qWf (W.up 0 5 (W.now + 1)) := by
  apply qWf.mk
  · exact hf.hS
  · exact hf.hP
  · exact hf.hC
  · exact hf.cold
  · exact hf.drift
  · exact hn
  · exact hf.price
  · exact hf.km
  · exact hf.inc
  · exact hf.pow
  · exact hf.wait
  · exact hf.first
  · exact hf.cap
  · exact hf.idle
  · exact hf.after
  · exact hf.freshS
  · exact hf.psite
  · exact hf.pmost
  · exact hf.pcab
  · exact hf.pfail
  · exact hf.psays
  · exact hf.freshP
  · exact hf.bat
  · exact hf.use
  · exact hf.rate
  · exact hf.cab
  · exact hf.chg
  · exact hf.stay
  · exact hf.tried
  · intro j
    exact Nat.le_trans (hf.plugAt j) (Nat.le_succ _)
  · exact hf.freshC
  · exact hf.whOk
  · exact hf.wantOk
  · exact hf.qOk
  · exact hf.qNo
  · exact hf.carOk
  · exact hf.trN
  · exact hf.trOk
  · exact hf.bAN
  · exact hf.bBN
  · exact hf.bAOk
  · exact hf.bBOk
theorem qchR_eq {G : Nat → Nat} {W : qW} {p c : Nat} (hpc : W.pcar p = some c) : qchR G W p = if 0 < G p then ((W.up 28 c (W.chg c + G p)).up 34 c (W.got c + G p)).up 36 c (W.pays c + G p * qpr W) else W := by
  unfold qchR; rw [hpc]
theorem qchR_no {G : Nat → Nat} {W : qW} {p : Nat} (hpc : W.pcar p = none) : qchR G W p = W := by
  unfold qchR; rw [hpc]
theorem qchR_2 (G : Nat → Nat) (W : qW) (p : Nat) : (qchR G W p).2 = W.2 := by
  cases hpc : W.pcar p with
  | none => rw [qchR_no hpc]
  | some c => rw [qchR_eq hpc]; split <;> rfl
theorem qchR_n {G : Nat → Nat} {W : qW} {p f i : Nat} (h1 : f ≠ 28) (h2 : f ≠ 34) (h3 : f ≠ 36) : (qchR G W p).1 f i = W.1 f i := by
  cases hpc : W.pcar p with
  | none => rw [qchR_no hpc]
  | some c =>
    rw [qchR_eq hpc]
    split
    · simp [qW.up, h1, h2, h3]
    · rfl
theorem qchl_2 (G : Nat → Nat) : ∀ (l : List Nat) (W : qW), (l.foldl (qchR G) W).2 = W.2
  | [], _ => rfl
  | p :: l, W => by rw [List.foldl_cons, qchl_2 G l, qchR_2]
theorem qchl_n {G : Nat → Nat} {f i : Nat} (h1 : f ≠ 28) (h2 : f ≠ 34) (h3 : f ≠ 36) : ∀ (l : List Nat) (W : qW), (l.foldl (qchR G) W).1 f i = W.1 f i
  | [], _ => rfl
  | p :: l, W => by rw [List.foldl_cons, qchl_n h1 h2 h3 l, qchR_n h1 h2 h3]
theorem qchl_wf {G : Nat → Nat} : ∀ (l : List Nat) (W : qW), l.Nodup → qWf W → (∀ p c, p ∈ l → W.pcar p = some c → W.chg c + G p ≤ W.want c) → qWf (l.foldl (qchR G) W)
  | [], _, _, hf, _ => hf
  | p :: l, W, hn, hf, hg => by
    rw [List.foldl_cons]
    have hn2 := List.nodup_cons.1 hn
    refine qchl_wf l _ hn2.2 ?_ ?_
    · cases hpc : W.pcar p with
      | none => rw [qchR_no hpc]; exact hf
      | some c =>
        rw [qchR_eq hpc]
        have hcw := hf.carOk p c hpc
        split
        · exact qWf_ch1 hf hcw.1 (by rw [hcw.2]; omega) (hg p c List.mem_cons_self hpc)
        · exact hf
    · intro q d hq hqd
      have e2 := qchR_2 G W p
      have hqd2 : W.pcar q = some d := by rw [← hqd]; unfold qW.pcar; rw [e2]
      have e3 : (qchR G W p).want d = W.want d := qchR_n (by omega) (by omega) (by omega)
      have e4 : (qchR G W p).chg d = W.chg d := by
        cases hpc : W.pcar p with
        | none => rw [qchR_no hpc]
        | some c =>
          have hdc : d ≠ c := by
            intro z; rw [z] at hqd2
            have := qcar_inj hf hqd2 hpc
            rw [this] at hq; exact hn2.1 hq
          rw [qchR_eq hpc]
          split
          · simp [qu_chg, hdc]
          · rfl
      rw [e3, e4]
      exact hg q d (List.mem_cons_of_mem _ hq) hqd2
theorem qsml_cons (G : Nat → Nat) (l : List Nat) : ∀ a, l.foldl (fun x p => x + G p) a = a + qsml G l := by
  unfold qsml
  induction l with
  | nil => intro a; rfl
  | cons p l ih => intro a; rw [List.foldl_cons, List.foldl_cons, ih, ih (0 + G p)]; omega
theorem qchl_join {G : Nat → Nat} {s : Nat} : ∀ (l : List Nat) (X : qW) (a b : Nat), (∀ p, X.pcar p = none → G p = 0) → l.foldl (qchC G s) ((X.up 14 s a).up 0 6 b) = ((l.foldl (qchR G) X).up 14 s (a + qsml G l)).up 0 6 (b + qsml G l)
  | [], X, a, b, _ => rfl
  | p :: l, X, a, b, hn => by
    rw [List.foldl_cons, qch_join (hn p), List.foldl_cons, qchl_join l _ _ _ ?_]
    · have : qsml G (p :: l) = G p + qsml G l := by
        show l.foldl (fun x p => x + G p) (0 + G p) = _
        rw [qsml_cons]; omega
      rw [this, Nat.add_assoc, Nat.add_assoc]
    · intro q hq
      apply hn q
      rw [← hq]; unfold qW.pcar; rw [qchR_2]
/-- charging at site s: without what the world has given -/
def qchg (G : Nat → Nat) (s : Nat) (W : qW) : qW := ((W.pl s).foldl (qchR G) W).up 14 s (W.sgiv s + qsml G (W.pl s))
theorem qchg_C {G : Nat → Nat} {s : Nat} {W : qW} (hn : ∀ p, W.pcar p = none → G p = 0) : (W.pl s).foldl (qchC G s) W = (qchg G s W).up 0 6 (W.given + qsml G (W.pl s)) := by
  have h := qchl_join (G := G) (s := s) (W.pl s) W (W.sgiv s) W.given hn
  rw [qW_self W (f := 14) (i := s) (x := W.sgiv s) rfl, qW_self W (f := 0) (i := 6) (x := W.given) rfl] at h
  exact h
theorem qchg_R {G : Nat → Nat} {s : Nat} {W : qW} (h0 : ∀ p, W.psite p ≠ s → G p = 0) : (List.range W.nP).foldl (qchR G) W = (W.pl s).foldl (qchR G) W := by
  unfold qW.pl
  apply qfs_filter (qchR G) (qchR G) (fun p => decide (W.psite p = s))
  · intro x p _; rfl
  · intro x p h
    have h1 := h0 p (by simpa using h)
    cases hpc : x.pcar p with
    | none => exact qchR_no hpc
    | some c => rw [qchR_eq hpc, if_neg (by omega)]
theorem qsml_R {G : Nat → Nat} {s : Nat} {W : qW} (h0 : ∀ p, W.psite p ≠ s → G p = 0) : qsml G (List.range W.nP) = qsml G (W.pl s) := by
  unfold qW.pl qsml
  apply qfs_filter (fun x p => x + G p) (fun x p => x + G p) (fun p => decide (W.psite p = s))
  · intro x p _; rfl
  · intro x p h
    have h1 := h0 p (by simpa using h)
    show x + G p = x
    omega
theorem qchg_sta (G : Nat → Nat) (s : Nat) (W : qW) : qsta W (qchg G s W) := by
  intro f i h
  have h2 := qchl_n (G := G) (f := f) (i := i) (by omega) (by omega) (by omega) (W.pl s) W
  rw [← h2]
  unfold qchg
  show (if f = 14 ∧ i = s then _ else _) = _
  rw [if_neg (by omega)]
theorem qchg_2 (G : Nat → Nat) (s : Nat) (W : qW) : (qchg G s W).2 = W.2 := qchl_2 G (W.pl s) W
theorem qchg_wf {G : Nat → Nat} {s : Nat} {W : qW} (hf : qWf W) (hs : s < W.nS) (hg : ∀ p c, W.pcar p = some c → W.chg c + G p ≤ W.want c) : qWf (qchg G s W) := by
  unfold qchg
  have h1 := qchl_wf (G := G) (W.pl s) W (qpl_nd W s) hf (fun p c _ h => hg p c h)
  refine qWf_sgiv h1 ?_
  have h2 : ((W.pl s).foldl (qchR G) W).nS = W.nS := qchl_n (by omega) (by omega) (by omega) _ _
  rw [h2]; exact hs
