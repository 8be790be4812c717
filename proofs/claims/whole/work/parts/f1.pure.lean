-- trips: the tables as functions, and why both are the same
set_option maxRecDepth 4000
set_option maxHeartbeats 400000
def qlv (T : Nat → Nat) (lt lc x : Nat) : Nat := if x < lc then 1000000 else lt * 8 + T (x - lc)
def qwc (g l : Nat → Nat) : Nat → Nat → Nat
  | 0, x => l x
  | f + 1, x => if 0 < g x then (if 8 + qwc g l f (x + g x) < l x then 8 + qwc g l f (x + g x) else l x) else l x
def qoa (g l : Nat → Nat) (w x : Nat) : Nat := if 0 < g x then (if w * 8 + 1 + (8 + qwc g l 201 (x + g x)) < l x then w * 8 + 1 + (8 + qwc g l 201 (x + g x)) else l x) else l x
/-- how many ticks more the class charges -/
def qfo (g l : Nat → Nat) : Nat → Nat → Nat
  | 0, _ => 0
  | f + 1, x => if qwc g l 201 x < l x then 1 + qfo g l f (x + g x) else 0
def qgo (B : Nat → Nat × Nat × Nat) (lt lc x : Nat) : Nat × Nat := if x < lc then (1000000, 0) else if (B (x - lc)).1 < 1000000 then (lt + (B (x - lc)).1, (B (x - lc)).2.1) else (1000000, 0)
def qcnd (o : Nat × Nat) (w t : Nat) (b : Nat × Nat × Nat) : Nat × Nat × Nat := if o.1 < 1000000 ∧ (o.1 + w + t < b.1 ∨ o.1 + w + t = b.1 ∧ o.2 + 1 < b.2.1) then (o.1 + w + t, o.2 + 1, t) else b
def qrc (g : Nat → Nat) (go : Nat → Nat × Nat) (w : Nat) : Nat → Nat → Nat → Nat × Nat × Nat → Nat × Nat × Nat
  | 0, _, _, b => b
  | f + 1, t, x, b => if 0 < g x then qrc g go w f (t + 1) (x + g x) (qcnd (go (x + g x)) w (t + 1) b) else b
def qrb (g : Nat → Nat) (go : Nat → Nat × Nat) (w x : Nat) : Nat × Nat × Nat := qrc g go w 201 0 x ((go x).1, (go x).2, 0)
theorem qwc_le (g l : Nat → Nat) : ∀ f x, qwc g l f x ≤ l x
  | 0, x => Nat.le_refl _
  | f + 1, x => by
    unfold qwc
    split
    · split <;> omega
    · omega
theorem qwc_st {g l : Nat → Nat} {b : Nat} (hg : ∀ x, x ≤ b → x + g x ≤ b) : ∀ f x, x ≤ b → b - x ≤ f → qwc g l (f + 1) x = qwc g l f x
  | 0, x, hx, hf => by
    have := hg x hx
    unfold qwc
    rw [if_neg (by omega)]
  | f + 1, x, hx, hf => by
    rw [qwc]
    conv => rhs; rw [qwc]
    by_cases h : 0 < g x
    · have := hg x hx
      rw [qwc_st hg f (x + g x) (by omega) (by omega)]
    · rw [if_neg h, if_neg h]
theorem qwc_eq {g l : Nat → Nat} {b : Nat} (hg : ∀ x, x ≤ b → x + g x ≤ b) {x : Nat} (hx : x ≤ b) {f : Nat} (hf : b - x ≤ f) : ∀ d, qwc g l (f + d) x = qwc g l f x
  | 0 => rfl
  | d + 1 => by
    rw [← Nat.add_assoc, qwc_st hg (f + d) x hx (by omega)]
    exact qwc_eq hg hx hf d
theorem qwc_201 {g l : Nat → Nat} {b : Nat} (hb : b ≤ 200) (hg : ∀ x, x ≤ b → x + g x ≤ b) {x : Nat} (hx : x ≤ b) : qwc g l 201 x = if 0 < g x then (if 8 + qwc g l 201 (x + g x) < l x then 8 + qwc g l 201 (x + g x) else l x) else l x := by
  have h := hg x hx
  have e : qwc g l 201 (x + g x) = qwc g l 200 (x + g x) := qwc_st hg 200 _ h (by omega)
  rw [qwc, e]
theorem qfo_st {g l : Nat → Nat} {b : Nat} (hg : ∀ x, x ≤ b → x + g x ≤ b) : ∀ f x, x ≤ b → b - x ≤ f → qfo g l (f + 1) x = qfo g l f x
  | 0, x, hx, hf => by
    have := hg x hx
    have e : qwc g l 201 x = l x := by
      rw [qwc, if_neg (by omega)]
    show (if qwc g l 201 x < l x then _ else _) = 0
    rw [if_neg (by omega)]
  | f + 1, x, hx, hf => by
    rw [qfo]
    conv => rhs; rw [qfo]
    by_cases h : qwc g l 201 x < l x
    · have h2 := hg x hx
      have h3 : 0 < g x := by
        rw [qwc] at h
        by_cases h4 : 0 < g x
        · exact h4
        · rw [if_neg h4] at h; omega
      rw [qfo_st hg f (x + g x) h2 (by omega)]
    · rw [if_neg h, if_neg h]
theorem qwc_up {g l : Nat → Nat} {b : Nat} (hg : ∀ x, x ≤ b → x + g x ≤ b) {x : Nat} (hx : x ≤ b) {f : Nat} (hf : b - x ≤ f) (hf2 : f ≤ 201) : qwc g l f x = qwc g l 201 x := by
  have := qwc_eq (l := l) hg hx hf (201 - f)
  rw [show f + (201 - f) = 201 by omega] at this
  exact this.symm
/-- a value of the class's and a pair of the reference's -/
def qrll (E v t s : Nat) : Prop := (t < 1000000 ∧ s < 8 ∧ v = 8 * t + s ∧ v ≤ E) ∨ (t = 1000000 ∧ s = 0 ∧ 1000000 ≤ v)
theorem qlv_rl {T : Nat → Nat} {B : Nat → Nat × Nat × Nat} {E lt lc x : Nat} (hE : E ≤ 500000) (hl : lt ≤ 200) (h : lc ≤ x → qrll E (T (x - lc)) (B (x - lc)).1 (B (x - lc)).2.1) : qrll (E + 1600) (qlv T lt lc x) (qgo B lt lc x).1 (qgo B lt lc x).2 := by
  unfold qlv qgo
  by_cases h1 : x < lc
  · rw [if_pos h1, if_pos h1]; right; exact ⟨rfl, rfl, Nat.le_refl _⟩
  · rw [if_neg h1, if_neg h1]
    rcases h (by omega) with ⟨a, b, c, d⟩ | ⟨a, b, c⟩
    · rw [if_pos a]; left; refine ⟨?_, ?_, ?_, ?_⟩
      · show lt + (B (x - lc)).1 < 1000000
        omega
      · exact b
      · show _ = 8 * (lt + (B (x - lc)).1) + (B (x - lc)).2.1
        omega
      · omega
    · rw [if_neg (by omega)]; right; exact ⟨rfl, rfl, by omega⟩
theorem qwc_bd {g l : Nat → Nat} {b E : Nat} (hg : ∀ x, x ≤ b → x + g x ≤ b) (hl : ∀ x, x ≤ b → l x < 1000000 → l x ≤ E) : ∀ f x, x ≤ b → qwc g l f x < 1000000 → qwc g l f x ≤ E + 8 * (b - x)
  | 0, x, hx, h => by
    have : l x ≤ E := hl x hx h
    show l x ≤ _
    omega
  | f + 1, x, hx, h => by
    rw [qwc] at h ⊢
    by_cases h1 : 0 < g x
    · rw [if_pos h1] at h ⊢
      have h2 := hg x hx
      have ih := qwc_bd hg hl f (x + g x) h2
      by_cases h3 : 8 + qwc g l f (x + g x) < l x
      · rw [if_pos h3] at h ⊢
        have := ih (by omega)
        omega
      · rw [if_neg h3] at h ⊢
        have := hl x hx h
        omega
    · rw [if_neg h1] at h ⊢
      have := hl x hx h
      omega
def qpkd (b : Nat × Nat × Nat) : Nat := 8 * b.1 + b.2.1
/-- what the reference finds from a charge on, against the best so far -/
theorem qrc_ok {g l : Nat → Nat} {go : Nat → Nat × Nat} {b w E k : Nat} (hk : k < 7) (hb : b ≤ 200) (hE : E ≤ 500000) (hw : w ≤ 99) (hg : ∀ x, x ≤ b → x + g x ≤ b) (hr : ∀ x, x ≤ b → qrll E (l x) (go x).1 (go x).2 ∧ (go x).2 ≤ k) :
    ∀ f t x (bs : Nat × Nat × Nat), x ≤ b → b - x ≤ f → f ≤ 201 → t + f ≤ 402 → bs.2.1 ≤ k + 1 →
      (0 < g x ∧ qwc g l 201 (x + g x) < 1000000 ∧ w * 8 + 1 + 8 * t + (8 + qwc g l 201 (x + g x)) < qpkd bs → qpkd (qrc g go w f t x bs) = w * 8 + 1 + 8 * t + (8 + qwc g l 201 (x + g x)) ∧ (qrc g go w f t x bs).2.1 ≤ k + 1 ∧ (qrc g go w f t x bs).1 < 1000000 ∧ (qrc g go w f t x bs).2.2 = t + 1 + qfo g l 201 (x + g x)) ∧
      (¬ (0 < g x ∧ qwc g l 201 (x + g x) < 1000000 ∧ w * 8 + 1 + 8 * t + (8 + qwc g l 201 (x + g x)) < qpkd bs) → qrc g go w f t x bs = bs)
  | 0, t, x, bs, hx, hf, _, _, _ => by
    have := hg x hx
    refine ⟨fun h => by omega, fun _ => rfl⟩
  | f + 1, t, x, bs, hx, hf, hf2, htf, hs => by
    rw [qrc]
    by_cases h1 : 0 < g x
    · rw [if_pos h1]
      have hx2 := hg x hx
      generalize hy : x + g x = y at hx2
      have hxy : b - y ≤ f := by omega
      have e1 := qwc_201 (l := l) hb hg hx2
      obtain ⟨hry, hsy⟩ := hr y hx2
      have hbd := qwc_bd (l := l) (E := E) hg (fun z hz h => by
        rcases (hr z hz).1 with ⟨_, _, _, d⟩ | ⟨_, _, d⟩ <;> omega) 201
      have e2 : qfo g l 201 y = if qwc g l 201 y < l y then 1 + qfo g l 200 (y + g y) else 0 := rfl
      have hcs : (qcnd (go y) w (t + 1) bs).2.1 ≤ k + 1 := by
        unfold qcnd; split
        · show (go y).2 + 1 ≤ k + 1
          omega
        · exact hs
      have hc : ((go y).1 < 1000000 ∧ w * 8 + 1 + 8 * (t + 1) + l y < qpkd bs ∧ qcnd (go y) w (t + 1) bs = ((go y).1 + w + (t + 1), (go y).2 + 1, t + 1) ∧ l y = 8 * (go y).1 + (go y).2 ∧ qpkd (qcnd (go y) w (t + 1) bs) = w * 8 + 1 + 8 * (t + 1) + l y) ∨ (qcnd (go y) w (t + 1) bs = bs ∧ ((1000000 ≤ l y) ∨ (l y < 1000000 ∧ qpkd bs ≤ w * 8 + 1 + 8 * (t + 1) + l y))) := by
        rcases hry with ⟨a, c, d, e⟩ | ⟨a, c, d⟩
        · by_cases hz : w * 8 + 1 + 8 * (t + 1) + l y < qpkd bs
          · left
            have e3 : qcnd (go y) w (t + 1) bs = ((go y).1 + w + (t + 1), (go y).2 + 1, t + 1) := by
              unfold qcnd; rw [if_pos]
              refine ⟨a, ?_⟩
              unfold qpkd at hz
              omega
            refine ⟨a, hz, e3, d, ?_⟩
            rw [e3]
            show 8 * ((go y).1 + w + (t + 1)) + ((go y).2 + 1) = _
            omega
          · right
            refine ⟨?_, Or.inr ⟨by omega, by omega⟩⟩
            unfold qcnd; rw [if_neg]
            unfold qpkd at hz
            omega
        · right
          refine ⟨?_, Or.inl d⟩
          unfold qcnd; rw [if_neg]; omega
      obtain ⟨ih1, ih2⟩ := qrc_ok hk hb hE hw hg hr f (t + 1) y (qcnd (go y) w (t + 1) bs) hx2 hxy (by omega) (by omega) hcs
      by_cases h2 : 0 < g y
      · rw [if_pos h2] at e1
        have hz2 := hg y hx2
        have hb2 := hbd (y + g y) hz2
        have hst : qfo g l 200 (y + g y) = qfo g l 201 (y + g y) := (qfo_st hg 200 (y + g y) hz2 (by omega)).symm
        by_cases h3 : 8 + qwc g l 201 (y + g y) < l y
        · rw [if_pos h3] at e1
          rw [e1]
          rw [e2, e1, if_pos h3, hst]
          refine ⟨fun h => ?_, fun h => ?_⟩
          · have hcc : w * 8 + 1 + 8 * (t + 1) + (8 + qwc g l 201 (y + g y)) < qpkd (qcnd (go y) w (t + 1) bs) := by
              rcases hc with ⟨c1, c2, c3, c4, c5⟩ | ⟨c1, c2⟩
              · rw [c5]; omega
              · rw [c1]; omega
            obtain ⟨p1, p2, p3, p4⟩ := ih1 ⟨h2, by omega, hcc⟩
            exact ⟨by omega, p2, p3, by omega⟩
          · have hbs : qcnd (go y) w (t + 1) bs = bs := by
              rcases hc with ⟨c1, c2, c3, c4, c5⟩ | ⟨c1, c2⟩
              · exfalso; apply h
                have hly : l y ≤ E := by rcases hry with ⟨a, c, d, e⟩ | ⟨a, c, d⟩ <;> omega
                have := hb2 (by omega)
                refine ⟨h1, by omega, by omega⟩
              · exact c1
            rw [hbs] at ih2 ⊢
            apply ih2
            rintro ⟨q1, q2, q3⟩
            apply h
            have := hb2 q2
            exact ⟨h1, by omega, by omega⟩
        · rw [if_neg h3] at e1
          rw [e1, e2, e1, if_neg (by omega)]
          refine ⟨fun h => ?_, fun h => ?_⟩
          · rcases hc with ⟨c1, c2, c3, c4, c5⟩ | ⟨c1, c2⟩
            · rw [ih2 (by rw [c5]; omega), c5, c3]
              refine ⟨by omega, ?_, ?_, rfl⟩
              · show (go y).2 + 1 ≤ k + 1
                omega
              · show (go y).1 + w + (t + 1) < 1000000
                rcases hry with ⟨a, c, d, e⟩ | ⟨a, c, d⟩ <;> omega
            · exfalso; omega
          · rcases hc with ⟨c1, c2, c3, c4, c5⟩ | ⟨c1, c2⟩
            · exfalso; apply h
              rcases hry with ⟨a, c, d, e⟩ | ⟨a, c, d⟩ <;> exact ⟨h1, by omega, by omega⟩
            · rw [c1] at ih2 ⊢
              exact ih2 (by omega)
      · rw [if_neg h2] at e1
        rw [e1, e2, e1, if_neg (by omega)]
        have ih3 := ih2 (fun z => h2 z.1)
        rw [ih3]
        refine ⟨fun h => ?_, fun h => ?_⟩
        · rcases hc with ⟨c1, c2, c3, c4, c5⟩ | ⟨c1, c2⟩
          · rw [c5, c3]
            refine ⟨by omega, ?_, ?_, rfl⟩
            · show (go y).2 + 1 ≤ k + 1
              omega
            · show (go y).1 + w + (t + 1) < 1000000
              rcases hry with ⟨a, c, d, e⟩ | ⟨a, c, d⟩ <;> omega
          · exfalso; omega
        · rcases hc with ⟨c1, c2, c3, c4, c5⟩ | ⟨c1, c2⟩
          · exfalso; apply h
            rcases hry with ⟨a, c, d, e⟩ | ⟨a, c, d⟩ <;> exact ⟨h1, by omega, by omega⟩
          · exact c1
    · rw [if_neg h1]
      exact ⟨fun h => absurd h.1 h1, fun _ => rfl⟩
def qsy (g l : Nat → Nat) (w x : Nat) : Nat := if qoa g l w x < l x then 1 + qfo g l 201 (x + g x) else 0
theorem qrb_ok {g l : Nat → Nat} {go : Nat → Nat × Nat} {b w E k : Nat} (hk : k < 7) (hb : b ≤ 200) (hE : E ≤ 400000) (hw : w ≤ 99) (hg : ∀ x, x ≤ b → x + g x ≤ b) (hr : ∀ x, x ≤ b → qrll E (l x) (go x).1 (go x).2 ∧ (go x).2 ≤ k) {x : Nat} (hx : x ≤ b) :
    qrll (E + 3000) (qoa g l w x) (qrb g go w x).1 (qrb g go w x).2.1 ∧ (qrb g go w x).2.1 ≤ k + 1 ∧ (qoa g l w x < 1000000 → (qrb g go w x).2.2 = qsy g l w x) := by
  obtain ⟨hx1, hx2⟩ := hr x hx
  obtain ⟨h1, h2⟩ := qrc_ok hk hb (by omega) hw hg hr 201 0 x ((go x).1, (go x).2, 0) hx (by omega) (by omega) (by omega) (by show (go x).2 ≤ k + 1; omega)
  have hp : qpkd ((go x).1, (go x).2, 0) = 8 * (go x).1 + (go x).2 := rfl
  have hbd := qwc_bd (l := l) (E := E) hg (fun z hz h => by
    rcases (hr z hz).1 with ⟨_, _, _, d⟩ | ⟨_, _, d⟩ <;> omega) 201
  unfold qrb
  by_cases hc : 0 < g x ∧ qwc g l 201 (x + g x) < 1000000 ∧ w * 8 + 1 + 8 * 0 + (8 + qwc g l 201 (x + g x)) < qpkd ((go x).1, (go x).2, 0)
  · obtain ⟨p1, p2, p3, p4⟩ := h1 hc
    have hb3 := hbd (x + g x) (hg x hx) hc.2.1
    have e1 : qoa g l w x = w * 8 + 1 + (8 + qwc g l 201 (x + g x)) := by
      unfold qoa
      rw [if_pos hc.1, if_pos]
      rcases hx1 with ⟨a, c, d, e⟩ | ⟨a, c, d⟩ <;> omega
    have e2 : qoa g l w x < l x := by
      rcases hx1 with ⟨a, c, d, e⟩ | ⟨a, c, d⟩ <;> omega
    unfold qsy
    rw [if_pos e2]
    rw [e1]
    generalize qrc g go w 201 0 x ((go x).1, (go x).2, 0) = r at p1 p2 p3 p4 ⊢
    have e3 : qpkd r = 8 * r.1 + r.2.1 := rfl
    refine ⟨Or.inl ⟨p3, by omega, by omega, by omega⟩, p2, fun _ => by omega⟩
  · rw [h2 hc]
    show qrll (E + 3000) (qoa g l w x) (go x).1 (go x).2 ∧ (go x).2 ≤ k + 1 ∧ (qoa g l w x < 1000000 → 0 = qsy g l w x)
    have hle : qoa g l w x ≤ l x := by
      unfold qoa; split
      · split <;> omega
      · omega
    rcases hx1 with ⟨a, c, d, e⟩ | ⟨a, c, d⟩
    · have e1 : qoa g l w x = l x := by
        unfold qoa
        split
        · rename_i hg0
          rw [if_neg]
          intro z
          apply hc
          exact ⟨hg0, by omega, by omega⟩
        · rfl
      refine ⟨Or.inl ⟨a, c, by omega, by omega⟩, by omega, fun _ => ?_⟩
      unfold qsy; rw [if_neg (by omega)]
    · have e1 : 1000000 ≤ qoa g l w x := by
        unfold qoa
        split
        · rename_i hg0
          split
          · rename_i hz
            by_cases hq : qwc g l 201 (x + g x) < 1000000
            · exfalso
              have := hbd (x + g x) (hg x hx) hq
              apply hc
              exact ⟨hg0, hq, by omega⟩
            · omega
          · exact d
        · exact d
      exact ⟨Or.inr ⟨a, c, e1⟩, by omega, fun z => by omega⟩
/-! charging on and on -/
def qch (g : Nat → Nat) : Nat → Nat → Nat
  | 0, x => x
  | t + 1, x => qch g t (x + g x)
theorem qch_le {g : Nat → Nat} {b : Nat} (hg : ∀ x, x ≤ b → x + g x ≤ b) : ∀ t x, x ≤ b → qch g t x ≤ b
  | 0, _, hx => hx
  | t + 1, x, hx => qch_le hg t (x + g x) (hg x hx)
theorem qch_s (g : Nat → Nat) : ∀ t x, qch g (t + 1) x = qch g t x + g (qch g t x)
  | 0, x => rfl
  | t + 1, x => by
    rw [qch, qch_s g t (x + g x)]
    rfl
theorem qwc_lt {g l : Nat → Nat} {x : Nat} (h : qwc g l 201 x < l x) : 0 < g x := by
  rw [qwc] at h
  by_cases h4 : 0 < g x
  · exact h4
  · rw [if_neg h4] at h; omega
theorem qfo_b {g l : Nat → Nat} {b : Nat} (hg : ∀ x, x ≤ b → x + g x ≤ b) : ∀ f x, x ≤ b → qfo g l f x ≤ b - x
  | 0, _, _ => Nat.zero_le _
  | f + 1, x, hx => by
    rw [qfo]
    split
    · rename_i h
      have h1 := qwc_lt h
      have h2 := hg x hx
      have := qfo_b (l := l) hg f (x + g x) h2
      omega
    · exact Nat.zero_le _
theorem qfo_201 {g l : Nat → Nat} {b : Nat} (hb : b ≤ 200) (hg : ∀ x, x ≤ b → x + g x ≤ b) {x : Nat} (hx : x ≤ b) : qfo g l 201 x = if qwc g l 201 x < l x then 1 + qfo g l 201 (x + g x) else 0 := by
  have h2 := hg x hx
  rw [← qfo_st (l := l) hg 200 (x + g x) h2 (by omega) |>.symm]
  rfl
theorem qfo_fe {g l : Nat → Nat} {b : Nat} (hb : b ≤ 200) (hg : ∀ x, x ≤ b → x + g x ≤ b) : ∀ f x, x ≤ b → b - x ≤ f → qwc g l 201 x < 1000000 → l (qch g (qfo g l f x) x) < 1000000
  | 0, x, hx, hf, h => by
    have h2 := hg x hx
    have : qwc g l 201 x = l x := by rw [qwc, if_neg (by omega)]
    show l x < _
    omega
  | f + 1, x, hx, hf, h => by
    rw [qfo]
    by_cases h1 : qwc g l 201 x < l x
    · rw [if_pos h1]
      have h2 := hg x hx
      have h3 := qwc_lt h1
      rw [Nat.add_comm 1, qch]
      refine qfo_fe hb hg f (x + g x) h2 (by omega) ?_
      rw [qwc_201 hb hg hx, if_pos h3] at h h1
      split at h
      · omega
      · rename_i z; rw [if_neg z] at h1; omega
    · rw [if_neg h1]
      have := qwc_le g l 201 x
      show l x < _
      omega
theorem qsy_fe {g l : Nat → Nat} {b w x : Nat} (hb : b ≤ 200) (hg : ∀ x, x ≤ b → x + g x ≤ b) (hx : x ≤ b) (h : qoa g l w x < 1000000) : l (qch g (qsy g l w x) x) < 1000000 := by
  unfold qsy
  split
  · rename_i h1
    have h2 := hg x hx
    rw [Nat.add_comm 1, qch]
    refine qfo_fe hb hg 201 (x + g x) h2 (by omega) ?_
    unfold qoa at h h1
    split at h
    · split at h
      · omega
      · rename_i a c
        rw [if_pos a, if_neg c] at h1; omega
    · rename_i a
      rw [if_neg a] at h1; omega
  · rename_i h1
    have : qoa g l w x ≤ l x := by
      unfold qoa; split
      · split <;> omega
      · omega
    show l x < _
    omega
theorem qsy_b {g l : Nat → Nat} {b w x : Nat} (hg : ∀ x, x ≤ b → x + g x ≤ b) (hx : x ≤ b) : qsy g l w x ≤ b := by
  unfold qsy
  split
  · rename_i h1
    have h2 := hg x hx
    have h3 : 0 < g x := by
      unfold qoa at h1
      split at h1
      · assumption
      · omega
    have := qfo_b (l := l) hg 201 (x + g x) h2
    omega
  · exact Nat.zero_le _
/-! all levels -/
def qTA (n : Nat) (g : Nat → Nat → Nat) (LT LC w : Nat → Nat) : Nat → Nat → Nat
  | 0 => fun _ => 0
  | j + 1 => qoa (g (n - (j + 1))) (qlv (qTA n g LT LC w j) (LT (n - (j + 1) + 1)) (LC (n - (j + 1) + 1))) (w (n - (j + 1)))
def qTB (n : Nat) (g : Nat → Nat → Nat) (LT LC w : Nat → Nat) : Nat → Nat → Nat × Nat × Nat
  | 0 => fun _ => (0, 0, 0)
  | j + 1 => qrb (g (n - (j + 1))) (qgo (qTB n g LT LC w j) (LT (n - (j + 1) + 1)) (LC (n - (j + 1) + 1))) (w (n - (j + 1)))
def qAL (n : Nat) (g : Nat → Nat → Nat) (LT LC w : Nat → Nat) (k : Nat) : Nat → Nat := qTA n g LT LC w (n - k)
def qBL (n : Nat) (g : Nat → Nat → Nat) (LT LC w : Nat → Nat) (k : Nat) : Nat → Nat × Nat × Nat := qTB n g LT LC w (n - k)
section QTL
variable {n : Nat} {g : Nat → Nat → Nat} {LT LC w : Nat → Nat} {b : Nat}
theorem qAL_n : qAL n g LT LC w n = fun _ => 0 := by
  unfold qAL; rw [Nat.sub_self]; rfl
theorem qBL_n : qBL n g LT LC w n = fun _ => (0, 0, 0) := by
  unfold qBL; rw [Nat.sub_self]; rfl
theorem qAL_k {k : Nat} (hk : k < n) : qAL n g LT LC w k = qoa (g k) (qlv (qAL n g LT LC w (k + 1)) (LT (k + 1)) (LC (k + 1))) (w k) := by
  unfold qAL
  obtain ⟨j, hj⟩ : ∃ j, n - k = j + 1 := ⟨n - k - 1, by omega⟩
  rw [hj, show n - (k + 1) = j by omega, qTA, show n - (j + 1) = k by omega]
theorem qBL_k {k : Nat} (hk : k < n) : qBL n g LT LC w k = qrb (g k) (qgo (qBL n g LT LC w (k + 1)) (LT (k + 1)) (LC (k + 1))) (w k) := by
  unfold qBL
  obtain ⟨j, hj⟩ : ∃ j, n - k = j + 1 := ⟨n - k - 1, by omega⟩
  rw [hj, show n - (k + 1) = j by omega, qTB, show n - (j + 1) = k by omega]
theorem qgo_s {B : Nat → Nat × Nat × Nat} {lt lc x j : Nat} (h : lc ≤ x → (B (x - lc)).2.1 ≤ j) : (qgo B lt lc x).2 ≤ j := by
  unfold qgo
  split
  · exact Nat.zero_le _
  · split
    · exact h (by omega)
    · exact Nat.zero_le _
theorem qlev_ok (hn : n ≤ 6) (hb : b ≤ 200) (hLT : ∀ k, LT k ≤ 200) (hw : ∀ k, w k ≤ 99) (hg : ∀ k x, x ≤ b → x + g k x ≤ b) : ∀ d k, k + d = n →
    ∀ x, x ≤ b → qrll (5000 * d) (qAL n g LT LC w k x) (qBL n g LT LC w k x).1 (qBL n g LT LC w k x).2.1 ∧ (qBL n g LT LC w k x).2.1 ≤ d ∧ (k < n → qAL n g LT LC w k x < 1000000 → (qBL n g LT LC w k x).2.2 = qsy (g k) (qlv (qAL n g LT LC w (k + 1)) (LT (k + 1)) (LC (k + 1))) (w k) x)
  | 0, k, hk, x, hx => by
    have : k = n := by omega
    subst this
    rw [qAL_n, qBL_n]
    exact ⟨Or.inl ⟨by show 0 < 1000000; omega, by show 0 < 8; omega, rfl, Nat.le_refl _⟩, Nat.le_refl _, fun h => by omega⟩
  | d + 1, k, hk, x, hx => by
    have ih := qlev_ok hn hb hLT hw hg d (k + 1) (by omega)
    rw [qAL_k (by omega), qBL_k (by omega)]
    generalize qAL n g LT LC w (k + 1) = T at ih ⊢
    generalize qBL n g LT LC w (k + 1) = B at ih ⊢
    have hr : ∀ x, x ≤ b → qrll (5000 * d + 1600) (qlv T (LT (k + 1)) (LC (k + 1)) x) (qgo B (LT (k + 1)) (LC (k + 1)) x).1 (qgo B (LT (k + 1)) (LC (k + 1)) x).2 ∧ (qgo B (LT (k + 1)) (LC (k + 1)) x).2 ≤ d := by
      intro y hy
      exact ⟨qlv_rl (by omega) (hLT _) (fun h => (ih (y - LC (k + 1)) (by omega)).1), qgo_s (fun h => (ih (y - LC (k + 1)) (by omega)).2.1)⟩
    obtain ⟨h1, h2, h3⟩ := qrb_ok (k := d) (by omega) hb (by omega) (hw k) (hg k) hr hx
    refine ⟨?_, h2, fun _ => h3⟩
    rcases h1 with ⟨a1, a2, a3, a4⟩ | ⟨a1, a2, a3⟩
    · exact Or.inl ⟨a1, a2, a3, by omega⟩
    · exact Or.inr ⟨a1, a2, a3⟩
/-- bounds of the class's values -/
theorem qlv_b {T : Nat → Nat} {D lt lc x : Nat} (hl : lt ≤ 200) (h : lc ≤ x → T (x - lc) ≤ 1000000 + D) : qlv T lt lc x ≤ 1000000 + (D + 1600) := by
  unfold qlv; split
  · omega
  · have := h (by omega); omega
theorem qoa_b (g l : Nat → Nat) (w x : Nat) : qoa g l w x ≤ l x := by
  unfold qoa; split
  · split <;> omega
  · omega
theorem qAL_b (hLT : ∀ k, LT k ≤ 200) : ∀ d k, k + d = n → ∀ x, qAL n g LT LC w k x ≤ 1000000 + 1600 * d
  | 0, k, hk, x => by
    have : k = n := by omega
    subst this
    rw [qAL_n]; exact Nat.zero_le _
  | d + 1, k, hk, x => by
    have ih := qAL_b hLT d (k + 1) (by omega)
    rw [qAL_k (by omega)]
    refine Nat.le_trans (qoa_b _ _ _ _) ?_
    have := qlv_b (T := qAL n g LT LC w (k + 1)) (D := 1600 * d) (lc := LC (k + 1)) (x := x) (hLT (k + 1)) (fun _ => ih _)
    omega
end QTL
/-! the way through: charges on arrival, ticks at places -/
def qlk (n : Nat) (g : Nat → Nat → Nat) (LT LC w : Nat → Nat) (k : Nat) : Nat → Nat := qlv (qAL n g LT LC w (k + 1)) (LT (k + 1)) (LC (k + 1))
def qtt (n : Nat) (g : Nat → Nat → Nat) (LT LC w : Nat → Nat) (k x : Nat) : Nat := qsy (g k) (qlk n g LT LC w k) (w k) x
def qxk (n : Nat) (g : Nat → Nat → Nat) (LT LC w : Nat → Nat) (x0 : Nat) : Nat → Nat
  | 0 => x0
  | k + 1 => qch (g k) (qtt n g LT LC w k (qxk n g LT LC w x0 k)) (qxk n g LT LC w x0 k) - LC (k + 1)
theorem qxk_ok {n : Nat} {g : Nat → Nat → Nat} {LT LC w : Nat → Nat} {b x0 : Nat} (hb : b ≤ 200) (hg : ∀ k x, x ≤ b → x + g k x ≤ b) (hx : x0 ≤ b) (h : qAL n g LT LC w 0 x0 < 1000000) : ∀ k, k ≤ n → qxk n g LT LC w x0 k ≤ b ∧ qAL n g LT LC w k (qxk n g LT LC w x0 k) < 1000000 ∧ (k < n → LC (k + 1) ≤ qch (g k) (qtt n g LT LC w k (qxk n g LT LC w x0 k)) (qxk n g LT LC w x0 k) ∧ qch (g k) (qtt n g LT LC w k (qxk n g LT LC w x0 k)) (qxk n g LT LC w x0 k) ≤ b ∧ qtt n g LT LC w k (qxk n g LT LC w x0 k) ≤ b) := by
  have key : ∀ k, k < n → qxk n g LT LC w x0 k ≤ b → qAL n g LT LC w k (qxk n g LT LC w x0 k) < 1000000 → qlk n g LT LC w k (qch (g k) (qtt n g LT LC w k (qxk n g LT LC w x0 k)) (qxk n g LT LC w x0 k)) < 1000000 := by
    intro k hk h1 h2
    rw [qAL_k hk] at h2
    exact qsy_fe hb (hg k) h1 h2
  intro k
  induction k with
  | zero =>
    intro _
    refine ⟨hx, h, fun hk => ?_⟩
    have := key 0 hk hx h
    refine ⟨?_, qch_le (hg 0) _ _ hx, qsy_b (hg 0) hx⟩
    unfold qlk qlv at this
    split at this
    · omega
    · omega
  | succ k ih =>
    intro hk
    obtain ⟨h1, h2, h3⟩ := ih (by omega)
    obtain ⟨h4, h5, h6⟩ := h3 (by omega)
    have h7 := key k (by omega) h1 h2
    have h8 : qxk n g LT LC w x0 (k + 1) ≤ b := by
      rw [qxk]; omega
    have h9 : qAL n g LT LC w (k + 1) (qxk n g LT LC w x0 (k + 1)) < 1000000 := by
      rw [qxk]
      unfold qlk qlv at h7
      rw [if_neg (by omega)] at h7
      omega
    refine ⟨h8, h9, fun hk2 => ?_⟩
    have := key (k + 1) hk2 h8 h9
    refine ⟨?_, qch_le (hg (k + 1)) _ _ h8, qsy_b (hg (k + 1)) h8⟩
    unfold qlk qlv at this
    split at this
    · omega
    · omega
