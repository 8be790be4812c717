/-! jumps that are handed on; texts -/
section ZX
variable {SH : List zk_Sh} {T : zk_M} {n a t f nx bk ct : Nat}
theorem zk_c_gt {c : zk_Cn} {j : Nat} {o : Int} (hc : zk_C SH T n a t f c) (hd : decode T.2.1 t = .ok (.goto o, 3)) (ht : (t : Int) + o = (j : Int)) : zk_C SH T n a j f c := by
  intro κ ω g env stk h w h' hn hf kk
  refine hc κ ω g env stk h w h' hn hf ?_
  cases w with
  | true => exact zk_goto g hd ht kk
  | false => exact kk
theorem zk_c_gf {c : zk_Cn} {j : Nat} {o : Int} (hc : zk_C SH T n a t f c) (hd : decode T.2.1 f = .ok (.goto o, 3)) (ht : (f : Int) + o = (j : Int)) : zk_C SH T n a t j c := by
  intro κ ω g env stk h w h' hn hf kk
  refine hc κ ω g env stk h w h' hn hf ?_
  cases w with
  | true => exact kk
  | false => exact zk_goto g hd ht kk
theorem zk_s_brk0 : zk_S SH T bk nx bk ct zk_brk := by
  intro κ ω g Rt hR env h o v env' h' hf k0 k1 k2 k3
  cases hf
  exact k1 rfl
theorem zk_s_cnt0 : zk_S SH T ct nx bk ct zk_cnt := by
  intro κ ω g Rt hR env h o v env' h' hf k0 k1 k2 k3
  cases hf
  exact k2 rfl
end ZX
def zk_slen : Value → Option Value := fun v => match v with
  | .retAddr j => if j < 6 then some (.int (Int32.ofNat (zk_len.getD j 0))) else none
  | _ => none
def zk_schr : Value → Value → Option Value := fun v w => match v, w with
  | .retAddr j, .int i => if j < 6 ∧ 0 ≤ i.toInt ∧ i.toInt < ((zk_len.getD j 0 : Nat) : Int) then some (.int ((zk_byt.getD j []).getD i.toNatClampNeg 0)) else none
  | _, _ => none
theorem zk_e_str0 {SH : List zk_Sh} {T : zk_M} {n a : Nat} (hd : decode T.2.1 a = .ok (.ldc 65, 2)) (ho : T.1 = "RoadPlugs$Tape" := by rfl) : zk_E SH T n a (a + 2) (zk_c (.retAddr 0)) := by
  intro κ ω g env stk h w h' _ hf k
  cases hf
  obtain ⟨p, l, e, R, s, m, args, below, meth, c, Q, ce, sl, A⟩ := κ
  obtain ⟨ad, D, cs, ex, adV⟩ := ω
  obtain ⟨hx, hb, hml, hown, hts, hK, hR, hA, hX⟩ := g
  intro H locs ls hl hP hD hS
  rw [ho] at hown
  exact va_ldcS hx hb hown hX.2.1.1 hd (k H locs ls hl hP hD hS)
theorem zk_e_str1 {SH : List zk_Sh} {T : zk_M} {n a : Nat} (hd : decode T.2.1 a = .ok (.ldc 84, 2)) (ho : T.1 = "RoadPlugs$Tape" := by rfl) : zk_E SH T n a (a + 2) (zk_c (.retAddr 1)) := by
  intro κ ω g env stk h w h' _ hf k
  cases hf
  obtain ⟨p, l, e, R, s, m, args, below, meth, c, Q, ce, sl, A⟩ := κ
  obtain ⟨ad, D, cs, ex, adV⟩ := ω
  obtain ⟨hx, hb, hml, hown, hts, hK, hR, hA, hX⟩ := g
  intro H locs ls hl hP hD hS
  rw [ho] at hown
  exact va_ldcS hx hb hown hX.2.1.2.1 hd (k H locs ls hl hP hD hS)
theorem zk_e_str2 {SH : List zk_Sh} {T : zk_M} {n a : Nat} (hd : decode T.2.1 a = .ok (.ldc 86, 2)) (ho : T.1 = "RoadPlugs$Tape" := by rfl) : zk_E SH T n a (a + 2) (zk_c (.retAddr 2)) := by
  intro κ ω g env stk h w h' _ hf k
  cases hf
  obtain ⟨p, l, e, R, s, m, args, below, meth, c, Q, ce, sl, A⟩ := κ
  obtain ⟨ad, D, cs, ex, adV⟩ := ω
  obtain ⟨hx, hb, hml, hown, hts, hK, hR, hA, hX⟩ := g
  intro H locs ls hl hP hD hS
  rw [ho] at hown
  exact va_ldcS hx hb hown hX.2.1.2.2.1 hd (k H locs ls hl hP hD hS)
theorem zk_e_str3 {SH : List zk_Sh} {T : zk_M} {n a : Nat} (hd : decode T.2.1 a = .ok (.ldc 74, 2)) (ho : T.1 = "RoadPlugs$Tape" := by rfl) : zk_E SH T n a (a + 2) (zk_c (.retAddr 3)) := by
  intro κ ω g env stk h w h' _ hf k
  cases hf
  obtain ⟨p, l, e, R, s, m, args, below, meth, c, Q, ce, sl, A⟩ := κ
  obtain ⟨ad, D, cs, ex, adV⟩ := ω
  obtain ⟨hx, hb, hml, hown, hts, hK, hR, hA, hX⟩ := g
  intro H locs ls hl hP hD hS
  rw [ho] at hown
  exact va_ldcS hx hb hown hX.2.1.2.2.2.1 hd (k H locs ls hl hP hD hS)
theorem zk_e_str4 {SH : List zk_Sh} {T : zk_M} {n a : Nat} (hd : decode T.2.1 a = .ok (.ldc 79, 2)) (ho : T.1 = "RoadPlugs$Tape" := by rfl) : zk_E SH T n a (a + 2) (zk_c (.retAddr 4)) := by
  intro κ ω g env stk h w h' _ hf k
  cases hf
  obtain ⟨p, l, e, R, s, m, args, below, meth, c, Q, ce, sl, A⟩ := κ
  obtain ⟨ad, D, cs, ex, adV⟩ := ω
  obtain ⟨hx, hb, hml, hown, hts, hK, hR, hA, hX⟩ := g
  intro H locs ls hl hP hD hS
  rw [ho] at hown
  exact va_ldcS hx hb hown hX.2.1.2.2.2.2.1 hd (k H locs ls hl hP hD hS)
theorem zk_e_str5 {SH : List zk_Sh} {T : zk_M} {n a : Nat} (hd : decode T.2.1 a = .ok (.ldc 88, 2)) (ho : T.1 = "RoadPlugs$Tape" := by rfl) : zk_E SH T n a (a + 2) (zk_c (.retAddr 5)) := by
  intro κ ω g env stk h w h' _ hf k
  cases hf
  obtain ⟨p, l, e, R, s, m, args, below, meth, c, Q, ce, sl, A⟩ := κ
  obtain ⟨ad, D, cs, ex, adV⟩ := ω
  obtain ⟨hx, hb, hml, hown, hts, hK, hR, hA, hX⟩ := g
  intro H locs ls hl hP hD hS
  rw [ho] at hown
  exact va_ldcS hx hb hown hX.2.1.2.2.2.2.2 hd (k H locs ls hl hP hD hS)
