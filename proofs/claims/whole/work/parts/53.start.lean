theorem zl_raw (i : Nat) {w : Cond} (h : tables_1[i]? = some w) : w ∈ lw_tbl := List.mem_append_right _ (List.mem_of_getElem? h)
theorem tw_22 : (Jvm.Cond.instantiable "RoadPlugs" (8 : Nat)) ∈ zk_tbl := zk_in 22 (by decide +kernel) rfl
theorem tw_1013 : (Jvm.Cond.instantiable "RoadPlugsModel" (33 : Nat)) ∈ zk_tbl := zk_in 1013 (by decide +kernel) rfl
theorem zl_known {s : State} {args : Array Value} (hts : ∀ w ∈ zk_tbl, w.before args s = true) : ∃ D : va_G, ∀ (k : Nat) (q : vw_C), vwCl[k]? = some q → u_Kn s q.1 q.2.1 q.2.2 (D.1 k) (D.2 k) := by
  obtain ⟨c0, i0, h0⟩ := u_known (C := RX0) (T := TX0) (N := 3) (n := 3) hts il_0 (hts _ tw_462)
  obtain ⟨c1, i1, h1⟩ := u_known (C := RX1) (T := TX1) (N := 4) (n := 4) hts il_1 (hts _ tw_73)
  obtain ⟨c2, i2, h2⟩ := u_known (C := RX2) (T := TX2) (N := 15) (n := 15) hts il_2 (hts _ tw_208)
  obtain ⟨c3, i3, h3⟩ := u_known (C := RX3) (T := TX3) (N := 5) (n := 5) hts il_3 (hts _ tw_479)
  obtain ⟨c4, i4, h4⟩ := u_known (C := RX4) (T := TX4) (N := 11) (n := 11) hts il_4 (hts _ tw_403)
  obtain ⟨c5, i5, h5⟩ := u_known (C := RX5) (T := TX5) (N := 6) (n := 6) hts il_5 (hts _ tw_170)
  obtain ⟨c6, i6, h6⟩ := u_known (C := RX6) (T := TX6) (N := 12) (n := 12) hts il_6 (hts _ tw_96)
  obtain ⟨c7, i7, h7⟩ := u_known (C := RX7) (T := TX7) (N := 2) (n := 2) hts il_7 (hts _ tw_449)
  obtain ⟨c8, i8, h8⟩ := u_known (C := RX8) (T := TX8) (N := 9) (n := 9) hts il_8 (hts _ tw_368)
  obtain ⟨c9, i9, h9⟩ := u_known (C := RX9) (T := TX9) (N := 6) (n := 6) hts il_9 (hts _ tw_42)
  obtain ⟨c10, i10, h10⟩ := u_known (C := RX10) (T := TX10) (N := 14) (n := 14) hts il_10 (hts _ tw_30)
  obtain ⟨c11, i11, h11⟩ := u_known (C := RX11) (T := TX11) (N := 8) (n := 8) hts il_11 (hts _ tw_22)
  obtain ⟨c12, i12, h12⟩ := u_known (C := RX12) (T := TX12) (N := 33) (n := 33) hts il_12 (hts _ tw_1013)
  refine ⟨(fun k => match k with
    | 0 => c0
    | 1 => c1
    | 2 => c2
    | 3 => c3
    | 4 => c4
    | 5 => c5
    | 6 => c6
    | 7 => c7
    | 8 => c8
    | 9 => c9
    | 10 => c10
    | 11 => c11
    | _ => c12, fun k => match k with
    | 0 => i0
    | 1 => i1
    | 2 => i2
    | 3 => i3
    | 4 => i4
    | 5 => i5
    | 6 => i6
    | 7 => i7
    | 8 => i8
    | 9 => i9
    | 10 => i10
    | 11 => i11
    | _ => i12), ?_⟩
  intro k q hq
  match k, hq with
  | 0, hq => cases hq; exact h0
  | 1, hq => cases hq; exact h1
  | 2, hq => cases hq; exact h2
  | 3, hq => cases hq; exact h3
  | 4, hq => cases hq; exact h4
  | 5, hq => cases hq; exact h5
  | 6, hq => cases hq; exact h6
  | 7, hq => cases hq; exact h7
  | 8, hq => cases hq; exact h8
  | 9, hq => cases hq; exact h9
  | 10, hq => cases hq; exact h10
  | 11, hq => cases hq; exact h11
  | 12, hq => cases hq; exact h12
  | k + 13, hq => simp [vwCl] at hq
theorem zl_arr {s : State} {C : String} (h : (Cond.arrayOver (.object C)).before #[] s = true) : ∃ cA : ClassId, ArrOfT s cA (.object C) ∧ va_RA s cA (.object C) := by
  obtain ⟨comp, c, k, h1, -, h2, h3, h4⟩ := Cond.arrayOver_spec h
  exact ⟨c, fun N z => ⟨fun q hq => (by cases hq), k, h2, comp, h3⟩, k, comp, h2, h3, h1, h4⟩
theorem zl_K {s : State} {args : Array Value} (hts : ∀ w ∈ zk_tbl, w.before args s = true) (hX : zc_X s) : ∃ (D : va_G) (cs : Nat → ClassId), va_K D vwCl (zk_tys cs) s := by
  obtain ⟨D, hD⟩ := zl_known hts
  obtain ⟨c0, k0, comp0, a1, a2, a3⟩ := Cond.arrayClass_spec (hts _ zc_ac)
  obtain ⟨c1, b1, b2⟩ := zl_arr hX.1.1
  obtain ⟨c2, d1, d2⟩ := zl_arr hX.1.2.1
  obtain ⟨c3, e1, e2⟩ := zl_arr hX.1.2.2.1
  obtain ⟨comp4, c4, k4, f1, f2, f3, f4⟩ := Cond.arrayOver_specA hX.1.2.2.2
  refine ⟨D, fun k => match k with
    | 0 => c0
    | 1 => c1
    | 2 => c2
    | 3 => c3
    | _ => c4, hD, ?_⟩
  intro k q hq
  match k, hq with
  | 0, hq => cases hq; exact ⟨fun N z => ⟨fun q hq => (by cases hq), k0, a2, comp0, a3⟩, a1⟩
  | 1, hq => cases hq; exact ⟨b1, b2⟩
  | 2, hq => cases hq; exact ⟨d1, d2⟩
  | 3, hq => cases hq; exact ⟨e1, e2⟩
  | 4, hq => cases hq; exact ⟨fun N z => ⟨fun q hq => (by cases hq), k4, f2, comp4, f3⟩, f4⟩
  | k + 5, hq => simp [zk_tys] at hq
theorem zl_X {s : State} {args : Array Value} (hts : ∀ w ∈ lw_tbl, w.before args s = true) : zc_X s := by
  refine ⟨⟨hts _ (zl_raw 36 (w := (Jvm.Cond.arrayOver (Jvm.ClassFile.FieldType.object "RoadPlugs$Site"))) (by decide +kernel)), hts _ (zl_raw 38 (w := (Jvm.Cond.arrayOver (Jvm.ClassFile.FieldType.object "RoadPlugs$Plug"))) (by decide +kernel)), hts _ (zl_raw 40 (w := (Jvm.Cond.arrayOver (Jvm.ClassFile.FieldType.object "RoadPlugs$Car"))) (by decide +kernel)), hts _ (zl_raw 409 (w := (Jvm.Cond.arrayOver (Jvm.ClassFile.FieldType.array Jvm.ClassFile.FieldType.int))) (by decide +kernel))⟩, fun w hw => ?_⟩
  have h1 := List.mem_filter.mp hw
  have h2 := hts w h1.1
  have h3 := h1.2
  cases w <;> first | exact va_Nw.of rfl h2 | (simp [zk_isN] at h3)
def zl_tm : Nat → Term := fun i => match i with
  | 0 => .string "RoadPlugs$Tape" 65
  | 1 => .string "RoadPlugs$Tape" 84
  | 2 => .string "RoadPlugs$Tape" 86
  | 3 => .string "RoadPlugs$Tape" 74
  | 4 => .string "RoadPlugs$Tape" 79
  | _ => .string "RoadPlugs$Tape" 88
set_option maxHeartbeats 4000000 in
theorem zl_Ex {s : State} {b : Nat} (hts : ∀ w ∈ lw_tbl, w.before #[Value.ref b] s = true) (hgv : (Jvm.Cond.and given_1 narrow_1).before #[Value.ref b] s = true) : ∃ ex adV : Nat → Nat, ex 100 = b ∧ zk_Ex ex adV (fun q => s.heap.size ≤ q) s s.heap := by
  have hs := flat_of_before _ hgv
  have hA : ∀ a : Nat, a < s.heap.size → ¬ (fun q : Nat => s.heap.size ≤ q) a := fun a h => Nat.not_le.mpr h
  obtain ⟨adK, adV, hS, hE⟩ := vk_Sof (N := 6) (tm := zl_tm) (len := zk_len) (byt := zk_byt) (A := fun q => s.heap.size ≤ q) (args := #[Value.ref b]) (s := s) (fun i hi => by
    match i, hi with
    | 0, _ => decide
    | 1, _ => decide
    | 2, _ => decide
    | 3, _ => decide
    | 4, _ => decide
    | 5, _ => decide) (fun i hi => by
    match i, hi with
    | 0, _ => exact hs _ (by decide +kernel)
    | 1, _ => exact hs _ (by decide +kernel)
    | 2, _ => exact hs _ (by decide +kernel)
    | 3, _ => exact hs _ (by decide +kernel)
    | 4, _ => exact hs _ (by decide +kernel)
    | 5, _ => exact hs _ (by decide +kernel)) (fun i hi => by
    match i, hi with
    | 0, _ => exact hs _ (by decide +kernel)
    | 1, _ => exact hs _ (by decide +kernel)
    | 2, _ => exact hs _ (by decide +kernel)
    | 3, _ => exact hs _ (by decide +kernel)
    | 4, _ => exact hs _ (by decide +kernel)
    | 5, _ => exact hs _ (by decide +kernel)) (fun i hi => by
    match i, hi with
    | 0, _ => exact hs _ (by decide +kernel)
    | 1, _ => exact hs _ (by decide +kernel)
    | 2, _ => exact hs _ (by decide +kernel)
    | 3, _ => exact hs _ (by decide +kernel)
    | 4, _ => exact hs _ (by decide +kernel)
    | 5, _ => exact hs _ (by decide +kernel)) (fun i hi => by
    match i, hi with
    | 0, _ => exact hs _ (by decide +kernel)
    | 1, _ => exact hs _ (by decide +kernel)
    | 2, _ => exact hs _ (by decide +kernel)
    | 3, _ => exact hs _ (by decide +kernel)
    | 4, _ => exact hs _ (by decide +kernel)
    | 5, _ => exact hs _ (by decide +kernel)) (fun i hi j hj => by
    match i, hi with
    | 0, _ =>
      match j, hj with
      | 0, _ => exact hs _ (by decide +kernel)
      | 1, _ => exact hs _ (by decide +kernel)
      | 2, _ => exact hs _ (by decide +kernel)
      | 3, _ => exact hs _ (by decide +kernel)
      | 4, _ => exact hs _ (by decide +kernel)
      | j + 5, hj => exact absurd hj (by show ¬ (j + 5 < 5); omega)
    | 1, _ =>
      match j, hj with
      | 0, _ => exact hs _ (by decide +kernel)
      | 1, _ => exact hs _ (by decide +kernel)
      | 2, _ => exact hs _ (by decide +kernel)
      | 3, _ => exact hs _ (by decide +kernel)
      | j + 4, hj => exact absurd hj (by show ¬ (j + 4 < 4); omega)
    | 2, _ =>
      match j, hj with
      | 0, _ => exact hs _ (by decide +kernel)
      | 1, _ => exact hs _ (by decide +kernel)
      | 2, _ => exact hs _ (by decide +kernel)
      | 3, _ => exact hs _ (by decide +kernel)
      | 4, _ => exact hs _ (by decide +kernel)
      | j + 5, hj => exact absurd hj (by show ¬ (j + 5 < 5); omega)
    | 3, _ =>
      match j, hj with
      | 0, _ => exact hs _ (by decide +kernel)
      | 1, _ => exact hs _ (by decide +kernel)
      | 2, _ => exact hs _ (by decide +kernel)
      | j + 3, hj => exact absurd hj (by show ¬ (j + 3 < 3); omega)
    | 4, _ =>
      match j, hj with
      | 0, _ => exact hs _ (by decide +kernel)
      | 1, _ => exact hs _ (by decide +kernel)
      | 2, _ => exact hs _ (by decide +kernel)
      | 3, _ => exact hs _ (by decide +kernel)
      | j + 4, hj => exact absurd hj (by show ¬ (j + 4 < 4); omega)
    | 5, _ =>
      match j, hj with
      | 0, _ => exact hs _ (by decide +kernel)
      | 1, _ => exact hs _ (by decide +kernel)
      | 2, _ => exact hs _ (by decide +kernel)
      | 3, _ => exact hs _ (by decide +kernel)
      | 4, _ => exact hs _ (by decide +kernel)
      | j + 5, hj => exact absurd hj (by show ¬ (j + 5 < 5); omega)) (fun i j hi hj hne => by
    match i, j, hi, hj, hne with
    | 0, 0, _, _, hne => exact absurd rfl hne
    | 0, 1, _, _, hne => first | exact Or.inl (hs _ (by decide +kernel)) | exact Or.inr (hs _ (by decide +kernel))
    | 0, 2, _, _, hne => first | exact Or.inl (hs _ (by decide +kernel)) | exact Or.inr (hs _ (by decide +kernel))
    | 0, 3, _, _, hne => first | exact Or.inl (hs _ (by decide +kernel)) | exact Or.inr (hs _ (by decide +kernel))
    | 0, 4, _, _, hne => first | exact Or.inl (hs _ (by decide +kernel)) | exact Or.inr (hs _ (by decide +kernel))
    | 0, 5, _, _, hne => first | exact Or.inl (hs _ (by decide +kernel)) | exact Or.inr (hs _ (by decide +kernel))
    | 1, 0, _, _, hne => first | exact Or.inl (hs _ (by decide +kernel)) | exact Or.inr (hs _ (by decide +kernel))
    | 1, 1, _, _, hne => exact absurd rfl hne
    | 1, 2, _, _, hne => first | exact Or.inl (hs _ (by decide +kernel)) | exact Or.inr (hs _ (by decide +kernel))
    | 1, 3, _, _, hne => first | exact Or.inl (hs _ (by decide +kernel)) | exact Or.inr (hs _ (by decide +kernel))
    | 1, 4, _, _, hne => first | exact Or.inl (hs _ (by decide +kernel)) | exact Or.inr (hs _ (by decide +kernel))
    | 1, 5, _, _, hne => first | exact Or.inl (hs _ (by decide +kernel)) | exact Or.inr (hs _ (by decide +kernel))
    | 2, 0, _, _, hne => first | exact Or.inl (hs _ (by decide +kernel)) | exact Or.inr (hs _ (by decide +kernel))
    | 2, 1, _, _, hne => first | exact Or.inl (hs _ (by decide +kernel)) | exact Or.inr (hs _ (by decide +kernel))
    | 2, 2, _, _, hne => exact absurd rfl hne
    | 2, 3, _, _, hne => first | exact Or.inl (hs _ (by decide +kernel)) | exact Or.inr (hs _ (by decide +kernel))
    | 2, 4, _, _, hne => first | exact Or.inl (hs _ (by decide +kernel)) | exact Or.inr (hs _ (by decide +kernel))
    | 2, 5, _, _, hne => first | exact Or.inl (hs _ (by decide +kernel)) | exact Or.inr (hs _ (by decide +kernel))
    | 3, 0, _, _, hne => first | exact Or.inl (hs _ (by decide +kernel)) | exact Or.inr (hs _ (by decide +kernel))
    | 3, 1, _, _, hne => first | exact Or.inl (hs _ (by decide +kernel)) | exact Or.inr (hs _ (by decide +kernel))
    | 3, 2, _, _, hne => first | exact Or.inl (hs _ (by decide +kernel)) | exact Or.inr (hs _ (by decide +kernel))
    | 3, 3, _, _, hne => exact absurd rfl hne
    | 3, 4, _, _, hne => first | exact Or.inl (hs _ (by decide +kernel)) | exact Or.inr (hs _ (by decide +kernel))
    | 3, 5, _, _, hne => first | exact Or.inl (hs _ (by decide +kernel)) | exact Or.inr (hs _ (by decide +kernel))
    | 4, 0, _, _, hne => first | exact Or.inl (hs _ (by decide +kernel)) | exact Or.inr (hs _ (by decide +kernel))
    | 4, 1, _, _, hne => first | exact Or.inl (hs _ (by decide +kernel)) | exact Or.inr (hs _ (by decide +kernel))
    | 4, 2, _, _, hne => first | exact Or.inl (hs _ (by decide +kernel)) | exact Or.inr (hs _ (by decide +kernel))
    | 4, 3, _, _, hne => first | exact Or.inl (hs _ (by decide +kernel)) | exact Or.inr (hs _ (by decide +kernel))
    | 4, 4, _, _, hne => exact absurd rfl hne
    | 4, 5, _, _, hne => first | exact Or.inl (hs _ (by decide +kernel)) | exact Or.inr (hs _ (by decide +kernel))
    | 5, 0, _, _, hne => first | exact Or.inl (hs _ (by decide +kernel)) | exact Or.inr (hs _ (by decide +kernel))
    | 5, 1, _, _, hne => first | exact Or.inl (hs _ (by decide +kernel)) | exact Or.inr (hs _ (by decide +kernel))
    | 5, 2, _, _, hne => first | exact Or.inl (hs _ (by decide +kernel)) | exact Or.inr (hs _ (by decide +kernel))
    | 5, 3, _, _, hne => first | exact Or.inl (hs _ (by decide +kernel)) | exact Or.inr (hs _ (by decide +kernel))
    | 5, 4, _, _, hne => first | exact Or.inl (hs _ (by decide +kernel)) | exact Or.inr (hs _ (by decide +kernel))
    | 5, 5, _, _, hne => exact absurd rfl hne) hA
  have hex : ∀ i, i < 6 → (fun n => if n = 100 then b else adK n) i = adK i := fun i hi => by
    show (if i = 100 then b else adK i) = adK i
    rw [if_neg (by omega)]
  refine ⟨fun n => if n = 100 then b else adK n, adV, rfl, ⟨fun i hi => ?_, fun i j hi hj he => ?_⟩, ⟨vk_R.of (hts _ (zl_raw 683 (w := (Jvm.Cond.stringRef "RoadPlugs$Tape" (65 : Nat) "share")) (by decide +kernel))) (hE 0 (by decide)), vk_R.of (hts _ (zl_raw 740 (w := (Jvm.Cond.stringRef "RoadPlugs$Tape" (84 : Nat) "even")) (by decide +kernel))) (hE 1 (by decide)), vk_R.of (hts _ (zl_raw 741 (w := (Jvm.Cond.stringRef "RoadPlugs$Tape" (86 : Nat) "first")) (by decide +kernel))) (hE 2 (by decide)), vk_R.of (hts _ (zl_raw 742 (w := (Jvm.Cond.stringRef "RoadPlugs$Tape" (74 : Nat) "cap")) (by decide +kernel))) (hE 3 (by decide)), vk_R.of (hts _ (zl_raw 747 (w := (Jvm.Cond.stringRef "RoadPlugs$Tape" (79 : Nat) "idle")) (by decide +kernel))) (hE 4 (by decide)), vk_R.of (hts _ (zl_raw 752 (w := (Jvm.Cond.stringRef "RoadPlugs$Tape" (88 : Nat) "after")) (by decide +kernel))) (hE 5 (by decide))⟩, ⟨va_Zof (args := #[Value.ref b]) (hts _ (zl_raw 697 (w := (Jvm.Cond.laysStatic "java/lang/String" "COMPACT_STRINGS" "Z")) (by decide +kernel))) (hts _ (zl_raw 16 (w := (Jvm.Cond.initialized "java/lang/String")) (by decide +kernel))) (va_eqt (hs _ (by decide +kernel))) hA, va_Zqof (args := #[Value.ref b]) (hts _ (zl_raw 713 (w := (Jvm.Cond.laysStatic "jdk/internal/util/Preconditions" "SIOOBE_FORMATTER" "Ljava/util/function/BiFunction;")) (by decide +kernel))) (hts _ (zl_raw 18 (w := (Jvm.Cond.initialized "jdk/internal/util/Preconditions")) (by decide +kernel))) (hs _ (by decide +kernel)) hA⟩, (zl_X hts).2⟩
  · rw [hex i hi]
    exact hS.1 i hi
  · rw [hex i hi, hex j hj] at he
    exact hS.2 i j hi hj he
theorem tw_21 : (Jvm.Cond.classLink "RoadPlugsLaw" (7 : Nat) "RoadPlugs") ∈ zk_tbl := zk_in 21 (by decide +kernel) rfl
theorem nw_L_7 : zc_NW RL 7 11 := ⟨RX11, TX11, 8, tyX11, rfl, tw_21, tw_22, tw_1, il_11, tyX11_ok, rfl, by decide +kernel⟩
theorem tw_1012 : (Jvm.Cond.classLink "RoadPlugsLaw" (10 : Nat) "RoadPlugsModel") ∈ zk_tbl := zk_in 1012 (by decide +kernel) rfl
theorem nw_L_10 : zc_NW RL 10 12 := ⟨RX12, TX12, 33, tyX12, rfl, tw_1012, tw_1013, tw_13, il_12, tyX12_ok, rfl, by decide +kernel⟩
theorem tw_23 : (Jvm.Cond.methodLink "RoadPlugsLaw" (9 : Nat) ({ cls := "RoadPlugs", name := "<init>", desc := "()V" } : Jvm.MethodName)) ∈ zk_tbl := zk_in 23 (by decide +kernel) rfl
theorem tw_1014 : (Jvm.Cond.methodLink "RoadPlugsLaw" (12 : Nat) ({ cls := "RoadPlugsModel", name := "<init>", desc := "()V" } : Jvm.MethodName)) ∈ zk_tbl := zk_in 1014 (by decide +kernel) rfl
theorem tw_24 : (Jvm.Cond.instanceMethod ({ cls := "RoadPlugs", name := "<init>", desc := "()V" } : Jvm.MethodName)) ∈ zk_tbl := zk_in 24 (by decide +kernel) rfl
theorem tw_1015 : (Jvm.Cond.instanceMethod ({ cls := "RoadPlugsModel", name := "<init>", desc := "()V" } : Jvm.MethodName)) ∈ zk_tbl := zk_in 1015 (by decide +kernel) rfl
theorem zc_astore_n {T : zk_M} {κ : zc_K} {ω : zc_O} {pc : Nat} {env stk : List Value} {SH : List zk_Sh} {h : zk_H} {ce sl : Nat} {i : Fin 4} {x : Nat} (g : zc_ok T κ ω) (hd : decode T.2.1 pc = .ok (.astore_n i, 1)) (hi : (i : Nat) < T.2.2.1) (hs : zk_okS env (i : Nat) = true) (k : zc_At κ ω (pc + 1, env.set (i : Nat) (.ref x), stk, SH, h, ce, sl)) : zc_At κ ω (pc, env, .ref x :: stk, SH, h, ce, sl) := by
  obtain ⟨p, l, e, R, s, m, args, below, meth, c, Q⟩ := κ
  obtain ⟨B, D, cs⟩ := ω
  obtain ⟨hx, hb, hml, hown, hts, hK, hR, hB, hX, hnm⟩ := g
  intro H locs ls hl hP hS hz
  exact lv_astore_n hx hb hd rfl (zk_lv_has hl) (by rw [hml]; exact hi) rfl (fun ls' hl' => k H locs ls' (zk_lv_st (v := .ref x) hs hl') hP hS hz)
theorem zi_z0 : zc_z zi_h0 0 = zi_h0 := by
  funext b j
  simp [zc_z, zi_h0]
theorem zi_p1 : zc_run zc_prog 3000 11 (0, zk_env 1 [.ref 0], [], [.inl (11, zc_df 11)], zi_h0, 0, 0) = some (SH1, zi_h1, 177, 5707) := zi_q1
theorem zi_p2 : zc_run zc_prog 3000 12 (0, zk_env 1 [.ref 178], [], SH1 ++ [.inl (12, zc_df 12)], zc_z zi_h1 178, 0, 0) = some (SHP, zi_h2, 22, 6909) := zi_q2
theorem zc_full {w : zc_Row} {SH : List zk_Sh} {h : zk_H} {a f j : Nat} {r : zc_R} (hj : zc_prog j = some w) (hn : w.1.2.2.1 = 1) (hrun : zc_run zc_prog f j (0, zk_env 1 [.ref a], [], SH, h, 0, 0) = some r) (l : Launch) (B : Nat) (D : va_G) (cs : Nat → ClassId) : Met l w.2.1 (.code w.2.1 w.1.2.1 w.1.2.2.1 none :: zk_tbl) { frames := w.1.2.2.2.1, cells := r.2.2.1, slots := r.2.2.2, locals := w.1.2.2.2.2 } (zc_Pc B D cs SH h a) (zc_Qc B D cs r.1 r.2.1) r.2.2.1 r.2.2.2 (fun q => B ≤ q) := by
  obtain ⟨p1, p2, p3, p4, p5, p6, p7⟩ := zc_prog_ok j w hj
  refine zc_metI p4 p5 p6 p7 (fun κ ω g hc hs hr => ?_) l B D cs
  rw [hn]
  exact zc_sound zc_prog_ok zc_ac f j _ r w hrun hj κ ω g hc hs hr
set_option maxHeartbeats 4000000 in
set_option maxRecDepth 100000 in
theorem whole_open {Inv : zk_H → Prop} (hI : zl_L2 Inv) (h0 : Inv zi_h2) {p : Program} {e : Jvm.Env} {s : State} {m : MethodId} {below : List Frame} {meth : Method} {c : Code} (l : Launch) {b L : Nat} {xs : Nat → Int32} (hL : L ≤ 3072) (C0 : lw_At p s m meth c b L xs) : W p l e room_1 s m #[Value.ref b] below meth c s.heap [] 0 0 (lw_Z below #[Value.ref b] s) (entryFrame m ([Value.ref b] : List Value).toArray 4) := by
  obtain ⟨hx, hb, hr, hml, hown, hts, hSc, hbl, hlocks, hgv⟩ := C0
  have hts2 : ∀ w ∈ zk_tbl, w.before #[Value.ref b] s = true := fun w hw => hts w (List.mem_filter.mp hw).1
  have hXc := zl_X hts
  obtain ⟨D, cs, hK⟩ := zl_K hts2 hXc
  obtain ⟨ex, adV, hexb, hEx⟩ := zl_Ex hts hgv
  have gc : zc_ok M_law (p, l, e, room_1, s, m, #[Value.ref b], below, meth, c, lw_Z below #[Value.ref b] s) (s.heap.size, D, cs) := ⟨hx, hb, hml, hown, hts2, hK, ⟨by decide, by decide⟩, Nat.le_refl _, hXc, fun z => absurd rfl z⟩
  have go : zk_ok M_law (zl_k p l e s m below meth c b 201 12657) (zc_ad s.heap.size, D, cs, ex, adV) := ⟨hx, hb, hml, hown, hts2, hK, ⟨by decide, by decide, by decide, by decide⟩, fun q h => h, hEx⟩
  have hscr : zl_Scr (zl_k p l e s m below meth c b 201 12657) (zc_ad s.heap.size, D, cs, ex, adV) L xs := by
    refine ⟨?_, ?_, ?_⟩
    · rw [hexb]; exact hSc
    · rw [hexb]; exact hbl
    · rw [hexb]; exact Nat.not_le.mpr hbl
  have hloop := zl_loop hI go hscr hL hr hlocks (by decide) (by decide) (L + 1) 0 zi_h2 (by omega) (by omega) h0
  rw [lg_entry_eq]
  have hstart : zc_At (p, l, e, room_1, s, m, #[Value.ref b], below, meth, c, lw_Z below #[Value.ref b] s) (s.heap.size, D, cs) (0, zk_env 4 [.retAddr b], [], [], zi_h0, 0, 0) := by
    refine zc_new (i := 7) (ci := 11) gc dL_law_0 nw_L_7 (Nat.le_of_ble_eq_true rfl) (Nat.le_of_ble_eq_true rfl) ?_
    refine zc_dup gc dL_law_3 rfl ?_
    rw [show zc_z zi_h0 ([] : List zk_Sh).length = zi_h0 from zi_z0]
    refine zc_inv (P := zc_prog) (w := zp_11) (r := (SH1, zi_h1, 177, 5707)) (a := 0) gc dL_law_4 rfl ⟨Or.inl tw_23, tw_24, lb_X11_init, ⟨by decide, by decide⟩⟩ (Nat.le_of_ble_eq_true rfl) (zc_full (w := zp_11) rfl rfl zi_p1) (Nat.le_of_ble_eq_true rfl) (Nat.le_of_ble_eq_true rfl) ?_
    refine zc_astore_n (i := 1) (x := 0) gc dL_law_7 (by decide) rfl ?_
    refine zc_new (i := 10) (ci := 12) gc dL_law_8 nw_L_10 (Nat.le_of_ble_eq_true rfl) (Nat.le_of_ble_eq_true rfl) ?_
    refine zc_dup gc dL_law_11 rfl ?_
    rw [zi_len1]
    refine zc_inv (P := zc_prog) (w := zp_12) (r := (SHP, zi_h2, 22, 6909)) (a := 178) gc dL_law_12 rfl ⟨Or.inl tw_1014, tw_1015, lb_X12_init, ⟨by decide, by decide⟩⟩ (Nat.le_of_ble_eq_true rfl) (zc_full (w := zp_12) rfl rfl zi_p2) (Nat.le_of_ble_eq_true rfl) (Nat.le_of_ble_eq_true rfl) ?_
    refine zc_astore_n (i := 2) (x := 178) gc dL_law_15 (by decide) rfl ?_
    refine zc_iconst gc dL_law_16 ?_
    refine zc_istore_n (i := 3) gc dL_law_17 (by decide) rfl ?_
    intro H locs ls hl hP hS hz
    refine hloop H locs ls ⟨hl.1, hl.2.1, fun k v hk hv => ?_⟩ hP zc_D hS
    match k, hk with
    | 0, hk =>
      cases hk
      have := hl.2.2 0 (.retAddr b) rfl (by simp)
      rw [this]
      simp only [zk_cv, hexb]
      rfl
    | 1, hk => cases hk; exact hl.2.2 1 (.ref 0) rfl (by simp)
    | 2, hk => cases hk; exact hl.2.2 2 (.ref 178) rfl (by simp)
    | 3, hk => cases hk; exact hl.2.2 3 (.int (nI 0)) rfl (by simp)
    | k + 4, hk => simp [zl_env] at hk
  exact hstart s.heap [] _ (by rw [hml]; exact zk_lv_entry (ad := zc_ad s.heap.size) (ex := id) (av := [.retAddr b]) (Nat.le_of_ble_eq_true rfl)) (fun k q h => by simp [zk_lay] at h) va_S.rf rfl
