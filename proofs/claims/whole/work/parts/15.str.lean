theorem tw_688 : (Jvm.Cond.methodLink "RoadPlugs$Tape" (90 : Nat) ({ cls := "java/lang/String", name := "length", desc := "()I" } : Jvm.MethodName)) ∈ zk_tbl := zk_in 688 (by decide +kernel) rfl
theorem tw_689 : (Jvm.Cond.instanceMethod ({ cls := "java/lang/String", name := "length", desc := "()I" } : Jvm.MethodName)) ∈ zk_tbl := zk_in 689 (by decide +kernel) rfl
theorem tw_690 : (Jvm.Cond.selects "java/lang/String" ({ cls := "java/lang/String", name := "length", desc := "()I" } : Jvm.MethodName) ({ cls := "java/lang/String", name := "length", desc := "()I" } : Jvm.MethodName)) ∈ zk_tbl := zk_in 690 (by decide +kernel) rfl
theorem tw_691 : (Jvm.Cond.code ({ cls := "java/lang/String", name := "length", desc := "()I" } : Jvm.MethodName) prog_17_method_54_code (1 : Nat) (Option.some Jvm.ClassFile.FieldType.int)) ∈ zk_tbl := zk_in 691 (by decide +kernel) rfl
theorem tw_692 : (Jvm.Cond.methodLink "java/lang/String" (335 : Nat) ({ cls := "java/lang/String", name := "coder", desc := "()B" } : Jvm.MethodName)) ∈ zk_tbl := zk_in 692 (by decide +kernel) rfl
theorem tw_693 : (Jvm.Cond.instanceMethod ({ cls := "java/lang/String", name := "coder", desc := "()B" } : Jvm.MethodName)) ∈ zk_tbl := zk_in 693 (by decide +kernel) rfl
theorem tw_694 : (Jvm.Cond.selects "java/lang/String" ({ cls := "java/lang/String", name := "coder", desc := "()B" } : Jvm.MethodName) ({ cls := "java/lang/String", name := "coder", desc := "()B" } : Jvm.MethodName)) ∈ zk_tbl := zk_in 694 (by decide +kernel) rfl
theorem tw_695 : (Jvm.Cond.code ({ cls := "java/lang/String", name := "coder", desc := "()B" } : Jvm.MethodName) prog_17_method_152_code (1 : Nat) (Option.some Jvm.ClassFile.FieldType.byte)) ∈ zk_tbl := zk_in 695 (by decide +kernel) rfl
theorem tw_696 : (Jvm.Cond.fieldLink "java/lang/String" (38 : Nat) "java/lang/String" "COMPACT_STRINGS" "Z") ∈ zk_tbl := zk_in 696 (by decide +kernel) rfl
theorem tw_698 : (Jvm.Cond.methodLink "RoadPlugs$Tape" (94 : Nat) ({ cls := "java/lang/String", name := "charAt", desc := "(I)C" } : Jvm.MethodName)) ∈ zk_tbl := zk_in 698 (by decide +kernel) rfl
theorem tw_699 : (Jvm.Cond.instanceMethod ({ cls := "java/lang/String", name := "charAt", desc := "(I)C" } : Jvm.MethodName)) ∈ zk_tbl := zk_in 699 (by decide +kernel) rfl
theorem tw_700 : (Jvm.Cond.selects "java/lang/String" ({ cls := "java/lang/String", name := "charAt", desc := "(I)C" } : Jvm.MethodName) ({ cls := "java/lang/String", name := "charAt", desc := "(I)C" } : Jvm.MethodName)) ∈ zk_tbl := zk_in 700 (by decide +kernel) rfl
theorem tw_701 : (Jvm.Cond.code ({ cls := "java/lang/String", name := "charAt", desc := "(I)C" } : Jvm.MethodName) prog_17_method_56_code (2 : Nat) (Option.some Jvm.ClassFile.FieldType.char)) ∈ zk_tbl := zk_in 701 (by decide +kernel) rfl
theorem tw_702 : (Jvm.Cond.methodLink "java/lang/String" (492 : Nat) ({ cls := "java/lang/String", name := "isLatin1", desc := "()Z" } : Jvm.MethodName)) ∈ zk_tbl := zk_in 702 (by decide +kernel) rfl
theorem tw_703 : (Jvm.Cond.instanceMethod ({ cls := "java/lang/String", name := "isLatin1", desc := "()Z" } : Jvm.MethodName)) ∈ zk_tbl := zk_in 703 (by decide +kernel) rfl
theorem tw_704 : (Jvm.Cond.selects "java/lang/String" ({ cls := "java/lang/String", name := "isLatin1", desc := "()Z" } : Jvm.MethodName) ({ cls := "java/lang/String", name := "isLatin1", desc := "()Z" } : Jvm.MethodName)) ∈ zk_tbl := zk_in 704 (by decide +kernel) rfl
theorem tw_705 : (Jvm.Cond.code ({ cls := "java/lang/String", name := "isLatin1", desc := "()Z" } : Jvm.MethodName) prog_17_method_154_code (1 : Nat) (Option.some Jvm.ClassFile.FieldType.boolean)) ∈ zk_tbl := zk_in 705 (by decide +kernel) rfl
theorem tw_706 : (Jvm.Cond.methodLink "java/lang/String" (495 : Nat) ({ cls := "java/lang/StringLatin1", name := "charAt", desc := "([BI)C" } : Jvm.MethodName)) ∈ zk_tbl := zk_in 706 (by decide +kernel) rfl
theorem tw_707 : (Jvm.Cond.static ({ cls := "java/lang/StringLatin1", name := "charAt", desc := "([BI)C" } : Jvm.MethodName)) ∈ zk_tbl := zk_in 707 (by decide +kernel) rfl
theorem tw_708 : (Jvm.Cond.code ({ cls := "java/lang/StringLatin1", name := "charAt", desc := "([BI)C" } : Jvm.MethodName) prog_18_method_2_code (2 : Nat) (Option.some Jvm.ClassFile.FieldType.char)) ∈ zk_tbl := zk_in 708 (by decide +kernel) rfl
theorem tw_709 : (Jvm.Cond.methodLink "java/lang/StringLatin1" (9 : Nat) ({ cls := "java/lang/String", name := "checkIndex", desc := "(II)V" } : Jvm.MethodName)) ∈ zk_tbl := zk_in 709 (by decide +kernel) rfl
theorem tw_710 : (Jvm.Cond.static ({ cls := "java/lang/String", name := "checkIndex", desc := "(II)V" } : Jvm.MethodName)) ∈ zk_tbl := zk_in 710 (by decide +kernel) rfl
theorem tw_711 : (Jvm.Cond.code ({ cls := "java/lang/String", name := "checkIndex", desc := "(II)V" } : Jvm.MethodName) prog_17_method_155_code (2 : Nat) (Option.none : Option Jvm.ClassFile.FieldType)) ∈ zk_tbl := zk_in 711 (by decide +kernel) rfl
theorem tw_712 : (Jvm.Cond.fieldLink "java/lang/String" (1053 : Nat) "jdk/internal/util/Preconditions" "SIOOBE_FORMATTER" "Ljava/util/function/BiFunction;") ∈ zk_tbl := zk_in 712 (by decide +kernel) rfl
theorem tw_714 : (Jvm.Cond.methodLink "java/lang/String" (1059 : Nat) ({ cls := "jdk/internal/util/Preconditions", name := "checkIndex", desc := "(IILjava/util/function/BiFunction;)I" } : Jvm.MethodName)) ∈ zk_tbl := zk_in 714 (by decide +kernel) rfl
theorem tw_715 : (Jvm.Cond.static ({ cls := "jdk/internal/util/Preconditions", name := "checkIndex", desc := "(IILjava/util/function/BiFunction;)I" } : Jvm.MethodName)) ∈ zk_tbl := zk_in 715 (by decide +kernel) rfl
theorem tw_716 : (Jvm.Cond.code ({ cls := "jdk/internal/util/Preconditions", name := "checkIndex", desc := "(IILjava/util/function/BiFunction;)I" } : Jvm.MethodName) prog_21_method_11_code (3 : Nat) (Option.some Jvm.ClassFile.FieldType.int)) ∈ zk_tbl := zk_in 716 (by decide +kernel) rfl
theorem tw_1433 : (Jvm.Cond.fieldLink "java/lang/String" (9 : Nat) "java/lang/String" "value" "[B") ∈ zk_tbl := zk_in 1433 (by decide +kernel) rfl
theorem tw_1434 : (Jvm.Cond.fieldLink "java/lang/String" (15 : Nat) "java/lang/String" "coder" "B") ∈ zk_tbl := zk_in 1434 (by decide +kernel) rfl
theorem tw_16 : (Jvm.Cond.initialized "java/lang/String") ∈ zk_tbl := zk_in 16 (by decide +kernel) rfl
theorem tw_17 : (Jvm.Cond.initialized "java/lang/StringLatin1") ∈ zk_tbl := zk_in 17 (by decide +kernel) rfl
theorem tw_18 : (Jvm.Cond.initialized "jdk/internal/util/Preconditions") ∈ zk_tbl := zk_in 18 (by decide +kernel) rfl
def zs_Pc (ex adV : Nat → Nat) (A : Nat → Prop) (av : List Value) : Array Value → State → Prop := va_Pc av (fun U => zk_Ex ex adV A U U.heap)
def zs_Qc (rv : Option Value) : Array Value → State → Outcome → State → Prop := fun _ st oc t => oc = .returned rv ∧ t.heap = st.heap
theorem zs_blind {ex adV : Nat → Nat} {A : Nat → Prop} {av : List Value} : FrameBlind (zs_Pc ex adV A av) := by
  intro a U g mk q
  obtain ⟨q0, qX⟩ := q
  exact ⟨q0, qX.fb (u := U) (U := U.calling g mk a) rfl⟩
section ZSB
variable {p : Program} {l : Launch} {e : Jvm.Env} {R : Room} {s : State} {m : MethodId} {args : Array Value} {below : List Frame} {meth : Method} {c : Code} {Q : State → Prop} {H : Heap} {locs : List Loc} {ce sl pc : Nat} {ls : Array Slot} {st0 rest : List Value}
theorem zs_back {rv : Option Value} {a : Array Value} (hr : va_Run p l e R s m args below meth c H locs ce sl 0 0 (F0 m pc ls st0) rest (zs_Qc rv a) (fun _ => False)) (kk : W p l e R s m args below meth c H locs ce sl Q (F0 m (pc + 3) ls (rv.toList ++ rest))) : W p l e R s m args below meth c H locs ce sl Q (F0 m pc ls st0) := by
  intro T0 hT X
  obtain ⟨v0, st₀, t, T', L, h0, X', hL, e1, e2, ⟨hv, hh⟩, st⟩ := hr T0 hT X
  have hv3 : v0 = rv := by injection hv
  subst hv3
  have hL0 : L = [] := List.eq_nil_iff_forall_not_mem.mpr (fun q hq => hL q hq)
  subst hL0
  rw [List.append_nil] at X'
  obtain ⟨t2, a1, b1⟩ := kk T' (by rw [e1, hh, h0]) X'
  exact ⟨t2, st t2 a1, b1⟩
theorem zs_pre {ex adV : Nat → Nat} {A : Nat → Prop} {av : List Value} (hX : zk_Ex ex adV A s s.heap) (hS : va_S A s.heap H locs) : PreS s H (zs_Pc ex adV A av) av := ⟨zs_blind, fun U hU hW => ⟨rfl, by show zk_Ex ex adV A U U.heap; rw [hU]; exact hX.mv hW hS (fun _ h => h)⟩⟩
end ZSB
theorem zs_l0 : ∀ j, j < 6 → (Int32.ofNat (zk_len.getD j 0)) >>> ((0 : Int32) &&& 31) = Int32.ofNat (zk_len.getD j 0) := by decide +kernel
theorem zs_l1 : ∀ j, j < 6 → (Int32.ofNat (zk_len.getD j 0)).toInt = ((zk_len.getD j 0 : Nat) : Int) := by decide +kernel
theorem zs_l2 : ∀ j, j < 6 → zk_len.getD j 0 ≤ 5 := by decide +kernel
theorem zs_coder (l : Launch) (ex adV : Nat → Nat) (A : Nat → Prop) (j : Nat) (hj : j < 6) : Met l yJ0_coder_7d493 (.code yJ0_coder_7d493 cJ0_coder_7d493 1 (some .byte) :: zk_tbl) { frames := 0, cells := 0, slots := 0, locals := 0 } (zs_Pc ex adV A [.ref (ex j)]) (zs_Qc (some (.int 0))) 0 0 (fun _ => False) := by
  refine Met.ofW (cc := cJ0_coder_7d493) (maxL := 1) (ret := some .byte) (by decide) rfl ?_
  intro p e s m args below meth c s₁ B hml hv
  obtain ⟨rfl, hX⟩ := hv
  have hx := B.exec
  have hb := B.bytes
  have hr := B.returns
  have hts0 := atoms_spec (ws := .code yJ0_coder_7d493 cJ0_coder_7d493 1 (some .byte) :: zk_tbl) B.pre
  have hts : ∀ w ∈ zk_tbl, w.before _ s = true := fun w hw => hts0 w (List.mem_cons_of_mem _ hw)
  have hown : s.vm.findClass RJ0 = some m.cls := findClass_of_methodNamed B.named
  have hlocks := B.notSynchronized
  have hl := lv_entry ([.ref (ex j)]) (n := 1) (Nat.le_of_ble_eq_true rfl)
  rw [lg_entry_eq]
  generalize (lg_sl ([.ref (ex j)]) ++ List.replicate (1 - (lg_sl ([.ref (ex j)])).length) Slot.unset).toArray = ls at hl ⊢
  have hS : va_S A s.heap s.heap [] := va_S.rf
  refine va_gets hx hb hX.2.2.1.1 hS hown (hts _ tw_696) (fun _ z => z) dJ0_coder_7d493_0 ?_
  refine lv_if_eq (tgt := 13) hx hb dJ0_coder_7d493_3 (by decide) (fun q => absurd q (by decide)) (fun _ => ?_)
  refine lv_aload_n hx hb dJ0_coder_7d493_6 rfl (lv_at hl 0 rfl) ?_
  refine vk_getf hx hb (hX.1.1 j hj).2.1 hS hown (hts _ tw_1434) (fun _ z => z) dJ0_coder_7d493_7 ?_
  refine lv_goto (tgt := 14) hx hb dJ0_coder_7d493_10 (by decide) ?_
  exact W.zret (v := 0) hx hb hr rfl (fun t ht hW => ⟨rfl, ht⟩) (fun q hq => by cases hq) dJ0_coder_7d493_14
theorem zs_latin (l : Launch) (ex adV : Nat → Nat) (A : Nat → Prop) (j : Nat) (hj : j < 6) : Met l yJ0_isLatin1_aae02 (.code yJ0_isLatin1_aae02 cJ0_isLatin1_aae02 1 (some .boolean) :: zk_tbl) { frames := 0, cells := 0, slots := 0, locals := 0 } (zs_Pc ex adV A [.ref (ex j)]) (zs_Qc (some (.int 1))) 0 0 (fun _ => False) := by
  refine Met.ofW (cc := cJ0_isLatin1_aae02) (maxL := 1) (ret := some .boolean) (by decide) rfl ?_
  intro p e s m args below meth c s₁ B hml hv
  obtain ⟨rfl, hX⟩ := hv
  have hx := B.exec
  have hb := B.bytes
  have hr := B.returns
  have hts0 := atoms_spec (ws := .code yJ0_isLatin1_aae02 cJ0_isLatin1_aae02 1 (some .boolean) :: zk_tbl) B.pre
  have hts : ∀ w ∈ zk_tbl, w.before _ s = true := fun w hw => hts0 w (List.mem_cons_of_mem _ hw)
  have hown : s.vm.findClass RJ0 = some m.cls := findClass_of_methodNamed B.named
  have hlocks := B.notSynchronized
  have hl := lv_entry ([.ref (ex j)]) (n := 1) (Nat.le_of_ble_eq_true rfl)
  rw [lg_entry_eq]
  generalize (lg_sl ([.ref (ex j)]) ++ List.replicate (1 - (lg_sl ([.ref (ex j)])).length) Slot.unset).toArray = ls at hl ⊢
  have hS : va_S A s.heap s.heap [] := va_S.rf
  refine va_gets hx hb hX.2.2.1.1 hS hown (hts _ tw_696) (fun _ z => z) dJ0_isLatin1_aae02_0 ?_
  refine lv_if_eq (tgt := 17) hx hb dJ0_isLatin1_aae02_3 (by decide) (fun q => absurd q (by decide)) (fun _ => ?_)
  refine lv_aload_n hx hb dJ0_isLatin1_aae02_6 rfl (lv_at hl 0 rfl) ?_
  refine vk_getf hx hb (hX.1.1 j hj).2.1 hS hown (hts _ tw_1434) (fun _ z => z) dJ0_isLatin1_aae02_7 ?_
  refine lv_if_ne (tgt := 17) hx hb dJ0_isLatin1_aae02_10 (by decide) (fun q => absurd rfl q) (fun _ => ?_)
  refine lv_iconst (v := 1) hx hb dJ0_isLatin1_aae02_13 rfl ?_
  refine lv_goto (tgt := 18) hx hb dJ0_isLatin1_aae02_14 (by decide) ?_
  exact W.zret (v := 1) hx hb hr rfl (fun t ht hW => ⟨rfl, ht⟩) (fun q hq => by cases hq) dJ0_isLatin1_aae02_18
theorem zs_length (l : Launch) (ex adV : Nat → Nat) (A : Nat → Prop) (j : Nat) (hj : j < 6) : Met l yJ0_length_8abf5 (.code yJ0_length_8abf5 cJ0_length_8abf5 1 (some .int) :: zk_tbl) { frames := 1, cells := 0, slots := 0, locals := 30 } (zs_Pc ex adV A [.ref (ex j)]) (zs_Qc (some (.int (Int32.ofNat (zk_len.getD j 0))))) 0 0 (fun _ => False) := by
  refine Met.ofW (cc := cJ0_length_8abf5) (maxL := 1) (ret := some .int) (by decide) rfl ?_
  intro p e s m args below meth c s₁ B hml hv
  obtain ⟨rfl, hX⟩ := hv
  have hx := B.exec
  have hb := B.bytes
  have hr := B.returns
  have hts0 := atoms_spec (ws := .code yJ0_length_8abf5 cJ0_length_8abf5 1 (some .int) :: zk_tbl) B.pre
  have hts : ∀ w ∈ zk_tbl, w.before _ s = true := fun w hw => hts0 w (List.mem_cons_of_mem _ hw)
  have hown : s.vm.findClass RJ0 = some m.cls := findClass_of_methodNamed B.named
  have hlocks := B.notSynchronized
  have hl := lv_entry ([.ref (ex j)]) (n := 1) (Nat.le_of_ble_eq_true rfl)
  rw [lg_entry_eq]
  generalize (lg_sl ([.ref (ex j)]) ++ List.replicate (1 - (lg_sl ([.ref (ex j)])).length) Slot.unset).toArray = ls at hl ⊢
  have hS : va_S A s.heap s.heap [] := va_S.rf
  refine lv_aload_n hx hb dJ0_length_8abf5_0 rfl (lv_at hl 0 rfl) ?_
  refine vk_getf hx hb (hX.1.1 j hj).2.2.1 hS hown (hts _ tw_1433) (fun _ z => z) dJ0_length_8abf5_1 ?_
  refine va_tlen hx hb (hX.1.1 j hj).2.2.2 hS rfl dJ0_length_8abf5_4 ?_
  refine lv_aload_n hx hb dJ0_length_8abf5_5 rfl (lv_at hl 0 rfl) ?_
  refine zs_back (rest := [.int (Int32.ofNat (zk_len.getD j 0))]) (rv := (some (.int 0))) (va_runV (As := []) (n := 0) (b := ex j) (C := RJ0) ⟨hx, hb, hml, hown, hts⟩ (zs_coder l ex adV A j hj) ⟨callB_of (mc := 0) (ms := 0) 0 hts (zk_gin (T := (RJ0, cJ0_coder_7d493, 1, 0, 0)) (y := yJ0_coder_7d493) (ret := some .byte) (n := 0) ⟨tw_695, tw_16, by decide +kernel⟩) rfl rfl rfl (hts _ tw_16) (hts _ tw_692) (by decide +kernel) ⟨Nat.le_of_ble_eq_true rfl, Nat.le_of_ble_eq_true rfl⟩, hts _ tw_693, hts _ tw_694⟩ ⟨zs_blind, vk_recv hX.1 hj hS, (zs_pre hX hS).2⟩ rfl rfl hl.1 rfl (lv_room (Nat.le_of_ble_eq_true rfl)) dJ0_length_8abf5_6 ⟨Nat.le_refl _, Nat.le_refl _⟩) ?_
  refine lv_ishr hx hb dJ0_length_8abf5_9 ?_
  have e0 : (Int32.ofNat (zk_len.getD j 0)) >>> ((0 : Int32) &&& 31) = Int32.ofNat (zk_len.getD j 0) := zs_l0 j hj
  rw [e0]
  exact W.iret hx hb hr (fun t ht hW => ⟨rfl, ht⟩) (fun q hq => by cases hq) dJ0_length_8abf5_10
theorem zs_pre_ (l : Launch) (ex adV : Nat → Nat) (A : Nat → Prop) (i n : Int32) (r : Option Nat) (h0 : ¬ i < 0) (h1 : i < n) : Met l yJ3_checkIndex_8e157 (.code yJ3_checkIndex_8e157 cJ3_checkIndex_8e157 3 (some .int) :: zk_tbl) { frames := 0, cells := 0, slots := 0, locals := 0 } (zs_Pc ex adV A [.int i, .int n, va_rf r]) (zs_Qc (some (.int i))) 0 0 (fun _ => False) := by
  refine Met.ofW (cc := cJ3_checkIndex_8e157) (maxL := 3) (ret := some .int) (by decide) rfl ?_
  intro p e s m args below meth c s₁ B hml hv
  obtain ⟨rfl, hX⟩ := hv
  have hx := B.exec
  have hb := B.bytes
  have hr := B.returns
  have hts0 := atoms_spec (ws := .code yJ3_checkIndex_8e157 cJ3_checkIndex_8e157 3 (some .int) :: zk_tbl) B.pre
  have hts : ∀ w ∈ zk_tbl, w.before _ s = true := fun w hw => hts0 w (List.mem_cons_of_mem _ hw)
  have hown : s.vm.findClass RJ3 = some m.cls := findClass_of_methodNamed B.named
  have hlocks := B.notSynchronized
  have hl := lv_entry ([.int i, .int n, va_rf r]) (n := 3) (by cases r <;> exact Nat.le_of_ble_eq_true rfl)
  rw [lg_entry_eq]
  generalize (lg_sl ([.int i, .int n, va_rf r]) ++ List.replicate (3 - (lg_sl ([.int i, .int n, va_rf r])).length) Slot.unset).toArray = ls at hl ⊢
  have hS : va_S A s.heap s.heap [] := va_S.rf
  refine lv_iload_n hx hb dJ3_checkIndex_8e157_0 rfl (lv_at hl 0 rfl) ?_
  refine lv_if_lt (tgt := 9) hx hb dJ3_checkIndex_8e157_1 (by decide) (fun q => absurd q h0) (fun _ => ?_)
  refine lv_iload_n hx hb dJ3_checkIndex_8e157_4 rfl (lv_at hl 0 rfl) ?_
  refine lv_iload_n hx hb dJ3_checkIndex_8e157_5 rfl (lv_at hl 1 rfl) ?_
  refine lv_icmp_lt (tgt := 16) hx hb dJ3_checkIndex_8e157_6 (by decide) (fun _ => ?_) (fun q => absurd h1 q)
  refine lv_iload_n hx hb dJ3_checkIndex_8e157_16 rfl (lv_at hl 0 rfl) ?_
  exact W.iret hx hb hr (fun t ht hW => ⟨rfl, ht⟩) (fun q hq => by cases hq) dJ3_checkIndex_8e157_17
theorem zs_check (l : Launch) (ex adV : Nat → Nat) (A : Nat → Prop) (i n : Int32) (h0 : ¬ i < 0) (h1 : i < n) : Met l yJ0_checkIndex_df160 (.code yJ0_checkIndex_df160 cJ0_checkIndex_df160 2 (none) :: zk_tbl) { frames := 1, cells := 0, slots := 0, locals := 22 } (zs_Pc ex adV A [.int i, .int n]) (zs_Qc none) 0 0 (fun _ => False) := by
  refine Met.ofW (cc := cJ0_checkIndex_df160) (maxL := 2) (ret := none) (by decide) rfl ?_
  intro p e s m args below meth c s₁ B hml hv
  obtain ⟨rfl, hX⟩ := hv
  have hx := B.exec
  have hb := B.bytes
  have hr := B.returns
  have hts0 := atoms_spec (ws := .code yJ0_checkIndex_df160 cJ0_checkIndex_df160 2 (none) :: zk_tbl) B.pre
  have hts : ∀ w ∈ zk_tbl, w.before _ s = true := fun w hw => hts0 w (List.mem_cons_of_mem _ hw)
  have hown : s.vm.findClass RJ0 = some m.cls := findClass_of_methodNamed B.named
  have hlocks := B.notSynchronized
  have hl := lv_entry ([.int i, .int n]) (n := 2) (Nat.le_of_ble_eq_true rfl)
  rw [lg_entry_eq]
  generalize (lg_sl ([.int i, .int n]) ++ List.replicate (2 - (lg_sl ([.int i, .int n])).length) Slot.unset).toArray = ls at hl ⊢
  have hS : va_S A s.heap s.heap [] := va_S.rf
  refine lv_iload_n hx hb dJ0_checkIndex_df160_0 rfl (lv_at hl 0 rfl) ?_
  refine lv_iload_n hx hb dJ0_checkIndex_df160_1 rfl (lv_at hl 1 rfl) ?_
  have hz : ∀ r : Option Nat, va_Z "jdk/internal/util/Preconditions" "SIOOBE_FORMATTER" "Ljava/util/function/BiFunction;" (va_rf r) A s s.heap → W p l e (headSpec (.code yJ0_checkIndex_df160 cJ0_checkIndex_df160 2 none :: zk_tbl) { frames := 1, cells := 0, slots := 0, locals := 22 }).room s m ([.int i, .int n] : List Value).toArray below meth c s.heap [] 0 0 (MQ below (zs_Qc none) ([.int i, .int n] : List Value).toArray s 0 0 (fun _ => False)) (F0 m 2 ls [.int n, .int i]) := by
    intro r hv
    refine va_gets hx hb hv hS hown (hts _ tw_712) (fun _ z => z) dJ0_checkIndex_df160_2 ?_
    refine zs_back (rest := []) (rv := (some (.int i))) (va_runS (As := [.int i, .int n, va_rf r]) (n := 3) ⟨hx, hb, hml, hown, hts⟩ (zs_pre_ l ex adV A i n r h0 h1) ⟨callB_of (mc := 0) (ms := 0) 3 hts (zk_gin (T := (RJ3, cJ3_checkIndex_8e157, 3, 0, 0)) (y := yJ3_checkIndex_8e157) (ret := some .int) (n := 3) ⟨tw_716, tw_18, by decide +kernel⟩) rfl rfl rfl (hts _ tw_18) (hts _ tw_714) (by decide +kernel) ⟨Nat.le_of_ble_eq_true rfl, Nat.le_of_ble_eq_true rfl⟩, hts _ tw_715⟩ (zs_pre hX hS) rfl rfl hl.1 rfl (lv_room (Nat.le_of_ble_eq_true rfl)) dJ0_checkIndex_df160_5 ⟨Nat.le_refl _, Nat.le_refl _⟩) ?_
    refine lv_pop hx hb dJ0_checkIndex_df160_8 rfl ?_
    exact W.vret hx hb hr (fun t ht hW => ⟨rfl, ht⟩) (fun q hq => by cases hq) dJ0_checkIndex_df160_9
  rcases hX.2.2.1.2 with h2 | ⟨t, h2⟩
  · exact hz none h2
  · exact hz (some t) h2
theorem zs_lchar (l : Launch) (ex adV : Nat → Nat) (A : Nat → Prop) (j : Nat) (hj : j < 6) (i : Int32) (h0 : ¬ i < 0) (h1 : i < Int32.ofNat (zk_len.getD j 0)) : Met l yJ1_charAt_3b067 (.code yJ1_charAt_3b067 cJ1_charAt_3b067 2 (some .char) :: zk_tbl) { frames := 2, cells := 0, slots := 0, locals := 43 } (zs_Pc ex adV A [.ref (adV j), .int i]) (zs_Qc (some (.int ((zk_byt.getD j []).getD i.toNatClampNeg 0)))) 0 0 (fun _ => False) := by
  refine Met.ofW (cc := cJ1_charAt_3b067) (maxL := 2) (ret := some .char) (by decide) rfl ?_
  intro p e s m args below meth c s₁ B hml hv
  obtain ⟨rfl, hX⟩ := hv
  have hx := B.exec
  have hb := B.bytes
  have hr := B.returns
  have hts0 := atoms_spec (ws := .code yJ1_charAt_3b067 cJ1_charAt_3b067 2 (some .char) :: zk_tbl) B.pre
  have hts : ∀ w ∈ zk_tbl, w.before _ s = true := fun w hw => hts0 w (List.mem_cons_of_mem _ hw)
  have hown : s.vm.findClass RJ1 = some m.cls := findClass_of_methodNamed B.named
  have hlocks := B.notSynchronized
  have hl := lv_entry ([.ref (adV j), .int i]) (n := 2) (Nat.le_of_ble_eq_true rfl)
  rw [lg_entry_eq]
  generalize (lg_sl ([.ref (adV j), .int i]) ++ List.replicate (2 - (lg_sl ([.ref (adV j), .int i])).length) Slot.unset).toArray = ls at hl ⊢
  have hS : va_S A s.heap s.heap [] := va_S.rf
  have hin : vp_in i (zk_len.getD j 0) := by
    rw [vp_in_iff]
    rw [Int32.lt_iff_toInt_lt] at h0 h1
    have e1 : (Int32.ofNat (zk_len.getD j 0)).toInt = ((zk_len.getD j 0 : Nat) : Int) := zs_l1 j hj
    rw [e1] at h1
    have e2 : (0 : Int32).toInt = 0 := rfl
    omega
  refine lv_iload_n hx hb dJ1_charAt_3b067_0 rfl (lv_at hl 1 rfl) ?_
  refine lv_aload_n hx hb dJ1_charAt_3b067_1 rfl (lv_at hl 0 rfl) ?_
  refine va_tlen hx hb (hX.1.1 j hj).2.2.2 hS rfl dJ1_charAt_3b067_2 ?_
  refine zs_back (rest := []) (rv := none) (va_runS (As := [.int i, .int (Int32.ofNat (zk_len.getD j 0))]) (n := 2) ⟨hx, hb, hml, hown, hts⟩ (zs_check l ex adV A i _ h0 h1) ⟨callB_of (mc := 0) (ms := 0) 2 hts (zk_gin (T := (RJ0, cJ0_checkIndex_df160, 2, 1, 22)) (y := yJ0_checkIndex_df160) (ret := none) (n := 2) ⟨tw_711, tw_16, by decide +kernel⟩) rfl rfl rfl (hts _ tw_16) (hts _ tw_709) (by decide +kernel) ⟨Nat.le_of_ble_eq_true rfl, Nat.le_of_ble_eq_true rfl⟩, hts _ tw_710⟩ (zs_pre hX hS) rfl rfl hl.1 rfl (lv_room (Nat.le_of_ble_eq_true rfl)) dJ1_charAt_3b067_3 ⟨Nat.le_refl _, Nat.le_refl _⟩) ?_
  refine lv_aload_n hx hb dJ1_charAt_3b067_6 rfl (lv_at hl 0 rfl) ?_
  refine lv_iload_n hx hb dJ1_charAt_3b067_7 rfl (lv_at hl 1 rfl) ?_
  refine va_tb hx hb (hX.1.1 j hj).2.2.2 hS hin rfl dJ1_charAt_3b067_8 ?_
  refine lv_sipush (v := 255) hx hb dJ1_charAt_3b067_9 rfl ?_
  refine lv_iand hx hb dJ1_charAt_3b067_12 ?_
  have e3 : ∀ j, j < 6 → ∀ k, k < 6 → ((((zk_byt.getD j []).getD k 0) &&& 255).toUInt32 % 65536).toInt32 = (zk_byt.getD j []).getD k 0 ∧ narrow .char (.int ((zk_byt.getD j []).getD k 0)) = .int ((zk_byt.getD j []).getD k 0) := by decide +kernel
  have hk6 : i.toNatClampNeg < 6 := by
    have := vp_in_iff.mp hin
    have h5 : zk_len.getD j 0 ≤ 5 := zs_l2 j hj
    have e4 : i.toNatClampNeg = i.toInt.toNat := rfl
    omega
  obtain ⟨e5, e6⟩ := e3 j hj _ hk6
  refine lv_i2c hx hb dJ1_charAt_3b067_13 e5 ?_
  exact W.zret hx hb hr e6 (fun t ht hW => ⟨rfl, ht⟩) (fun q hq => by cases hq) dJ1_charAt_3b067_14
theorem zs_char (l : Launch) (ex adV : Nat → Nat) (A : Nat → Prop) (j : Nat) (hj : j < 6) (i : Int32) (h0 : ¬ i < 0) (h1 : i < Int32.ofNat (zk_len.getD j 0)) : Met l yJ0_charAt_5068e (.code yJ0_charAt_5068e cJ0_charAt_5068e 2 (some .char) :: zk_tbl) { frames := 3, cells := 0, slots := 0, locals := 64 } (zs_Pc ex adV A [.ref (ex j), .int i]) (zs_Qc (some (.int ((zk_byt.getD j []).getD i.toNatClampNeg 0)))) 0 0 (fun _ => False) := by
  refine Met.ofW (cc := cJ0_charAt_5068e) (maxL := 2) (ret := some .char) (by decide) rfl ?_
  intro p e s m args below meth c s₁ B hml hv
  obtain ⟨rfl, hX⟩ := hv
  have hx := B.exec
  have hb := B.bytes
  have hr := B.returns
  have hts0 := atoms_spec (ws := .code yJ0_charAt_5068e cJ0_charAt_5068e 2 (some .char) :: zk_tbl) B.pre
  have hts : ∀ w ∈ zk_tbl, w.before _ s = true := fun w hw => hts0 w (List.mem_cons_of_mem _ hw)
  have hown : s.vm.findClass RJ0 = some m.cls := findClass_of_methodNamed B.named
  have hlocks := B.notSynchronized
  have hl := lv_entry ([.ref (ex j), .int i]) (n := 2) (Nat.le_of_ble_eq_true rfl)
  rw [lg_entry_eq]
  generalize (lg_sl ([.ref (ex j), .int i]) ++ List.replicate (2 - (lg_sl ([.ref (ex j), .int i])).length) Slot.unset).toArray = ls at hl ⊢
  have hS : va_S A s.heap s.heap [] := va_S.rf
  refine lv_aload_n hx hb dJ0_charAt_5068e_0 rfl (lv_at hl 0 rfl) ?_
  refine zs_back (rest := []) (rv := (some (.int 1))) (va_runV (As := []) (n := 0) (b := ex j) (C := RJ0) ⟨hx, hb, hml, hown, hts⟩ (zs_latin l ex adV A j hj) ⟨callB_of (mc := 0) (ms := 0) 0 hts (zk_gin (T := (RJ0, cJ0_isLatin1_aae02, 1, 0, 0)) (y := yJ0_isLatin1_aae02) (ret := some .boolean) (n := 0) ⟨tw_705, tw_16, by decide +kernel⟩) rfl rfl rfl (hts _ tw_16) (hts _ tw_702) (by decide +kernel) ⟨Nat.le_of_ble_eq_true rfl, Nat.le_of_ble_eq_true rfl⟩, hts _ tw_703, hts _ tw_704⟩ ⟨zs_blind, vk_recv hX.1 hj hS, (zs_pre hX hS).2⟩ rfl rfl hl.1 rfl (lv_room (Nat.le_of_ble_eq_true rfl)) dJ0_charAt_5068e_1 ⟨Nat.le_refl _, Nat.le_refl _⟩) ?_
  refine lv_if_eq (tgt := 16) hx hb dJ0_charAt_5068e_4 (by decide) (fun q => absurd q (by decide)) (fun _ => ?_)
  refine lv_aload_n hx hb dJ0_charAt_5068e_7 rfl (lv_at hl 0 rfl) ?_
  refine vk_getf hx hb (hX.1.1 j hj).2.2.1 hS hown (hts _ tw_1433) (fun _ z => z) dJ0_charAt_5068e_8 ?_
  refine lv_iload_n hx hb dJ0_charAt_5068e_11 rfl (lv_at hl 1 rfl) ?_
  refine zs_back (rest := []) (rv := (some (.int ((zk_byt.getD j []).getD i.toNatClampNeg 0)))) (va_runS (As := [.ref (adV j), .int i]) (n := 2) ⟨hx, hb, hml, hown, hts⟩ (zs_lchar l ex adV A j hj i h0 h1) ⟨callB_of (mc := 0) (ms := 0) 2 hts (zk_gin (T := (RJ1, cJ1_charAt_3b067, 2, 2, 43)) (y := yJ1_charAt_3b067) (ret := some .char) (n := 2) ⟨tw_708, tw_17, by decide +kernel⟩) rfl rfl rfl (hts _ tw_17) (hts _ tw_706) (by decide +kernel) ⟨Nat.le_of_ble_eq_true rfl, Nat.le_of_ble_eq_true rfl⟩, hts _ tw_707⟩ (zs_pre hX hS) rfl rfl hl.1 rfl (lv_room (Nat.le_of_ble_eq_true rfl)) dJ0_charAt_5068e_12 ⟨Nat.le_refl _, Nat.le_refl _⟩) ?_
  have e3 : ∀ j, j < 6 → ∀ k, k < 6 → narrow .char (.int ((zk_byt.getD j []).getD k 0)) = .int ((zk_byt.getD j []).getD k 0) := by decide +kernel
  have hk6 : i.toNatClampNeg < 6 := by
    have h5 : (Int32.ofNat (zk_len.getD j 0)).toInt ≤ 5 := by
      rw [zs_l1 j hj]
      have := zs_l2 j hj
      omega
    rw [Int32.lt_iff_toInt_lt] at h1
    have e4 : i.toNatClampNeg = i.toInt.toNat := rfl
    omega
  exact W.zret hx hb hr (e3 j hj _ hk6) (fun t ht hW => ⟨rfl, ht⟩) (fun q hq => by cases hq) dJ0_charAt_5068e_15
theorem zk_o_slen {n pc : Nat} (hd : decode cX8_isWord pc = .ok (.invokevirtual 90, 3)) (hn : n ≤ 8 := by decide) : zk_I1 M_X8_isWord n pc 3 zk_slen := by
  intro κ ω g env stk SH h x w hst hf k
  unfold zk_slen at hf
  split at hf
  · split at hf
    · rename_i j hj
      cases hf
      obtain ⟨p, l, e, R, s, m, args, below, meth, c, Q, ce, sl, A⟩ := κ
      obtain ⟨ad, D, cs, ex, adV⟩ := ω
      obtain ⟨hx, hb, hml, hown, hts, hK, hR, hA, hX⟩ := g
      intro H locs ls hl hP hD hS
      refine zs_back (rest := stk.map (zk_cv ad ex)) (rv := (some (.int (Int32.ofNat (zk_len.getD j 0))))) (va_runV (As := []) (n := 0) (b := ex j) (C := RJ0) ⟨hx, hb, hml, hown, hts⟩ (zs_length l ex adV A j hj) ⟨callB_of (mc := 0) (ms := 0) 0 hts (zk_gin (T := (RJ0, cJ0_length_8abf5, 1, 1, 30)) (y := yJ0_length_8abf5) (ret := some .int) (n := 0) ⟨tw_691, tw_16, by decide +kernel⟩) rfl rfl rfl (hts _ tw_16) (hts _ tw_688) (by decide +kernel) ⟨Nat.le_trans (by decide) hR.1, Nat.le_trans (by decide) hR.2.1⟩, hts _ tw_689, hts _ tw_690⟩ ⟨zs_blind, vk_recv hX.1 hj hS, (zs_pre hX hS).2⟩ rfl rfl (hl.1.trans hml) rfl (lv_room (by rw [zk_wsum]; exact Nat.le_trans hst hn)) hd ⟨by simpa using hR.2.2.1, by simpa using hR.2.2.2⟩) (k H locs ls hl hP hD hS)
    · cases hf
  · cases hf
theorem zk_o_schr {n pc : Nat} (hd : decode cX8_isWord pc = .ok (.invokevirtual 94, 3)) (hn : n ≤ 8 := by decide) : zk_I2 M_X8_isWord n pc 3 zk_schr := by
  intro κ ω g env stk SH h x y w hst hf k
  unfold zk_schr at hf
  split at hf
  · rename_i j i
    split at hf
    · rename_i hj
      obtain ⟨hj, h0, h1⟩ := hj
      cases hf
      have h0' : ¬ i < 0 := by
        rw [Int32.lt_iff_toInt_lt]
        have e2 : (0 : Int32).toInt = 0 := rfl
        omega
      have h1' : i < Int32.ofNat (zk_len.getD j 0) := by
        rw [Int32.lt_iff_toInt_lt]
        have e1 : (Int32.ofNat (zk_len.getD j 0)).toInt = ((zk_len.getD j 0 : Nat) : Int) := zs_l1 j hj
        rw [e1]
        exact h1
      obtain ⟨p, l, e, R, s, m, args, below, meth, c, Q, ce, sl, A⟩ := κ
      obtain ⟨ad, D, cs, ex, adV⟩ := ω
      obtain ⟨hx, hb, hml, hown, hts, hK, hR, hA, hX⟩ := g
      intro H locs ls hl hP hD hS
      refine zs_back (rest := stk.map (zk_cv ad ex)) (rv := (some (.int ((zk_byt.getD j []).getD i.toNatClampNeg 0)))) (va_runV (As := [.int i]) (n := 1) (b := ex j) (C := RJ0) ⟨hx, hb, hml, hown, hts⟩ (zs_char l ex adV A j hj i h0' h1') ⟨callB_of (mc := 0) (ms := 0) 1 hts (zk_gin (T := (RJ0, cJ0_charAt_5068e, 2, 3, 64)) (y := yJ0_charAt_5068e) (ret := some .char) (n := 1) ⟨tw_701, tw_16, by decide +kernel⟩) rfl rfl rfl (hts _ tw_16) (hts _ tw_698) (by decide +kernel) ⟨Nat.le_trans (by decide) hR.1, Nat.le_trans (by decide) hR.2.1⟩, hts _ tw_699, hts _ tw_700⟩ ⟨zs_blind, vk_recv hX.1 hj hS, (zs_pre hX hS).2⟩ rfl rfl (hl.1.trans hml) rfl (lv_room (by rw [zk_wsum]; exact Nat.le_trans hst hn)) hd ⟨by simpa using hR.2.2.1, by simpa using hR.2.2.2⟩) (k H locs ls hl hP hD hS)
    · cases hf
  · cases hf
