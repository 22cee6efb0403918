abbrev rmJ0_coder_7d493 : Room := { frames := 0, cells := 0, slots := 0, locals := 0 }
set_option maxHeartbeats 4000000 in
set_option maxRecDepth 100000 in
theorem kJ0_coder_7d493 (l : Launch) (aK aV : Nat → Nat) (A : Nat → Prop) (i : Nat)  (h1 : i < 9) : Met l yJ0_coder_7d493 wsJ0_coder_7d493 rmJ0_coder_7d493 (va_Pc [Value.ref (aK i)] (fun U => STR aK aV A U U.heap)) (vp_Si (fun r => r = sJ0_coder_7d493 i)) 0 0 (fun _ => False) := by
  refine Met.ofW (cc := cJ0_coder_7d493) (maxL := 1) (ret := (some .byte)) (by decide) rfl ?_
  intro p e s m args below meth c s₁ B hml hv
  obtain ⟨rfl, hST⟩ := hv
  have hx := B.exec
  have hb := B.bytes
  have hr := B.returns
  have hts := atoms_spec (ws := wsJ0_coder_7d493) B.pre
  have hown : s.vm.findClass RJ0 = some m.cls := findClass_of_methodNamed B.named
  have hlocks := B.notSynchronized
  have hl := lv_entry ([.ref (aK i)]) (n := 1) (Nat.le_of_ble_eq_true rfl)
  rw [lg_entry_eq]
  generalize (lg_sl ([.ref (aK i)]) ++ List.replicate (1 - (lg_sl ([.ref (aK i)])).length) Slot.unset).toArray = ls at hl ⊢
  have hl : lv_has ls 1 [(0, .ref (aK i))] := hl
  have E := sJ0_coder_7d493.eq_1 i
  refine va_gets hx hb hST.2.1 va_S.rf hown (hts (.fieldLink RJ0 38 "java/lang/String" "COMPACT_STRINGS" "Z") (by decide +kernel)) (fun _ h9 => h9) dJ0_coder_7d493_0 ?_
  refine lv_if_eq (tgt := 13) hx hb dJ0_coder_7d493_3 (by decide) (fun z => absurd z (by decide)) (fun _ => ?_)
  refine lv_aload_n hx hb dJ0_coder_7d493_6 rfl (lv_at hl 0 rfl) ?_
  refine vk_getf hx hb (hST.1.1 i h1).2.1 va_S.rf hown (hts (.fieldLink RJ0 15 "java/lang/String" "coder" "B") (by decide +kernel)) (fun _ h9 => h9) dJ0_coder_7d493_7 ?_
  refine lv_goto (tgt := 14) hx hb dJ0_coder_7d493_10 (by decide) ?_
  exact W.zret (ty := .byte) (v := 0) hx hb hr (by rfl) (fun t ht hW => ⟨_, rfl, E.symm, ht⟩) (fun q hq => by cases hq) dJ0_coder_7d493_14
abbrev rmJ0_isLatin1_aae02 : Room := { frames := 0, cells := 0, slots := 0, locals := 0 }
set_option maxHeartbeats 4000000 in
set_option maxRecDepth 100000 in
theorem kJ0_isLatin1_aae02 (l : Launch) (aK aV : Nat → Nat) (A : Nat → Prop) (i : Nat)  (h1 : i < 9) : Met l yJ0_isLatin1_aae02 wsJ0_isLatin1_aae02 rmJ0_isLatin1_aae02 (va_Pc [Value.ref (aK i)] (fun U => STR aK aV A U U.heap)) (vp_Si (fun r => r = sJ0_isLatin1_aae02 i ∧ (r = 0 ∨ r = 1))) 0 0 (fun _ => False) := by
  refine Met.ofW (cc := cJ0_isLatin1_aae02) (maxL := 1) (ret := (some .boolean)) (by decide) rfl ?_
  intro p e s m args below meth c s₁ B hml hv
  obtain ⟨rfl, hST⟩ := hv
  have hx := B.exec
  have hb := B.bytes
  have hr := B.returns
  have hts := atoms_spec (ws := wsJ0_isLatin1_aae02) B.pre
  have hown : s.vm.findClass RJ0 = some m.cls := findClass_of_methodNamed B.named
  have hlocks := B.notSynchronized
  have hl := lv_entry ([.ref (aK i)]) (n := 1) (Nat.le_of_ble_eq_true rfl)
  rw [lg_entry_eq]
  generalize (lg_sl ([.ref (aK i)]) ++ List.replicate (1 - (lg_sl ([.ref (aK i)])).length) Slot.unset).toArray = ls at hl ⊢
  have hl : lv_has ls 1 [(0, .ref (aK i))] := hl
  have E := sJ0_isLatin1_aae02.eq_1 i
  refine va_gets hx hb hST.2.1 va_S.rf hown (hts (.fieldLink RJ0 38 "java/lang/String" "COMPACT_STRINGS" "Z") (by decide +kernel)) (fun _ h9 => h9) dJ0_isLatin1_aae02_0 ?_
  refine lv_if_eq (tgt := 17) hx hb dJ0_isLatin1_aae02_3 (by decide) (fun z => absurd z (by decide)) (fun _ => ?_)
  refine lv_aload_n hx hb dJ0_isLatin1_aae02_6 rfl (lv_at hl 0 rfl) ?_
  refine vk_getf hx hb (hST.1.1 i h1).2.1 va_S.rf hown (hts (.fieldLink RJ0 15 "java/lang/String" "coder" "B") (by decide +kernel)) (fun _ h9 => h9) dJ0_isLatin1_aae02_7 ?_
  refine lv_if_ne (tgt := 17) hx hb dJ0_isLatin1_aae02_10 (by decide) (fun z => absurd z (by decide)) (fun _ => ?_)
  refine lv_iconst (v := 1) hx hb dJ0_isLatin1_aae02_13 (by decide) ?_
  refine lv_goto (tgt := 18) hx hb dJ0_isLatin1_aae02_14 (by decide) ?_
  exact W.zret (ty := .boolean) (v := 1) hx hb hr (z_nar (Or.inr rfl)) (fun t ht hW => ⟨_, rfl, ⟨E.symm, (Or.inr rfl)⟩, ht⟩) (fun q hq => by cases hq) dJ0_isLatin1_aae02_18
abbrev rmJ0_length_8abf5 : Room := { frames := 1, cells := 0, slots := 0, locals := 20 }
set_option maxHeartbeats 4000000 in
set_option maxRecDepth 100000 in
theorem kJ0_length_8abf5 (l : Launch) (aK aV : Nat → Nat) (A : Nat → Prop) (i : Nat)  (h1 : i < 9) : Met l yJ0_length_8abf5 wsJ0_length_8abf5 rmJ0_length_8abf5 (va_Pc [Value.ref (aK i)] (fun U => STR aK aV A U U.heap)) (vp_Si (fun r => r = sJ0_length_8abf5 i)) 0 0 (fun _ => False) := by
  refine Met.ofW (cc := cJ0_length_8abf5) (maxL := 1) (ret := (some .int)) (by decide) rfl ?_
  intro p e s m args below meth c s₁ B hml hv
  obtain ⟨rfl, hST⟩ := hv
  have hx := B.exec
  have hb := B.bytes
  have hr := B.returns
  have hts := atoms_spec (ws := wsJ0_length_8abf5) B.pre
  have hown : s.vm.findClass RJ0 = some m.cls := findClass_of_methodNamed B.named
  have hlocks := B.notSynchronized
  have hl := lv_entry ([.ref (aK i)]) (n := 1) (Nat.le_of_ble_eq_true rfl)
  rw [lg_entry_eq]
  generalize (lg_sl ([.ref (aK i)]) ++ List.replicate (1 - (lg_sl ([.ref (aK i)])).length) Slot.unset).toArray = ls at hl ⊢
  have hl : lv_has ls 1 [(0, .ref (aK i))] := hl
  have E := sJ0_length_8abf5.eq_1 i
  refine lv_aload_n hx hb dJ0_length_8abf5_0 rfl (lv_at hl 0 rfl) ?_
  refine vk_getf hx hb (hST.1.1 i h1).2.2.1 va_S.rf hown (hts (.fieldLink RJ0 9 "java/lang/String" "value" "[B") (by decide +kernel)) (fun _ h9 => h9) dJ0_length_8abf5_1 ?_
  refine va_tlen hx hb (hST.1.1 i h1).2.2.2 va_S.rf (v := tl i) rfl dJ0_length_8abf5_4 ?_
  have := tl_n h1
  have := len7 h1
  refine lv_aload_n hx hb dJ0_length_8abf5_5 rfl (lv_at hl 0 rfl) ?_
  refine vp_callSi (va_Run.run (va_runV (As := []) (rest := [.int (tl i)]) ⟨hx, hb, hml, hown, hts⟩ (kJ0_coder_7d493 l aK aV A i (by omega)) (cwV 0 hts gJ0_length_8abf5_J0_coder_7d493 rfl rfl rfl mdJ0_coder_7d493 ⟨Nat.le_of_ble_eq_true rfl, Nat.le_of_ble_eq_true rfl⟩) (xt_pre hST (by omega) va_S.rf) rfl rfl hl.1 rfl (lv_room (Nat.le_of_ble_eq_true rfl)) dJ0_length_8abf5_6 ⟨Nat.zero_le _, Nat.zero_le _⟩)) (fun rn_1 hr_1 => ?_)
  have hr2_1 : rn_1 = 0 := hr_1
  subst hr2_1
  refine lv_ishr hx hb dJ0_length_8abf5_9 ?_
  exact W.iret (v := (tl i) >>> (0 &&& 31)) hx hb hr (fun t ht hW => ⟨_, rfl, E.symm, ht⟩) (fun q hq => by cases hq) dJ0_length_8abf5_10
abbrev rmJ0_isEmpty_aae02 : Room := { frames := 0, cells := 0, slots := 0, locals := 0 }
set_option maxHeartbeats 4000000 in
set_option maxRecDepth 100000 in
theorem kJ0_isEmpty_aae02 (l : Launch) (aK aV : Nat → Nat) (A : Nat → Prop) (i : Nat)  (h1 : i < 9) : Met l yJ0_isEmpty_aae02 wsJ0_isEmpty_aae02 rmJ0_isEmpty_aae02 (va_Pc [Value.ref (aK i)] (fun U => STR aK aV A U U.heap)) (vp_Si (fun r => r = sJ0_isEmpty_aae02 i ∧ (r = 0 ∨ r = 1))) 0 0 (fun _ => False) := by
  refine Met.ofW (cc := cJ0_isEmpty_aae02) (maxL := 1) (ret := (some .boolean)) (by decide) rfl ?_
  intro p e s m args below meth c s₁ B hml hv
  obtain ⟨rfl, hST⟩ := hv
  have hx := B.exec
  have hb := B.bytes
  have hr := B.returns
  have hts := atoms_spec (ws := wsJ0_isEmpty_aae02) B.pre
  have hown : s.vm.findClass RJ0 = some m.cls := findClass_of_methodNamed B.named
  have hlocks := B.notSynchronized
  have hl := lv_entry ([.ref (aK i)]) (n := 1) (Nat.le_of_ble_eq_true rfl)
  rw [lg_entry_eq]
  generalize (lg_sl ([.ref (aK i)]) ++ List.replicate (1 - (lg_sl ([.ref (aK i)])).length) Slot.unset).toArray = ls at hl ⊢
  have hl : lv_has ls 1 [(0, .ref (aK i))] := hl
  have E := sJ0_isEmpty_aae02.eq_1 i
  refine lv_aload_n hx hb dJ0_isEmpty_aae02_0 rfl (lv_at hl 0 rfl) ?_
  refine vk_getf hx hb (hST.1.1 i h1).2.2.1 va_S.rf hown (hts (.fieldLink RJ0 9 "java/lang/String" "value" "[B") (by decide +kernel)) (fun _ h9 => h9) dJ0_isEmpty_aae02_1 ?_
  refine va_tlen hx hb (hST.1.1 i h1).2.2.2 va_S.rf (v := tl i) rfl dJ0_isEmpty_aae02_4 ?_
  have := tl_n h1
  have := len7 h1
  refine lv_if_ne (tgt := 12) hx hb dJ0_isEmpty_aae02_5 (by decide) (fun c_1 => ?_) (fun c_1 => ?_)
  · have E := E.trans (if_neg c_1)
    have fc_1 := i_ne c_1
    rw [q_0] at fc_1
    refine lv_iconst (v := 0) hx hb dJ0_isEmpty_aae02_12 (by decide) ?_
    exact W.zret (ty := .boolean) (v := 0) hx hb hr (z_nar (Or.inl rfl)) (fun t ht hW => ⟨_, rfl, ⟨E.symm, (Or.inl rfl)⟩, ht⟩) (fun q hq => by cases hq) dJ0_isEmpty_aae02_13
  · have E := E.trans (if_pos c_1)
    have fc_1 := i_eq c_1
    rw [q_0] at fc_1
    refine lv_iconst (v := 1) hx hb dJ0_isEmpty_aae02_8 (by decide) ?_
    refine lv_goto (tgt := 13) hx hb dJ0_isEmpty_aae02_9 (by decide) ?_
    exact W.zret (ty := .boolean) (v := 1) hx hb hr (z_nar (Or.inr rfl)) (fun t ht hW => ⟨_, rfl, ⟨E.symm, (Or.inr rfl)⟩, ht⟩) (fun q hq => by cases hq) dJ0_isEmpty_aae02_13
abbrev rmJ3_checkIndex_8e157 : Room := { frames := 0, cells := 0, slots := 0, locals := 0 }
set_option maxHeartbeats 4000000 in
set_option maxRecDepth 100000 in
theorem kJ3_checkIndex_8e157 (l : Launch) (aK aV : Nat → Nat) (A : Nat → Prop) (t9 : Nat) (a1 : Int32) (a2 : Int32)  (h1 : 0 ≤ a1.toInt) (h2 : a1.toInt < a2.toInt) : Met l yJ3_checkIndex_8e157 wsJ3_checkIndex_8e157 rmJ3_checkIndex_8e157 (va_Pc [Value.int a1, Value.int a2, Value.ref t9] (fun U => STR aK aV A U U.heap)) (vp_Si (fun r => r = sJ3_checkIndex_8e157 t9 a1 a2)) 0 0 (fun _ => False) := by
  refine Met.ofW (cc := cJ3_checkIndex_8e157) (maxL := 3) (ret := (some .int)) (by decide) rfl ?_
  intro p e s m args below meth c s₁ B hml hv
  obtain ⟨rfl, hST⟩ := hv
  have hx := B.exec
  have hb := B.bytes
  have hr := B.returns
  have hts := atoms_spec (ws := wsJ3_checkIndex_8e157) B.pre
  have hown : s.vm.findClass RJ3 = some m.cls := findClass_of_methodNamed B.named
  have hlocks := B.notSynchronized
  have hl := lv_entry ([.int a1, .int a2, .ref t9]) (n := 3) (Nat.le_of_ble_eq_true rfl)
  rw [lg_entry_eq]
  generalize (lg_sl ([.int a1, .int a2, .ref t9]) ++ List.replicate (3 - (lg_sl ([.int a1, .int a2, .ref t9])).length) Slot.unset).toArray = ls at hl ⊢
  have hl : lv_has ls 3 [(0, .int a1), (1, .int a2), (2, .ref t9)] := hl
  have E := sJ3_checkIndex_8e157.eq_1 t9 a1 a2
  refine lv_iload_n hx hb dJ3_checkIndex_8e157_0 rfl (lv_at hl 0 rfl) ?_
  refine lv_if_lt (tgt := 9) hx hb dJ3_checkIndex_8e157_1 (by decide) (fun c_1 => ?_) (fun c_1 => ?_)
  · have E := E.trans (if_pos c_1)
    have fc_1 := i_lt c_1
    rw [q_0] at fc_1
    exfalso
    omega
  · have E := E.trans (if_neg c_1)
    have fc_1 := i_nlt c_1
    rw [q_0] at fc_1
    refine lv_iload_n hx hb dJ3_checkIndex_8e157_4 rfl (lv_at hl 0 rfl) ?_
    refine lv_iload_n hx hb dJ3_checkIndex_8e157_5 rfl (lv_at hl 1 rfl) ?_
    refine lv_icmp_lt (tgt := 16) hx hb dJ3_checkIndex_8e157_6 (by decide) (fun c_2 => ?_) (fun c_2 => ?_)
    · have E := E.trans (if_pos c_2)
      have fc_2 := i_lt c_2
      refine lv_iload_n hx hb dJ3_checkIndex_8e157_16 rfl (lv_at hl 0 rfl) ?_
      exact W.iret (v := a1) hx hb hr (fun t ht hW => ⟨_, rfl, E.symm, ht⟩) (fun q hq => by cases hq) dJ3_checkIndex_8e157_17
    · have E := E.trans (if_neg c_2)
      have fc_2 := i_nlt c_2
      exfalso
      omega

set_option maxHeartbeats 4000000 in
set_option maxRecDepth 100000 in
theorem kJ3_checkIndex_8e157N (l : Launch) (aK aV : Nat → Nat) (A : Nat → Prop) (a1 : Int32) (a2 : Int32)  (h1 : 0 ≤ a1.toInt) (h2 : a1.toInt < a2.toInt) : Met l yJ3_checkIndex_8e157 wsJ3_checkIndex_8e157 rmJ3_checkIndex_8e157 (va_Pc [Value.int a1, Value.int a2, Value.null] (fun U => STR aK aV A U U.heap)) (vp_Si (fun r => r = sJ3_checkIndex_8e157N a1 a2)) 0 0 (fun _ => False) := by
  refine Met.ofW (cc := cJ3_checkIndex_8e157) (maxL := 3) (ret := (some .int)) (by decide) rfl ?_
  intro p e s m args below meth c s₁ B hml hv
  obtain ⟨rfl, hST⟩ := hv
  have hx := B.exec
  have hb := B.bytes
  have hr := B.returns
  have hts := atoms_spec (ws := wsJ3_checkIndex_8e157) B.pre
  have hown : s.vm.findClass RJ3 = some m.cls := findClass_of_methodNamed B.named
  have hlocks := B.notSynchronized
  have hl := lv_entry ([.int a1, .int a2, .null]) (n := 3) (Nat.le_of_ble_eq_true rfl)
  rw [lg_entry_eq]
  generalize (lg_sl ([.int a1, .int a2, .null]) ++ List.replicate (3 - (lg_sl ([.int a1, .int a2, .null])).length) Slot.unset).toArray = ls at hl ⊢
  have hl : lv_has ls 3 [(0, .int a1), (1, .int a2), (2, .null)] := hl
  have E := sJ3_checkIndex_8e157N.eq_1 a1 a2
  refine lv_iload_n hx hb dJ3_checkIndex_8e157_0 rfl (lv_at hl 0 rfl) ?_
  refine lv_if_lt (tgt := 9) hx hb dJ3_checkIndex_8e157_1 (by decide) (fun c_1 => ?_) (fun c_1 => ?_)
  · have E := E.trans (if_pos c_1)
    have fc_1 := i_lt c_1
    rw [q_0] at fc_1
    exfalso
    omega
  · have E := E.trans (if_neg c_1)
    have fc_1 := i_nlt c_1
    rw [q_0] at fc_1
    refine lv_iload_n hx hb dJ3_checkIndex_8e157_4 rfl (lv_at hl 0 rfl) ?_
    refine lv_iload_n hx hb dJ3_checkIndex_8e157_5 rfl (lv_at hl 1 rfl) ?_
    refine lv_icmp_lt (tgt := 16) hx hb dJ3_checkIndex_8e157_6 (by decide) (fun c_2 => ?_) (fun c_2 => ?_)
    · have E := E.trans (if_pos c_2)
      have fc_2 := i_lt c_2
      refine lv_iload_n hx hb dJ3_checkIndex_8e157_16 rfl (lv_at hl 0 rfl) ?_
      exact W.iret (v := a1) hx hb hr (fun t ht hW => ⟨_, rfl, E.symm, ht⟩) (fun q hq => by cases hq) dJ3_checkIndex_8e157_17
    · have E := E.trans (if_neg c_2)
      have fc_2 := i_nlt c_2
      exfalso
      omega
abbrev rmJ0_checkIndex_df160 : Room := { frames := 1, cells := 0, slots := 0, locals := 22 }
set_option maxHeartbeats 4000000 in
set_option maxRecDepth 100000 in
theorem kJ0_checkIndex_df160 (l : Launch) (aK aV : Nat → Nat) (A : Nat → Prop) (a1 : Int32) (a2 : Int32)  (h1 : 0 ≤ a1.toInt) (h2 : a1.toInt < a2.toInt) : Met l yJ0_checkIndex_df160 wsJ0_checkIndex_df160 rmJ0_checkIndex_df160 (va_Pc [Value.int a1, Value.int a2] (fun U => STR aK aV A U U.heap)) (vp_Sv0) 0 0 (fun _ => False) := by
  refine Met.ofW (cc := cJ0_checkIndex_df160) (maxL := 2) (ret := none) (by decide) rfl ?_
  intro p e s m args below meth c s₁ B hml hv
  obtain ⟨rfl, hST⟩ := hv
  have hx := B.exec
  have hb := B.bytes
  have hr := B.returns
  have hts := atoms_spec (ws := wsJ0_checkIndex_df160) B.pre
  have hown : s.vm.findClass RJ0 = some m.cls := findClass_of_methodNamed B.named
  have hlocks := B.notSynchronized
  have hl := lv_entry ([.int a1, .int a2]) (n := 2) (Nat.le_of_ble_eq_true rfl)
  rw [lg_entry_eq]
  generalize (lg_sl ([.int a1, .int a2]) ++ List.replicate (2 - (lg_sl ([.int a1, .int a2])).length) Slot.unset).toArray = ls at hl ⊢
  have hl : lv_has ls 2 [(0, .int a1), (1, .int a2)] := hl
  have E := sJ0_checkIndex_df160.eq_1 a1 a2
  refine lv_iload_n hx hb dJ0_checkIndex_df160_0 rfl (lv_at hl 0 rfl) ?_
  refine lv_iload_n hx hb dJ0_checkIndex_df160_1 rfl (lv_at hl 1 rfl) ?_
  rcases hST.2.2.1 with hZ | ⟨t9, hZ⟩
  · refine va_gets hx hb hZ va_S.rf hown (hts (.fieldLink RJ0 1053 "jdk/internal/util/Preconditions" "SIOOBE_FORMATTER" "Ljava/util/function/BiFunction;") (by decide +kernel)) (fun _ h9 => h9) dJ0_checkIndex_df160_2 ?_
    refine vp_callSi (va_Run.run (va_runS (As := [.int a1, .int a2, .null]) (rest := []) ⟨hx, hb, hml, hown, hts⟩ (kJ3_checkIndex_8e157N l aK aV A a1 a2 (by omega) (by omega)) (va_cwS 3 hts gJ0_checkIndex_df160_J3_checkIndex_8e157 rfl rfl rfl mdsJ3_checkIndex_8e157 ⟨Nat.le_of_ble_eq_true rfl, Nat.le_of_ble_eq_true rfl⟩) (t_pre hST va_S.rf) rfl rfl hl.1 rfl (lv_room (Nat.le_of_ble_eq_true rfl)) dJ0_checkIndex_df160_5 ⟨Nat.zero_le _, Nat.zero_le _⟩)) (fun rn_1 hr_1 => ?_)
    subst hr_1
    refine lv_pop hx hb dJ0_checkIndex_df160_8 rfl ?_
    exact W.vret hx hb hr (fun t ht hW => ⟨rfl, ht⟩) (fun q hq => by cases hq) dJ0_checkIndex_df160_9
  · refine va_gets hx hb hZ va_S.rf hown (hts (.fieldLink RJ0 1053 "jdk/internal/util/Preconditions" "SIOOBE_FORMATTER" "Ljava/util/function/BiFunction;") (by decide +kernel)) (fun _ h9 => h9) dJ0_checkIndex_df160_2 ?_
    refine vp_callSi (va_Run.run (va_runS (As := [.int a1, .int a2, .ref t9]) (rest := []) ⟨hx, hb, hml, hown, hts⟩ (kJ3_checkIndex_8e157 l aK aV A t9 a1 a2 (by omega) (by omega)) (va_cwS 3 hts gJ0_checkIndex_df160_J3_checkIndex_8e157 rfl rfl rfl mdsJ3_checkIndex_8e157 ⟨Nat.le_of_ble_eq_true rfl, Nat.le_of_ble_eq_true rfl⟩) (t_pre hST va_S.rf) rfl rfl hl.1 rfl (lv_room (Nat.le_of_ble_eq_true rfl)) dJ0_checkIndex_df160_5 ⟨Nat.zero_le _, Nat.zero_le _⟩)) (fun rn_2 hr_2 => ?_)
    subst hr_2
    refine lv_pop hx hb dJ0_checkIndex_df160_8 rfl ?_
    exact W.vret hx hb hr (fun t ht hW => ⟨rfl, ht⟩) (fun q hq => by cases hq) dJ0_checkIndex_df160_9
abbrev rmJ1_charAt_3b067 : Room := { frames := 2, cells := 0, slots := 0, locals := 43 }
set_option maxHeartbeats 4000000 in
set_option maxRecDepth 100000 in
theorem kJ1_charAt_3b067 (l : Launch) (aK aV : Nat → Nat) (A : Nat → Prop) (i : Nat) (a2 : Int32)  (h1 : i < 9) (h2 : 0 ≤ a2.toInt) (h3 : a2.toInt < (lenS.getD i 0 : Nat)) : Met l yJ1_charAt_3b067 wsJ1_charAt_3b067 rmJ1_charAt_3b067 (va_Pc [Value.ref (aV i), Value.int a2] (fun U => STR aK aV A U U.heap)) (vp_Si (fun r => r = sJ1_charAt_3b067 i a2 ∧ 0 ≤ r.toInt ∧ r.toInt < 65536)) 0 0 (fun _ => False) := by
  refine Met.ofW (cc := cJ1_charAt_3b067) (maxL := 2) (ret := (some .char)) (by decide) rfl ?_
  intro p e s m args below meth c s₁ B hml hv
  obtain ⟨rfl, hST⟩ := hv
  have hx := B.exec
  have hb := B.bytes
  have hr := B.returns
  have hts := atoms_spec (ws := wsJ1_charAt_3b067) B.pre
  have hown : s.vm.findClass RJ1 = some m.cls := findClass_of_methodNamed B.named
  have hlocks := B.notSynchronized
  have hl := lv_entry ([.ref (aV i), .int a2]) (n := 2) (Nat.le_of_ble_eq_true rfl)
  rw [lg_entry_eq]
  generalize (lg_sl ([.ref (aV i), .int a2]) ++ List.replicate (2 - (lg_sl ([.ref (aV i), .int a2])).length) Slot.unset).toArray = ls at hl ⊢
  have hl : lv_has ls 2 [(0, .ref (aV i)), (1, .int a2)] := hl
  have E := sJ1_charAt_3b067.eq_1 i a2
  refine lv_iload_n hx hb dJ1_charAt_3b067_0 rfl (lv_at hl 1 rfl) ?_
  refine lv_aload_n hx hb dJ1_charAt_3b067_1 rfl (lv_at hl 0 rfl) ?_
  refine va_tlen hx hb (hST.1.1 i h1).2.2.2 va_S.rf (v := tl i) rfl dJ1_charAt_3b067_2 ?_
  have := tl_n h1
  have := len7 h1
  refine vp_callSv0 (va_Run.run (va_runS (As := [.int a2, .int (tl i)]) (rest := []) ⟨hx, hb, hml, hown, hts⟩ (kJ0_checkIndex_df160 l aK aV A a2 (tl i) (by omega) (by omega)) (va_cwS 2 hts gJ1_charAt_3b067_J0_checkIndex_df160 rfl rfl rfl mdsJ0_checkIndex_df160 ⟨Nat.le_of_ble_eq_true rfl, Nat.le_of_ble_eq_true rfl⟩) (t_pre hST va_S.rf) rfl rfl hl.1 rfl (lv_room (Nat.le_of_ble_eq_true rfl)) dJ1_charAt_3b067_3 ⟨Nat.zero_le _, Nat.zero_le _⟩)) ?_
  refine lv_aload_n hx hb dJ1_charAt_3b067_6 rfl (lv_at hl 0 rfl) ?_
  refine lv_iload_n hx hb dJ1_charAt_3b067_7 rfl (lv_at hl 1 rfl) ?_
  have ix_2 : vp_in a2 (lenS.getD i 0) := ix_of (by omega) (by omega)
  refine va_tb hx hb (hST.1.1 i h1).2.2.2 va_S.rf (v := .int (tb i (a2.toNatClampNeg))) ix_2 rfl dJ1_charAt_3b067_8 ?_
  refine lv_sipush (v := 255) hx hb dJ1_charAt_3b067_9 (by decide +kernel) ?_
  refine lv_iand hx hb dJ1_charAt_3b067_12 ?_
  refine lv_i2c (v := (((tb i (a2.toNatClampNeg)) &&& 255).toUInt32 % 65536).toInt32) hx hb dJ1_charAt_3b067_13 rfl ?_
  exact W.zret (ty := .char) (v := (((tb i (a2.toNatClampNeg)) &&& 255).toUInt32 % 65536).toInt32) hx hb hr (c_nar (u16_rng _)) (fun t ht hW => ⟨_, rfl, ⟨E.symm, (u16_rng _)⟩, ht⟩) (fun q hq => by cases hq) dJ1_charAt_3b067_14
abbrev rmJ0_charAt_5068e : Room := { frames := 3, cells := 0, slots := 0, locals := 64 }
set_option maxHeartbeats 4000000 in
set_option maxRecDepth 100000 in
theorem kJ0_charAt_5068e (l : Launch) (aK aV : Nat → Nat) (A : Nat → Prop) (i : Nat) (a1 : Int32)  (h1 : i < 9) (h2 : 0 ≤ a1.toInt) (h3 : a1.toInt < (lenS.getD i 0 : Nat)) : Met l yJ0_charAt_5068e wsJ0_charAt_5068e rmJ0_charAt_5068e (va_Pc [Value.ref (aK i), Value.int a1] (fun U => STR aK aV A U U.heap)) (vp_Si (fun r => r = sJ0_charAt_5068e i a1 ∧ 0 ≤ r.toInt ∧ r.toInt < 65536)) 0 0 (fun _ => False) := by
  refine Met.ofW (cc := cJ0_charAt_5068e) (maxL := 2) (ret := (some .char)) (by decide) rfl ?_
  intro p e s m args below meth c s₁ B hml hv
  obtain ⟨rfl, hST⟩ := hv
  have hx := B.exec
  have hb := B.bytes
  have hr := B.returns
  have hts := atoms_spec (ws := wsJ0_charAt_5068e) B.pre
  have hown : s.vm.findClass RJ0 = some m.cls := findClass_of_methodNamed B.named
  have hlocks := B.notSynchronized
  have hl := lv_entry ([.ref (aK i), .int a1]) (n := 2) (Nat.le_of_ble_eq_true rfl)
  rw [lg_entry_eq]
  generalize (lg_sl ([.ref (aK i), .int a1]) ++ List.replicate (2 - (lg_sl ([.ref (aK i), .int a1])).length) Slot.unset).toArray = ls at hl ⊢
  have hl : lv_has ls 2 [(0, .ref (aK i)), (1, .int a1)] := hl
  have E := sJ0_charAt_5068e.eq_1 i a1
  refine lv_aload_n hx hb dJ0_charAt_5068e_0 rfl (lv_at hl 0 rfl) ?_
  refine vp_callSi (va_Run.run (va_runV (As := []) (rest := []) ⟨hx, hb, hml, hown, hts⟩ (kJ0_isLatin1_aae02 l aK aV A i (by omega)) (cwV 0 hts gJ0_charAt_5068e_J0_isLatin1_aae02 rfl rfl rfl mdJ0_isLatin1_aae02 ⟨Nat.le_of_ble_eq_true rfl, Nat.le_of_ble_eq_true rfl⟩) (xt_pre hST (by omega) va_S.rf) rfl rfl hl.1 rfl (lv_room (Nat.le_of_ble_eq_true rfl)) dJ0_charAt_5068e_1 ⟨Nat.zero_le _, Nat.zero_le _⟩)) (fun rn_1 hr_1 => ?_)
  have hr2_1 : rn_1 = 1 := hr_1.1
  subst hr2_1
  refine lv_if_eq (tgt := 16) hx hb dJ0_charAt_5068e_4 (by decide) (fun z => absurd z (by decide)) (fun _ => ?_)
  refine lv_aload_n hx hb dJ0_charAt_5068e_7 rfl (lv_at hl 0 rfl) ?_
  refine vk_getf hx hb (hST.1.1 i h1).2.2.1 va_S.rf hown (hts (.fieldLink RJ0 9 "java/lang/String" "value" "[B") (by decide +kernel)) (fun _ h9 => h9) dJ0_charAt_5068e_8 ?_
  refine lv_iload_n hx hb dJ0_charAt_5068e_11 rfl (lv_at hl 1 rfl) ?_
  refine vp_callSi (va_Run.run (va_runS (As := [.ref (aV i), .int a1]) (rest := []) ⟨hx, hb, hml, hown, hts⟩ (kJ1_charAt_3b067 l aK aV A i a1 (by omega) (by omega) (by omega)) (va_cwS 2 hts gJ0_charAt_5068e_J1_charAt_3b067 rfl rfl rfl mdsJ1_charAt_3b067 ⟨Nat.le_of_ble_eq_true rfl, Nat.le_of_ble_eq_true rfl⟩) (t_pre hST va_S.rf) rfl rfl hl.1 rfl (lv_room (Nat.le_of_ble_eq_true rfl)) dJ0_charAt_5068e_12 ⟨Nat.zero_le _, Nat.zero_le _⟩)) (fun rn_2 hr_2 => ?_)
  obtain ⟨rfl, hc_2⟩ := hr_2
  exact W.zret (ty := .char) (v := (sJ1_charAt_3b067 i a1)) hx hb hr (c_nar hc_2) (fun t ht hW => ⟨_, rfl, ⟨E.symm, hc_2⟩, ht⟩) (fun q hq => by cases hq) dJ0_charAt_5068e_15
abbrev rmJ1_canEncode_9a6ad : Room := { frames := 0, cells := 0, slots := 0, locals := 0 }
set_option maxHeartbeats 4000000 in
set_option maxRecDepth 100000 in
theorem kJ1_canEncode_9a6ad (l : Launch)  (a1 : Int32)   : Met l yJ1_canEncode_9a6ad wsJ1_canEncode_9a6ad rmJ1_canEncode_9a6ad (va_Pc [Value.int a1] (fun U => True)) (vp_Si (fun r => r = sJ1_canEncode_9a6ad a1 ∧ (r = 0 ∨ r = 1))) 0 0 (fun _ => False) := by
  refine Met.ofW (cc := cJ1_canEncode_9a6ad) (maxL := 1) (ret := (some .boolean)) (by decide) rfl ?_
  intro p e s m args below meth c s₁ B hml hv
  obtain ⟨rfl, -⟩ := hv
  have hx := B.exec
  have hb := B.bytes
  have hr := B.returns
  have hts := atoms_spec (ws := wsJ1_canEncode_9a6ad) B.pre
  have hown : s.vm.findClass RJ1 = some m.cls := findClass_of_methodNamed B.named
  have hlocks := B.notSynchronized
  have hl := lv_entry ([.int a1]) (n := 1) (Nat.le_of_ble_eq_true rfl)
  rw [lg_entry_eq]
  generalize (lg_sl ([.int a1]) ++ List.replicate (1 - (lg_sl ([.int a1])).length) Slot.unset).toArray = ls at hl ⊢
  have hl : lv_has ls 1 [(0, .int a1)] := hl
  have E := sJ1_canEncode_9a6ad.eq_1 a1
  refine lv_iload_n hx hb dJ1_canEncode_9a6ad_0 rfl (lv_at hl 0 rfl) ?_
  refine lv_if_lt (tgt := 15) hx hb dJ1_canEncode_9a6ad_1 (by decide) (fun c_1 => ?_) (fun c_1 => ?_)
  · have E := E.trans (if_pos c_1)
    have fc_1 := i_lt c_1
    rw [q_0] at fc_1
    refine lv_iconst (v := 0) hx hb dJ1_canEncode_9a6ad_15 (by decide) ?_
    exact W.zret (ty := .boolean) (v := 0) hx hb hr (z_nar (Or.inl rfl)) (fun t ht hW => ⟨_, rfl, ⟨E.symm, (Or.inl rfl)⟩, ht⟩) (fun q hq => by cases hq) dJ1_canEncode_9a6ad_16
  · have E := E.trans (if_neg c_1)
    have fc_1 := i_nlt c_1
    rw [q_0] at fc_1
    refine lv_iload_n hx hb dJ1_canEncode_9a6ad_4 rfl (lv_at hl 0 rfl) ?_
    refine lv_sipush (v := 255) hx hb dJ1_canEncode_9a6ad_5 (by decide +kernel) ?_
    refine lv_icmp_gt (tgt := 15) hx hb dJ1_canEncode_9a6ad_8 (by decide) (fun c_2 => ?_) (fun c_2 => ?_)
    · have E := E.trans (if_pos c_2)
      have fc_2 := i_lt c_2
      rw [q_255] at fc_2
      refine lv_iconst (v := 0) hx hb dJ1_canEncode_9a6ad_15 (by decide) ?_
      exact W.zret (ty := .boolean) (v := 0) hx hb hr (z_nar (Or.inl rfl)) (fun t ht hW => ⟨_, rfl, ⟨E.symm, (Or.inl rfl)⟩, ht⟩) (fun q hq => by cases hq) dJ1_canEncode_9a6ad_16
    · have E := E.trans (if_neg c_2)
      have fc_2 := i_nlt c_2
      rw [q_255] at fc_2
      refine lv_iconst (v := 1) hx hb dJ1_canEncode_9a6ad_11 (by decide) ?_
      refine lv_goto (tgt := 16) hx hb dJ1_canEncode_9a6ad_12 (by decide) ?_
      exact W.zret (ty := .boolean) (v := 1) hx hb hr (z_nar (Or.inr rfl)) (fun t ht hW => ⟨_, rfl, ⟨E.symm, (Or.inr rfl)⟩, ht⟩) (fun q hq => by cases hq) dJ1_canEncode_9a6ad_16
abbrev rmJ1_indexOfChar_4cfef : Room := { frames := 0, cells := 0, slots := 0, locals := 0 }
set_option maxHeartbeats 4000000 in
set_option maxRecDepth 100000 in
theorem kJ1_indexOfChar_4cfef (l : Launch) (aK aV : Nat → Nat) (A : Nat → Prop) (i : Nat) (a2 : Int32) (a3 : Int32) (a4 : Int32)  (h1 : i < 9) (h2 : 0 ≤ a3.toInt) (h3 : a3.toInt ≤ a4.toInt) (h4 : a4.toInt ≤ (lenS.getD i 0 : Nat)) : Met l yJ1_indexOfChar_4cfef wsJ1_indexOfChar_4cfef rmJ1_indexOfChar_4cfef (va_Pc [Value.ref (aV i), Value.int a2, Value.int a3, Value.int a4] (fun U => STR aK aV A U U.heap)) (vp_Si (fun r => r = sJ1_indexOfChar_4cfef i a2 a3 a4)) 0 0 (fun _ => False) := by
  refine Met.ofW (cc := cJ1_indexOfChar_4cfef) (maxL := 6) (ret := (some .int)) (by decide) rfl ?_
  intro p e s m args below meth c s₁ B hml hv
  obtain ⟨rfl, hST⟩ := hv
  have hx := B.exec
  have hb := B.bytes
  have hr := B.returns
  have hts := atoms_spec (ws := wsJ1_indexOfChar_4cfef) B.pre
  have hown : s.vm.findClass RJ1 = some m.cls := findClass_of_methodNamed B.named
  have hlocks := B.notSynchronized
  have hl := lv_entry ([.ref (aV i), .int a2, .int a3, .int a4]) (n := 6) (Nat.le_of_ble_eq_true rfl)
  rw [lg_entry_eq]
  generalize (lg_sl ([.ref (aV i), .int a2, .int a3, .int a4]) ++ List.replicate (6 - (lg_sl ([.ref (aV i), .int a2, .int a3, .int a4])).length) Slot.unset).toArray = ls at hl ⊢
  have hl : lv_has ls 6 [(0, .ref (aV i)), (1, .int a2), (2, .int a3), (3, .int a4)] := hl
  have E := sJ1_indexOfChar_4cfef.eq_1 i a2 a3 a4
  refine lv_iload_n hx hb dJ1_indexOfChar_4cfef_0 rfl (lv_at hl 1 rfl) ?_
  refine lv_i2b (v := a2.toInt8.toInt32) hx hb dJ1_indexOfChar_4cfef_1 rfl ?_
  refine lv_istore (lv' := [(4, .int a2.toInt8.toInt32), (0, .ref (aV i)), (1, .int a2), (2, .int a3), (3, .int a4)]) hx hb dJ1_indexOfChar_4cfef_2 hl (by decide) rfl (fun ls hl => ?_)
  refine lv_iload_n hx hb dJ1_indexOfChar_4cfef_4 rfl (lv_at hl 3 rfl) ?_
  refine lv_istore (lv' := [(5, .int a3), (4, .int a2.toInt8.toInt32), (0, .ref (aV i)), (1, .int a2), (2, .int a3), (3, .int a4)]) hx hb dJ1_indexOfChar_4cfef_5 hl (by decide) rfl (fun ls hl => ?_)
  have L_7 : ∀ (n_7 : Nat) (x5_7 : Int32) (ls : Array Slot), ((0 ≤ x5_7.toInt) ∧ (x5_7.toInt ≤ a4.toInt)) → (a4.toInt - x5_7.toInt < (n_7 : Int)) → lv_has ls 6 [(5, .int x5_7), (4, .int a2.toInt8.toInt32), (0, .ref (aV i)), (3, .int a4)] → sJ1_indexOfChar_4cfef i a2 a3 a4 = sJ1_indexOfChar_4cfef_7 i a2 a4 n_7 x5_7 → W p l e (headSpec wsJ1_indexOfChar_4cfef rmJ1_indexOfChar_4cfef).room s m [Value.ref (aV i), Value.int a2, Value.int a3, Value.int a4].toArray below meth c s.heap [] 0 0 (MQ below (vp_Si (fun r => r = sJ1_indexOfChar_4cfef i a2 a3 a4)) [Value.ref (aV i), Value.int a2, Value.int a3, Value.int a4].toArray s 0 0 (fun _ => False)) (F0 m 7 ls []) := by
    intro n_7
    induction n_7 with
    | zero =>
      intro x5_7 ls hinv hm
      obtain ⟨v0_7, v1_7⟩ := hinv
      exact absurd hm (by omega)
    | succ n_7 ih_7 =>
      intro x5_7 ls hinv hm_7 hl E
      obtain ⟨v0_7, v1_7⟩ := hinv
      have E := E.trans (sJ1_indexOfChar_4cfef_7.eq_2 ..)
      have := len7 h1
      refine lv_iload hx hb dJ1_indexOfChar_4cfef_7 (lv_at hl 0 rfl) ?_
      refine lv_iload_n hx hb dJ1_indexOfChar_4cfef_9 rfl (lv_at hl 3 rfl) ?_
      refine lv_icmp_ge (tgt := 31) hx hb dJ1_indexOfChar_4cfef_10 (by decide) (fun c_1 => ?_) (fun c_1 => ?_)
      · have E := E.trans (if_pos c_1)
        have fc_1 := i_le c_1
        refine lv_iconst (v := (-1)) hx hb dJ1_indexOfChar_4cfef_31 (by decide) ?_
        exact W.iret (v := (-1)) hx hb hr (fun t ht hW => ⟨_, rfl, E.symm, ht⟩) (fun q hq => by cases hq) dJ1_indexOfChar_4cfef_32
      · have E := E.trans (if_neg c_1)
        have fc_1 := i_nle c_1
        refine lv_aload_n hx hb dJ1_indexOfChar_4cfef_13 rfl (lv_at hl 2 rfl) ?_
        refine lv_iload hx hb dJ1_indexOfChar_4cfef_14 (lv_at hl 0 rfl) ?_
        have ix_2 : vp_in x5_7 (lenS.getD i 0) := ix_of (by omega) (by omega)
        refine va_tb hx hb (hST.1.1 i h1).2.2.2 va_S.rf (v := .int (tb i (x5_7.toNatClampNeg))) ix_2 rfl dJ1_indexOfChar_4cfef_16 ?_
        refine lv_iload hx hb dJ1_indexOfChar_4cfef_17 (lv_at hl 1 rfl) ?_
        refine lv_icmp_ne (tgt := 25) hx hb dJ1_indexOfChar_4cfef_19 (by decide) (fun c_3 => ?_) (fun c_3 => ?_)
        · have E := E.trans (if_neg c_3)
          have fc_3 := i_ne c_3
          refine lv_iinc (v := x5_7 + 1) (lv' := [(5, .int (x5_7 + 1)), (4, .int a2.toInt8.toInt32), (0, .ref (aV i)), (3, .int a4)]) hx hb dJ1_indexOfChar_4cfef_25 hl (k := 0) rfl rfl (by decide) rfl (fun ls hl => ?_)
          refine lv_goto (tgt := 7) hx hb dJ1_indexOfChar_4cfef_28 (by decide) ?_
          try have := i_addr (a := x5_7) (b := 1) (n := 1) q_1 (by omega) (by omega)
          exact ih_7 (x5_7 + 1) ls ⟨by omega, by omega⟩ (by omega) (lv_sub hl [0, 1, 2, 3] rfl) E
        · have E := E.trans (if_pos c_3)
          have fc_3 := i_eq c_3
          refine lv_iload hx hb dJ1_indexOfChar_4cfef_22 (lv_at hl 0 rfl) ?_
          exact W.iret (v := x5_7) hx hb hr (fun t ht hW => ⟨_, rfl, E.symm, ht⟩) (fun q hq => by cases hq) dJ1_indexOfChar_4cfef_24
  have := len7 h1
  exact L_7 8 a3 ls ⟨by omega, by omega⟩ (by omega) (lv_sub hl [0, 1, 2, 5] rfl) E
abbrev rmJ1_indexOf_4cfef : Room := { frames := 1, cells := 0, slots := 0, locals := 25 }
set_option maxHeartbeats 4000000 in
set_option maxRecDepth 100000 in
theorem kJ1_indexOf_4cfef (l : Launch) (aK aV : Nat → Nat) (A : Nat → Prop) (i : Nat) (a2 : Int32) (a3 : Int32) (a4 : Int32)  (h1 : i < 9) : Met l yJ1_indexOf_4cfef wsJ1_indexOf_4cfef rmJ1_indexOf_4cfef (va_Pc [Value.ref (aV i), Value.int a2, Value.int a3, Value.int a4] (fun U => STR aK aV A U U.heap)) (vp_Si (fun r => r = sJ1_indexOf_4cfef i a2 a3 a4)) 0 0 (fun _ => False) := by
  refine Met.ofW (cc := cJ1_indexOf_4cfef) (maxL := 4) (ret := (some .int)) (by decide) rfl ?_
  intro p e s m args below meth c s₁ B hml hv
  obtain ⟨rfl, hST⟩ := hv
  have hx := B.exec
  have hb := B.bytes
  have hr := B.returns
  have hts := atoms_spec (ws := wsJ1_indexOf_4cfef) B.pre
  have hown : s.vm.findClass RJ1 = some m.cls := findClass_of_methodNamed B.named
  have hlocks := B.notSynchronized
  have hl := lv_entry ([.ref (aV i), .int a2, .int a3, .int a4]) (n := 4) (Nat.le_of_ble_eq_true rfl)
  rw [lg_entry_eq]
  generalize (lg_sl ([.ref (aV i), .int a2, .int a3, .int a4]) ++ List.replicate (4 - (lg_sl ([.ref (aV i), .int a2, .int a3, .int a4])).length) Slot.unset).toArray = ls at hl ⊢
  have hl : lv_has ls 4 [(0, .ref (aV i)), (1, .int a2), (2, .int a3), (3, .int a4)] := hl
  have E := sJ1_indexOf_4cfef.eq_1 i a2 a3 a4
  refine lv_iload_n hx hb dJ1_indexOf_4cfef_0 rfl (lv_at hl 1 rfl) ?_
  refine vp_callSi (va_Run.run (va_runS (As := [.int a2]) (rest := []) ⟨hx, hb, hml, hown, hts⟩ (kJ1_canEncode_9a6ad l a2) (va_cwS 1 hts gJ1_indexOf_4cfef_J1_canEncode_9a6ad rfl rfl rfl mdsJ1_canEncode_9a6ad ⟨Nat.le_of_ble_eq_true rfl, Nat.le_of_ble_eq_true rfl⟩) s_pre rfl rfl hl.1 rfl (lv_room (Nat.le_of_ble_eq_true rfl)) dJ1_indexOf_4cfef_1 ⟨Nat.zero_le _, Nat.zero_le _⟩)) (fun rn_1 hr_1 => ?_)
  obtain ⟨rfl, hz_1⟩ := hr_1
  refine lv_if_ne (tgt := 9) hx hb dJ1_indexOf_4cfef_4 (by decide) (fun c_2 => ?_) (fun c_2 => ?_)
  · have E := E.trans (if_neg c_2)
    have fc_2 := i_ne c_2
    rw [q_0] at fc_2
    refine lv_iload_n hx hb dJ1_indexOf_4cfef_9 rfl (lv_at hl 2 rfl) ?_
    refine lv_iconst (v := 0) hx hb dJ1_indexOf_4cfef_10 (by decide) ?_
    refine va_mmax hx hb (hml.trans hl.1.symm) hown (hts (.methodLink RJ1 92 Lib.Math.max.name) (by decide +kernel)) (hts (.static Lib.Math.max.name) (by decide +kernel)) (hts (.initialized "java/lang/Math") (by decide +kernel)) (hts (.code Lib.Math.max.name Lib.Math.max.code 2 (some .int)) (by decide +kernel)) (Nat.le_of_ble_eq_true rfl) (Nat.le_of_ble_eq_true rfl) (Nat.zero_le _) (Nat.zero_le _) dJ1_indexOf_4cfef_11 ?_
    have hmmax_11 := i_max2 a3 0
    have := q_0
    refine lv_istore_n (lv' := [(2, .int (if a3 < 0 then 0 else a3)), (0, .ref (aV i)), (1, .int a2), (3, .int a4)]) hx hb dJ1_indexOf_4cfef_14 rfl hl (by decide) rfl (fun ls hl => ?_)
    refine lv_iload_n hx hb dJ1_indexOf_4cfef_15 rfl (lv_at hl 3 rfl) ?_
    refine lv_aload_n hx hb dJ1_indexOf_4cfef_16 rfl (lv_at hl 1 rfl) ?_
    refine va_tlen hx hb (hST.1.1 i h1).2.2.2 va_S.rf (v := tl i) rfl dJ1_indexOf_4cfef_17 ?_
    have := tl_n h1
    have := len7 h1
    refine va_mmin hx hb (hml.trans hl.1.symm) hown (hts (.methodLink RJ1 38 Lib.Math.min.name) (by decide +kernel)) (hts (.static Lib.Math.min.name) (by decide +kernel)) (hts (.initialized "java/lang/Math") (by decide +kernel)) (hts (.code Lib.Math.min.name Lib.Math.min.code 2 (some .int)) (by decide +kernel)) (Nat.le_of_ble_eq_true rfl) (Nat.le_of_ble_eq_true rfl) (Nat.zero_le _) (Nat.zero_le _) dJ1_indexOf_4cfef_18 ?_
    have hmmin_18 := i_min2 a4 (tl i)
    refine lv_istore_n (lv' := [(3, .int (if tl i < a4 then tl i else a4)), (2, .int (if a3 < 0 then 0 else a3)), (0, .ref (aV i)), (1, .int a2)]) hx hb dJ1_indexOf_4cfef_21 rfl hl (by decide) rfl (fun ls hl => ?_)
    refine lv_iload_n hx hb dJ1_indexOf_4cfef_22 rfl (lv_at hl 1 rfl) ?_
    refine lv_iload_n hx hb dJ1_indexOf_4cfef_23 rfl (lv_at hl 0 rfl) ?_
    refine lv_icmp_lt (tgt := 29) hx hb dJ1_indexOf_4cfef_24 (by decide) (fun c_3 => ?_) (fun c_3 => ?_)
    · have E := E.trans (if_pos c_3)
      have fc_3 := i_lt c_3
      refine lv_aload_n hx hb dJ1_indexOf_4cfef_29 rfl (lv_at hl 2 rfl) ?_
      refine lv_iload_n hx hb dJ1_indexOf_4cfef_30 rfl (lv_at hl 3 rfl) ?_
      refine lv_iload_n hx hb dJ1_indexOf_4cfef_31 rfl (lv_at hl 1 rfl) ?_
      refine lv_iload_n hx hb dJ1_indexOf_4cfef_32 rfl (lv_at hl 0 rfl) ?_
      refine vp_callSi (va_Run.run (va_runS (As := [.ref (aV i), .int a2, .int (if a3 < 0 then 0 else a3), .int (if tl i < a4 then tl i else a4)]) (rest := []) ⟨hx, hb, hml, hown, hts⟩ (kJ1_indexOfChar_4cfef l aK aV A i a2 (if a3 < 0 then 0 else a3) (if tl i < a4 then tl i else a4) (by omega) (by omega) (by omega) (by omega)) (va_cwS 4 hts gJ1_indexOf_4cfef_J1_indexOfChar_4cfef rfl rfl rfl mdsJ1_indexOfChar_4cfef ⟨Nat.le_of_ble_eq_true rfl, Nat.le_of_ble_eq_true rfl⟩) (t_pre hST va_S.rf) rfl rfl hl.1 rfl (lv_room (Nat.le_of_ble_eq_true rfl)) dJ1_indexOf_4cfef_33 ⟨Nat.zero_le _, Nat.zero_le _⟩)) (fun rn_4 hr_4 => ?_)
      subst hr_4
      exact W.iret (v := (sJ1_indexOfChar_4cfef i a2 (if a3 < 0 then 0 else a3) (if tl i < a4 then tl i else a4))) hx hb hr (fun t ht hW => ⟨_, rfl, E.symm, ht⟩) (fun q hq => by cases hq) dJ1_indexOf_4cfef_36
    · have E := E.trans (if_neg c_3)
      have fc_3 := i_nlt c_3
      refine lv_iconst (v := (-1)) hx hb dJ1_indexOf_4cfef_27 (by decide) ?_
      exact W.iret (v := (-1)) hx hb hr (fun t ht hW => ⟨_, rfl, E.symm, ht⟩) (fun q hq => by cases hq) dJ1_indexOf_4cfef_28
  · have E := E.trans (if_pos c_2)
    have fc_2 := i_eq c_2
    rw [q_0] at fc_2
    refine lv_iconst (v := (-1)) hx hb dJ1_indexOf_4cfef_7 (by decide) ?_
    exact W.iret (v := (-1)) hx hb hr (fun t ht hW => ⟨_, rfl, E.symm, ht⟩) (fun q hq => by cases hq) dJ1_indexOf_4cfef_8
abbrev rmJ0_indexOf_7cf53 : Room := { frames := 2, cells := 0, slots := 0, locals := 48 }
set_option maxHeartbeats 4000000 in
set_option maxRecDepth 100000 in
theorem kJ0_indexOf_7cf53 (l : Launch) (aK aV : Nat → Nat) (A : Nat → Prop) (i : Nat) (a1 : Int32) (a2 : Int32)  (h1 : i < 9) : Met l yJ0_indexOf_7cf53 wsJ0_indexOf_7cf53 rmJ0_indexOf_7cf53 (va_Pc [Value.ref (aK i), Value.int a1, Value.int a2] (fun U => STR aK aV A U U.heap)) (vp_Si (fun r => r = sJ0_indexOf_7cf53 i a1 a2)) 0 0 (fun _ => False) := by
  refine Met.ofW (cc := cJ0_indexOf_7cf53) (maxL := 3) (ret := (some .int)) (by decide) rfl ?_
  intro p e s m args below meth c s₁ B hml hv
  obtain ⟨rfl, hST⟩ := hv
  have hx := B.exec
  have hb := B.bytes
  have hr := B.returns
  have hts := atoms_spec (ws := wsJ0_indexOf_7cf53) B.pre
  have hown : s.vm.findClass RJ0 = some m.cls := findClass_of_methodNamed B.named
  have hlocks := B.notSynchronized
  have hl := lv_entry ([.ref (aK i), .int a1, .int a2]) (n := 3) (Nat.le_of_ble_eq_true rfl)
  rw [lg_entry_eq]
  generalize (lg_sl ([.ref (aK i), .int a1, .int a2]) ++ List.replicate (3 - (lg_sl ([.ref (aK i), .int a1, .int a2])).length) Slot.unset).toArray = ls at hl ⊢
  have hl : lv_has ls 3 [(0, .ref (aK i)), (1, .int a1), (2, .int a2)] := hl
  have E := sJ0_indexOf_7cf53.eq_1 i a1 a2
  refine lv_aload_n hx hb dJ0_indexOf_7cf53_0 rfl (lv_at hl 0 rfl) ?_
  refine vp_callSi (va_Run.run (va_runV (As := []) (rest := []) ⟨hx, hb, hml, hown, hts⟩ (kJ0_isLatin1_aae02 l aK aV A i (by omega)) (cwV 0 hts gJ0_indexOf_7cf53_J0_isLatin1_aae02 rfl rfl rfl mdJ0_isLatin1_aae02 ⟨Nat.le_of_ble_eq_true rfl, Nat.le_of_ble_eq_true rfl⟩) (xt_pre hST (by omega) va_S.rf) rfl rfl hl.1 rfl (lv_room (Nat.le_of_ble_eq_true rfl)) dJ0_indexOf_7cf53_1 ⟨Nat.zero_le _, Nat.zero_le _⟩)) (fun rn_1 hr_1 => ?_)
  have hr2_1 : rn_1 = 1 := hr_1.1
  subst hr2_1
  refine lv_if_eq (tgt := 23) hx hb dJ0_indexOf_7cf53_4 (by decide) (fun z => absurd z (by decide)) (fun _ => ?_)
  refine lv_aload_n hx hb dJ0_indexOf_7cf53_7 rfl (lv_at hl 0 rfl) ?_
  refine vk_getf hx hb (hST.1.1 i h1).2.2.1 va_S.rf hown (hts (.fieldLink RJ0 9 "java/lang/String" "value" "[B") (by decide +kernel)) (fun _ h9 => h9) dJ0_indexOf_7cf53_8 ?_
  refine lv_iload_n hx hb dJ0_indexOf_7cf53_11 rfl (lv_at hl 1 rfl) ?_
  refine lv_iload_n hx hb dJ0_indexOf_7cf53_12 rfl (lv_at hl 2 rfl) ?_
  refine lv_aload_n hx hb dJ0_indexOf_7cf53_13 rfl (lv_at hl 0 rfl) ?_
  refine vp_callSi (va_Run.run (va_runV (As := []) (rest := [.int a2, .int a1, .ref (aV i)]) ⟨hx, hb, hml, hown, hts⟩ (kJ0_length_8abf5 l aK aV A i (by omega)) (cwV 0 hts gJ0_indexOf_7cf53_J0_length_8abf5 rfl rfl rfl mdJ0_length_8abf5 ⟨Nat.le_of_ble_eq_true rfl, Nat.le_of_ble_eq_true rfl⟩) (xt_pre hST (by omega) va_S.rf) rfl rfl hl.1 rfl (lv_room (Nat.le_of_ble_eq_true rfl)) dJ0_indexOf_7cf53_14 ⟨Nat.zero_le _, Nat.zero_le _⟩)) (fun rn_2 hr_2 => ?_)
  subst hr_2
  have := rJ0_length (i := i) (by omega)
  have := len7 (i := i) (by omega)
  refine vp_callSi (va_Run.run (va_runS (As := [.ref (aV i), .int a1, .int a2, .int (sJ0_length_8abf5 i)]) (rest := []) ⟨hx, hb, hml, hown, hts⟩ (kJ1_indexOf_4cfef l aK aV A i a1 a2 (sJ0_length_8abf5 i) (by omega)) (va_cwS 4 hts gJ0_indexOf_7cf53_J1_indexOf_4cfef rfl rfl rfl mdsJ1_indexOf_4cfef ⟨Nat.le_of_ble_eq_true rfl, Nat.le_of_ble_eq_true rfl⟩) (t_pre hST va_S.rf) rfl rfl hl.1 rfl (lv_room (Nat.le_of_ble_eq_true rfl)) dJ0_indexOf_7cf53_17 ⟨Nat.zero_le _, Nat.zero_le _⟩)) (fun rn_3 hr_3 => ?_)
  subst hr_3
  refine lv_goto (tgt := 36) hx hb dJ0_indexOf_7cf53_20 (by decide) ?_
  exact W.iret (v := (sJ1_indexOf_4cfef i a1 a2 (sJ0_length_8abf5 i))) hx hb hr (fun t ht hW => ⟨_, rfl, E.symm, ht⟩) (fun q hq => by cases hq) dJ0_indexOf_7cf53_36
abbrev rmJ0_indexOf_0f7a4 : Room := { frames := 3, cells := 0, slots := 0, locals := 70 }
set_option maxHeartbeats 4000000 in
set_option maxRecDepth 100000 in
theorem kJ0_indexOf_0f7a4 (l : Launch) (aK aV : Nat → Nat) (A : Nat → Prop) (i : Nat) (a1 : Int32)  (h1 : i < 9) : Met l yJ0_indexOf_0f7a4 wsJ0_indexOf_0f7a4 rmJ0_indexOf_0f7a4 (va_Pc [Value.ref (aK i), Value.int a1] (fun U => STR aK aV A U U.heap)) (vp_Si (fun r => r = sJ0_indexOf_0f7a4 i a1)) 0 0 (fun _ => False) := by
  refine Met.ofW (cc := cJ0_indexOf_0f7a4) (maxL := 2) (ret := (some .int)) (by decide) rfl ?_
  intro p e s m args below meth c s₁ B hml hv
  obtain ⟨rfl, hST⟩ := hv
  have hx := B.exec
  have hb := B.bytes
  have hr := B.returns
  have hts := atoms_spec (ws := wsJ0_indexOf_0f7a4) B.pre
  have hown : s.vm.findClass RJ0 = some m.cls := findClass_of_methodNamed B.named
  have hlocks := B.notSynchronized
  have hl := lv_entry ([.ref (aK i), .int a1]) (n := 2) (Nat.le_of_ble_eq_true rfl)
  rw [lg_entry_eq]
  generalize (lg_sl ([.ref (aK i), .int a1]) ++ List.replicate (2 - (lg_sl ([.ref (aK i), .int a1])).length) Slot.unset).toArray = ls at hl ⊢
  have hl : lv_has ls 2 [(0, .ref (aK i)), (1, .int a1)] := hl
  have E := sJ0_indexOf_0f7a4.eq_1 i a1
  refine lv_aload_n hx hb dJ0_indexOf_0f7a4_0 rfl (lv_at hl 0 rfl) ?_
  refine lv_iload_n hx hb dJ0_indexOf_0f7a4_1 rfl (lv_at hl 1 rfl) ?_
  refine lv_iconst (v := 0) hx hb dJ0_indexOf_0f7a4_2 (by decide) ?_
  have := q_0
  refine vp_callSi (va_Run.run (va_runV (As := [.int a1, .int 0]) (rest := []) ⟨hx, hb, hml, hown, hts⟩ (kJ0_indexOf_7cf53 l aK aV A i a1 0 (by omega)) (cwV 2 hts gJ0_indexOf_0f7a4_J0_indexOf_7cf53 rfl rfl rfl mdJ0_indexOf_7cf53 ⟨Nat.le_of_ble_eq_true rfl, Nat.le_of_ble_eq_true rfl⟩) (xt_pre hST (by omega) va_S.rf) rfl rfl hl.1 rfl (lv_room (Nat.le_of_ble_eq_true rfl)) dJ0_indexOf_0f7a4_3 ⟨Nat.zero_le _, Nat.zero_le _⟩)) (fun rn_1 hr_1 => ?_)
  subst hr_1
  exact W.iret (v := (sJ0_indexOf_7cf53 i a1 0)) hx hb hr (fun t ht hW => ⟨_, rfl, E.symm, ht⟩) (fun q hq => by cases hq) dJ0_indexOf_0f7a4_6
abbrev rmX0_of : Room := { frames := 4, cells := 0, slots := 0, locals := 91 }
set_option maxHeartbeats 4000000 in
set_option maxRecDepth 100000 in
theorem kX0_of (l : Launch) (aK aV : Nat → Nat) (A : Nat → Prop) (a1 : Int32)   : Met l yX0_of wsX0_of rmX0_of (va_Pc [Value.int a1] (fun U => NW U ∧ STR aK aV A U U.heap)) (vp_Si (fun r => r = sX0_of a1)) 0 0 (fun _ => False) := by
  refine Met.ofW (cc := cX0_of) (maxL := 1) (ret := (some .int)) (by decide) rfl ?_
  intro p e s m args below meth c s₁ B hml hv
  obtain ⟨rfl, hN, hST⟩ := hv
  have hx := B.exec
  have hb := B.bytes
  have hr := B.returns
  have hts := atoms_spec (ws := wsX0_of) B.pre
  have hown : s.vm.findClass RX0 = some m.cls := findClass_of_methodNamed B.named
  have hlocks := B.notSynchronized
  have hl := lv_entry ([.int a1]) (n := 1) (Nat.le_of_ble_eq_true rfl)
  rw [lg_entry_eq]
  generalize (lg_sl ([.int a1]) ++ List.replicate (1 - (lg_sl ([.int a1])).length) Slot.unset).toArray = ls at hl ⊢
  have hl : lv_has ls 1 [(0, .int a1)] := hl
  have E := sX0_of.eq_1 a1
  refine va_ldcS hx hb hown (hST.2.2.2.1) dX0_of_0 ?_
  refine lv_iload_n hx hb dX0_of_2 rfl (lv_at hl 0 rfl) ?_
  refine vp_callSi (va_Run.run (va_runV (As := [.int a1]) (rest := []) ⟨hx, hb, hml, hown, hts⟩ (kJ0_indexOf_0f7a4 l aK aV A 0 a1 (by omega)) (cwV 1 hts gX0_of_J0_indexOf_0f7a4 rfl rfl rfl mdJ0_indexOf_0f7a4 ⟨Nat.le_of_ble_eq_true rfl, Nat.le_of_ble_eq_true rfl⟩) (xt_pre hST (by omega) va_S.rf) rfl rfl hl.1 rfl (lv_room (Nat.le_of_ble_eq_true rfl)) dX0_of_3 ⟨Nat.zero_le _, Nat.zero_le _⟩)) (fun rn_1 hr_1 => ?_)
  subst hr_1
  exact W.iret (v := (sJ0_indexOf_0f7a4 0 a1)) hx hb hr (fun t ht hW => ⟨_, rfl, E.symm, ht⟩) (fun q hq => by cases hq) dX0_of_6
abbrev rmX2_of : Room := { frames := 4, cells := 0, slots := 0, locals := 91 }
set_option maxHeartbeats 4000000 in
set_option maxRecDepth 100000 in
theorem kX2_of (l : Launch) (aK aV : Nat → Nat) (A : Nat → Prop) (a1 : Int32)   : Met l yX2_of wsX2_of rmX2_of (va_Pc [Value.int a1] (fun U => NW U ∧ STR aK aV A U U.heap)) (vp_Si (fun r => r = sX2_of a1)) 0 0 (fun _ => False) := by
  refine Met.ofW (cc := cX2_of) (maxL := 1) (ret := (some .int)) (by decide) rfl ?_
  intro p e s m args below meth c s₁ B hml hv
  obtain ⟨rfl, hN, hST⟩ := hv
  have hx := B.exec
  have hb := B.bytes
  have hr := B.returns
  have hts := atoms_spec (ws := wsX2_of) B.pre
  have hown : s.vm.findClass RX2 = some m.cls := findClass_of_methodNamed B.named
  have hlocks := B.notSynchronized
  have hl := lv_entry ([.int a1]) (n := 1) (Nat.le_of_ble_eq_true rfl)
  rw [lg_entry_eq]
  generalize (lg_sl ([.int a1]) ++ List.replicate (1 - (lg_sl ([.int a1])).length) Slot.unset).toArray = ls at hl ⊢
  have hl : lv_has ls 1 [(0, .int a1)] := hl
  have E := sX2_of.eq_1 a1
  refine va_ldcS hx hb hown (hST.2.2.2.2.1) dX2_of_0 ?_
  refine lv_iload_n hx hb dX2_of_2 rfl (lv_at hl 0 rfl) ?_
  refine vp_callSi (va_Run.run (va_runV (As := [.int a1]) (rest := []) ⟨hx, hb, hml, hown, hts⟩ (kJ0_indexOf_0f7a4 l aK aV A 1 a1 (by omega)) (cwV 1 hts gX2_of_J0_indexOf_0f7a4 rfl rfl rfl mdJ0_indexOf_0f7a4 ⟨Nat.le_of_ble_eq_true rfl, Nat.le_of_ble_eq_true rfl⟩) (xt_pre hST (by omega) va_S.rf) rfl rfl hl.1 rfl (lv_room (Nat.le_of_ble_eq_true rfl)) dX2_of_3 ⟨Nat.zero_le _, Nat.zero_le _⟩)) (fun rn_1 hr_1 => ?_)
  subst hr_1
  exact W.iret (v := (sJ0_indexOf_0f7a4 1 a1)) hx hb hr (fun t ht hW => ⟨_, rfl, E.symm, ht⟩) (fun q hq => by cases hq) dX2_of_6
abbrev rmX1_fits : Room := { frames := 5, cells := 0, slots := 0, locals := 111 }
set_option maxHeartbeats 4000000 in
set_option maxRecDepth 100000 in
theorem kX1_fits (l : Launch) (aK aV : Nat → Nat) (A : Nat → Prop) (a1 : Int32) (a2 : Int32)   : Met l yX1_fits wsX1_fits rmX1_fits (va_Pc [Value.int a1, Value.int a2] (fun U => NW U ∧ STR aK aV A U U.heap)) (vp_Si (fun r => r = sX1_fits a1 a2 ∧ (r = 0 ∨ r = 1))) 0 0 (fun _ => False) := by
  refine Met.ofW (cc := cX1_fits) (maxL := 2) (ret := (some .boolean)) (by decide) rfl ?_
  intro p e s m args below meth c s₁ B hml hv
  obtain ⟨rfl, hN, hST⟩ := hv
  have hx := B.exec
  have hb := B.bytes
  have hr := B.returns
  have hts := atoms_spec (ws := wsX1_fits) B.pre
  have hown : s.vm.findClass RX1 = some m.cls := findClass_of_methodNamed B.named
  have hlocks := B.notSynchronized
  have hl := lv_entry ([.int a1, .int a2]) (n := 2) (Nat.le_of_ble_eq_true rfl)
  rw [lg_entry_eq]
  generalize (lg_sl ([.int a1, .int a2]) ++ List.replicate (2 - (lg_sl ([.int a1, .int a2])).length) Slot.unset).toArray = ls at hl ⊢
  have hl : lv_has ls 2 [(0, .int a1), (1, .int a2)] := hl
  have E := sX1_fits.eq_1 a1 a2
  refine lv_iload_n hx hb dX1_fits_0 rfl (lv_at hl 0 rfl) ?_
  by_cases c_1 : a1 = 43
  · have E := E.trans (if_pos c_1)
    refine lv_lookup (off := 82) (tgt := 83) hx hb dX1_fits_1 (by decide) (by rw [c_1]; decide) (by decide) ?_
    have fc_1 := i_eq c_1
    rw [q_43] at fc_1
    refine lv_iload_n hx hb dX1_fits_83 rfl (lv_at hl 1 rfl) ?_
    refine lv_bipush (v := 43) hx hb dX1_fits_84 (by decide +kernel) ?_
    refine lv_icmp_eq (tgt := 95) hx hb dX1_fits_86 (by decide) (fun c_2 => ?_) (fun c_2 => ?_)
    · have E := E.trans (if_pos c_2)
      have fc_2 := i_eq c_2
      rw [q_43] at fc_2
      refine lv_iconst (v := 1) hx hb dX1_fits_95 (by decide) ?_
      refine lv_goto (tgt := 100) hx hb dX1_fits_96 (by decide) ?_
      exact W.zret (ty := .boolean) (v := 1) hx hb hr (z_nar (Or.inr rfl)) (fun t ht hW => ⟨_, rfl, ⟨E.symm, (Or.inr rfl)⟩, ht⟩) (fun q hq => by cases hq) dX1_fits_100
    · have E := E.trans (if_neg c_2)
      have fc_2 := i_ne c_2
      rw [q_43] at fc_2
      refine lv_iload_n hx hb dX1_fits_89 rfl (lv_at hl 1 rfl) ?_
      refine lv_bipush (v := 45) hx hb dX1_fits_90 (by decide +kernel) ?_
      refine lv_icmp_ne (tgt := 99) hx hb dX1_fits_92 (by decide) (fun c_3 => ?_) (fun c_3 => ?_)
      · have E := E.trans (if_neg c_3)
        have fc_3 := i_ne c_3
        rw [q_45] at fc_3
        refine lv_iconst (v := 0) hx hb dX1_fits_99 (by decide) ?_
        exact W.zret (ty := .boolean) (v := 0) hx hb hr (z_nar (Or.inl rfl)) (fun t ht hW => ⟨_, rfl, ⟨E.symm, (Or.inl rfl)⟩, ht⟩) (fun q hq => by cases hq) dX1_fits_100
      · have E := E.trans (if_pos c_3)
        have fc_3 := i_eq c_3
        rw [q_45] at fc_3
        refine lv_iconst (v := 1) hx hb dX1_fits_95 (by decide) ?_
        refine lv_goto (tgt := 100) hx hb dX1_fits_96 (by decide) ?_
        exact W.zret (ty := .boolean) (v := 1) hx hb hr (z_nar (Or.inr rfl)) (fun t ht hW => ⟨_, rfl, ⟨E.symm, (Or.inr rfl)⟩, ht⟩) (fun q hq => by cases hq) dX1_fits_100
  have E := E.trans (if_neg c_1)
  have fc_1 := i_ne c_1
  rw [q_43] at fc_1
  by_cases c_4 : a1 = 48
  · have E := E.trans (if_pos c_4)
    refine lv_lookup (off := 77) (tgt := 78) hx hb dX1_fits_1 (by decide) (by rw [c_4]; decide) (by decide) ?_
    have fc_4 := i_eq c_4
    rw [q_48] at fc_4
    refine lv_iload_n hx hb dX1_fits_78 rfl (lv_at hl 1 rfl) ?_
    refine vp_callSi (va_Run.run (va_runS (As := [.int a2]) (rest := []) ⟨hx, hb, hml, hown, hts⟩ (kX1_isDigit l a2) (va_cwS 1 hts gX1_fits_X1_isDigit rfl rfl rfl mdsX1_isDigit ⟨Nat.le_of_ble_eq_true rfl, Nat.le_of_ble_eq_true rfl⟩) s_pre rfl rfl hl.1 rfl (lv_room (Nat.le_of_ble_eq_true rfl)) dX1_fits_79 ⟨Nat.zero_le _, Nat.zero_le _⟩)) (fun rn_5 hr_5 => ?_)
    obtain ⟨rfl, hz_5⟩ := hr_5
    exact W.zret (ty := .boolean) (v := (sX1_isDigit a2)) hx hb hr (z_nar hz_5) (fun t ht hW => ⟨_, rfl, ⟨E.symm, hz_5⟩, ht⟩) (fun q hq => by cases hq) dX1_fits_82
  have E := E.trans (if_neg c_4)
  have fc_4 := i_ne c_4
  rw [q_48] at fc_4
  by_cases c_6 : a1 = 63
  · have E := E.trans (if_pos c_6)
    refine lv_lookup (off := 77) (tgt := 78) hx hb dX1_fits_1 (by decide) (by rw [c_6]; decide) (by decide) ?_
    have fc_6 := i_eq c_6
    rw [q_63] at fc_6
    refine lv_iload_n hx hb dX1_fits_78 rfl (lv_at hl 1 rfl) ?_
    refine vp_callSi (va_Run.run (va_runS (As := [.int a2]) (rest := []) ⟨hx, hb, hml, hown, hts⟩ (kX1_isDigit l a2) (va_cwS 1 hts gX1_fits_X1_isDigit rfl rfl rfl mdsX1_isDigit ⟨Nat.le_of_ble_eq_true rfl, Nat.le_of_ble_eq_true rfl⟩) s_pre rfl rfl hl.1 rfl (lv_room (Nat.le_of_ble_eq_true rfl)) dX1_fits_79 ⟨Nat.zero_le _, Nat.zero_le _⟩)) (fun rn_7 hr_7 => ?_)
    obtain ⟨rfl, hz_7⟩ := hr_7
    exact W.zret (ty := .boolean) (v := (sX1_isDigit a2)) hx hb hr (z_nar hz_7) (fun t ht hW => ⟨_, rfl, ⟨E.symm, hz_7⟩, ht⟩) (fun q hq => by cases hq) dX1_fits_82
  have E := E.trans (if_neg c_6)
  have fc_6 := i_ne c_6
  rw [q_63] at fc_6
  by_cases c_8 : a1 = 76
  · have E := E.trans (if_pos c_8)
    refine lv_lookup (off := 51) (tgt := 52) hx hb dX1_fits_1 (by decide) (by rw [c_8]; decide) (by decide) ?_
    have fc_8 := i_eq c_8
    rw [q_76] at fc_8
    refine lv_iload_n hx hb dX1_fits_52 rfl (lv_at hl 1 rfl) ?_
    refine vp_callSi (va_Run.run (va_runSN (As := [.int a2]) (rest := []) ⟨hx, hb, hml, hown, hts⟩ (kX0_of l aK aV A a2) ⟨va_cnB 1 hts gX1_fits_X0_of_n70 rfl rfl rfl (nm_RX1_70 hN) (hts (.initialized RX0) (by decide +kernel)) mdsX0_of ⟨Nat.le_of_ble_eq_true rfl, Nat.le_of_ble_eq_true rfl⟩, hts (.static yX0_of) (by decide +kernel), trivial⟩ (tx_pre hN hST va_S.rf) rfl rfl hl.1 rfl (lv_room (Nat.le_of_ble_eq_true rfl)) dX1_fits_53 ⟨Nat.zero_le _, Nat.zero_le _⟩)) (fun rn_9 hr_9 => ?_)
    subst hr_9
    refine lv_if_lt (tgt := 63) hx hb dX1_fits_56 (by decide) (fun c_10 => ?_) (fun c_10 => ?_)
    · have E := E.trans (if_pos c_10)
      have fc_10 := i_lt c_10
      rw [q_0] at fc_10
      refine lv_iconst (v := 0) hx hb dX1_fits_63 (by decide) ?_
      exact W.zret (ty := .boolean) (v := 0) hx hb hr (z_nar (Or.inl rfl)) (fun t ht hW => ⟨_, rfl, ⟨E.symm, (Or.inl rfl)⟩, ht⟩) (fun q hq => by cases hq) dX1_fits_64
    · have E := E.trans (if_neg c_10)
      have fc_10 := i_nlt c_10
      rw [q_0] at fc_10
      refine lv_iconst (v := 1) hx hb dX1_fits_59 (by decide) ?_
      refine lv_goto (tgt := 64) hx hb dX1_fits_60 (by decide) ?_
      exact W.zret (ty := .boolean) (v := 1) hx hb hr (z_nar (Or.inr rfl)) (fun t ht hW => ⟨_, rfl, ⟨E.symm, (Or.inr rfl)⟩, ht⟩) (fun q hq => by cases hq) dX1_fits_64
  have E := E.trans (if_neg c_8)
  have fc_8 := i_ne c_8
  rw [q_76] at fc_8
  by_cases c_11 : a1 = 80
  · have E := E.trans (if_pos c_11)
    refine lv_lookup (off := 64) (tgt := 65) hx hb dX1_fits_1 (by decide) (by rw [c_11]; decide) (by decide) ?_
    have fc_11 := i_eq c_11
    rw [q_80] at fc_11
    refine lv_iload_n hx hb dX1_fits_65 rfl (lv_at hl 1 rfl) ?_
    refine vp_callSi (va_Run.run (va_runSN (As := [.int a2]) (rest := []) ⟨hx, hb, hml, hown, hts⟩ (kX2_of l aK aV A a2) ⟨va_cnB 1 hts gX1_fits_X2_of_n76 rfl rfl rfl (nm_RX1_76 hN) (hts (.initialized RX2) (by decide +kernel)) mdsX2_of ⟨Nat.le_of_ble_eq_true rfl, Nat.le_of_ble_eq_true rfl⟩, hts (.static yX2_of) (by decide +kernel), trivial⟩ (tx_pre hN hST va_S.rf) rfl rfl hl.1 rfl (lv_room (Nat.le_of_ble_eq_true rfl)) dX1_fits_66 ⟨Nat.zero_le _, Nat.zero_le _⟩)) (fun rn_12 hr_12 => ?_)
    subst hr_12
    refine lv_if_lt (tgt := 76) hx hb dX1_fits_69 (by decide) (fun c_13 => ?_) (fun c_13 => ?_)
    · have E := E.trans (if_pos c_13)
      have fc_13 := i_lt c_13
      rw [q_0] at fc_13
      refine lv_iconst (v := 0) hx hb dX1_fits_76 (by decide) ?_
      exact W.zret (ty := .boolean) (v := 0) hx hb hr (z_nar (Or.inl rfl)) (fun t ht hW => ⟨_, rfl, ⟨E.symm, (Or.inl rfl)⟩, ht⟩) (fun q hq => by cases hq) dX1_fits_77
    · have E := E.trans (if_neg c_13)
      have fc_13 := i_nlt c_13
      rw [q_0] at fc_13
      refine lv_iconst (v := 1) hx hb dX1_fits_72 (by decide) ?_
      refine lv_goto (tgt := 77) hx hb dX1_fits_73 (by decide) ?_
      exact W.zret (ty := .boolean) (v := 1) hx hb hr (z_nar (Or.inr rfl)) (fun t ht hW => ⟨_, rfl, ⟨E.symm, (Or.inr rfl)⟩, ht⟩) (fun q hq => by cases hq) dX1_fits_77
  have E := E.trans (if_neg c_11)
  have fc_11 := i_ne c_11
  rw [q_80] at fc_11
  refine lv_lookup (off := 100) (tgt := 101) hx hb dX1_fits_1 (by decide) ((lv_osw c_1 rfl).trans ((lv_osw c_4 rfl).trans ((lv_osw c_6 rfl).trans ((lv_osw c_8 rfl).trans ((lv_osw c_11 rfl).trans rfl))))) (by decide) ?_
  refine lv_iload_n hx hb dX1_fits_101 rfl (lv_at hl 1 rfl) ?_
  refine lv_iload_n hx hb dX1_fits_102 rfl (lv_at hl 0 rfl) ?_
  refine lv_icmp_ne (tgt := 110) hx hb dX1_fits_103 (by decide) (fun c_14 => ?_) (fun c_14 => ?_)
  · have E := E.trans (if_neg c_14)
    have fc_14 := i_ne c_14
    refine lv_iconst (v := 0) hx hb dX1_fits_110 (by decide) ?_
    exact W.zret (ty := .boolean) (v := 0) hx hb hr (z_nar (Or.inl rfl)) (fun t ht hW => ⟨_, rfl, ⟨E.symm, (Or.inl rfl)⟩, ht⟩) (fun q hq => by cases hq) dX1_fits_111
  · have E := E.trans (if_pos c_14)
    have fc_14 := i_eq c_14
    refine lv_iconst (v := 1) hx hb dX1_fits_106 (by decide) ?_
    refine lv_goto (tgt := 111) hx hb dX1_fits_107 (by decide) ?_
    exact W.zret (ty := .boolean) (v := 1) hx hb hr (z_nar (Or.inr rfl)) (fun t ht hW => ⟨_, rfl, ⟨E.symm, (Or.inr rfl)⟩, ht⟩) (fun q hq => by cases hq) dX1_fits_111
abbrev rmX1_formBehind : Room := { frames := 0, cells := 0, slots := 0, locals := 0 }
set_option maxHeartbeats 4000000 in
set_option maxRecDepth 100000 in
theorem kX1_formBehind (l : Launch) (aK aV : Nat → Nat) (A : Nat → Prop) (a1 : Int32)   : Met l yX1_formBehind wsX1_formBehind rmX1_formBehind (va_Pc [Value.int a1] (fun U => NW U ∧ STR aK aV A U U.heap)) (vp_Sr (fun r => r = aK (sX1_formBehind a1) ∧ sX1_formBehind a1 < 9)) 0 0 (fun _ => False) := by
  refine Met.ofW (cc := cX1_formBehind) (maxL := 1) (ret := (some (.object "java/lang/String"))) (by decide) rfl ?_
  intro p e s m args below meth c s₁ B hml hv
  obtain ⟨rfl, hN, hST⟩ := hv
  have hx := B.exec
  have hb := B.bytes
  have hr := B.returns
  have hts := atoms_spec (ws := wsX1_formBehind) B.pre
  have hown : s.vm.findClass RX1 = some m.cls := findClass_of_methodNamed B.named
  have hlocks := B.notSynchronized
  have hl := lv_entry ([.int a1]) (n := 1) (Nat.le_of_ble_eq_true rfl)
  rw [lg_entry_eq]
  generalize (lg_sl ([.int a1]) ++ List.replicate (1 - (lg_sl ([.int a1])).length) Slot.unset).toArray = ls at hl ⊢
  have hl : lv_has ls 1 [(0, .int a1)] := hl
  have E := sX1_formBehind.eq_1 a1
  refine lv_iload_n hx hb dX1_formBehind_0 rfl (lv_at hl 0 rfl) ?_
  have D_1 : sX1_formBehind a1 = 2 → W p l e (headSpec wsX1_formBehind rmX1_formBehind).room s m [Value.int a1].toArray below meth c s.heap [] 0 0 (MQ below (vp_Sr (fun r => r = aK (sX1_formBehind a1) ∧ sX1_formBehind a1 < 9)) [Value.int a1].toArray s 0 0 (fun _ => False)) (F0 m 114 ls []) := by
    intro E
    refine va_ldcS hx hb hown (hST.2.2.2.2.2.1) dX1_formBehind_114 ?_
    exact W.aret (v := .ref (aK 2)) hx hb hr (Or.inl ⟨_, rfl⟩) (Or.inr ⟨_, rfl⟩) (fun t ht hW => ⟨_, rfl, ⟨congrArg aK E.symm, by rw [E]; decide⟩, ht⟩) (fun q hq => by cases hq) dX1_formBehind_116
  by_cases c_1 : a1 = 102
  · have E := E.trans (if_pos c_1)
    refine lv_tableIn (off := 107) (tgt := 108) hx hb dX1_formBehind_1 (by rw [c_1]; decide) (by rw [c_1]; decide) (by rw [c_1]; rfl) (by decide) ?_
    have fc_1 := i_eq c_1
    rw [q_102] at fc_1
    refine va_ldcS hx hb hown (hST.2.2.2.2.2.2.2.2.2.2.1) dX1_formBehind_108 ?_
    exact W.aret (v := .ref (aK 7)) hx hb hr (Or.inl ⟨_, rfl⟩) (Or.inr ⟨_, rfl⟩) (fun t ht hW => ⟨_, rfl, ⟨congrArg aK E.symm, by rw [E]; decide⟩, ht⟩) (fun q hq => by cases hq) dX1_formBehind_110
  have E := E.trans (if_neg c_1)
  have fc_1 := i_ne c_1
  rw [q_102] at fc_1
  by_cases c_2 : a1 = 107
  · have E := E.trans (if_pos c_2)
    refine lv_tableIn (off := 104) (tgt := 105) hx hb dX1_formBehind_1 (by rw [c_2]; decide) (by rw [c_2]; decide) (by rw [c_2]; rfl) (by decide) ?_
    have fc_2 := i_eq c_2
    rw [q_107] at fc_2
    refine va_ldcS hx hb hown (hST.2.2.2.2.2.2.2.2.2.1) dX1_formBehind_105 ?_
    exact W.aret (v := .ref (aK 6)) hx hb hr (Or.inl ⟨_, rfl⟩) (Or.inr ⟨_, rfl⟩) (fun t ht hW => ⟨_, rfl, ⟨congrArg aK E.symm, by rw [E]; decide⟩, ht⟩) (fun q hq => by cases hq) dX1_formBehind_107
  have E := E.trans (if_neg c_2)
  have fc_2 := i_ne c_2
  rw [q_107] at fc_2
  by_cases c_3 : a1 = 114
  · have E := E.trans (if_pos c_3)
    refine lv_tableIn (off := 101) (tgt := 102) hx hb dX1_formBehind_1 (by rw [c_3]; decide) (by rw [c_3]; decide) (by rw [c_3]; rfl) (by decide) ?_
    have fc_3 := i_eq c_3
    rw [q_114] at fc_3
    refine va_ldcS hx hb hown (hST.2.2.2.2.2.2.2.2.1) dX1_formBehind_102 ?_
    exact W.aret (v := .ref (aK 5)) hx hb hr (Or.inl ⟨_, rfl⟩) (Or.inr ⟨_, rfl⟩) (fun t ht hW => ⟨_, rfl, ⟨congrArg aK E.symm, by rw [E]; decide⟩, ht⟩) (fun q hq => by cases hq) dX1_formBehind_104
  have E := E.trans (if_neg c_3)
  have fc_3 := i_ne c_3
  rw [q_114] at fc_3
  by_cases c_4 : a1 = 117
  · have E := E.trans (if_pos c_4)
    refine lv_tableIn (off := 110) (tgt := 111) hx hb dX1_formBehind_1 (by rw [c_4]; decide) (by rw [c_4]; decide) (by rw [c_4]; rfl) (by decide) ?_
    have fc_4 := i_eq c_4
    rw [q_117] at fc_4
    refine va_ldcS hx hb hown (hST.2.2.2.2.2.2.2.2.2.2.2) dX1_formBehind_111 ?_
    exact W.aret (v := .ref (aK 8)) hx hb hr (Or.inl ⟨_, rfl⟩) (Or.inr ⟨_, rfl⟩) (fun t ht hW => ⟨_, rfl, ⟨congrArg aK E.symm, by rw [E]; decide⟩, ht⟩) (fun q hq => by cases hq) dX1_formBehind_113
  have E := E.trans (if_neg c_4)
  have fc_4 := i_ne c_4
  rw [q_117] at fc_4
  by_cases c_5 : a1 = 119
  · have E := E.trans (if_pos c_5)
    refine lv_tableIn (off := 98) (tgt := 99) hx hb dX1_formBehind_1 (by rw [c_5]; decide) (by rw [c_5]; decide) (by rw [c_5]; rfl) (by decide) ?_
    have fc_5 := i_eq c_5
    rw [q_119] at fc_5
    refine va_ldcS hx hb hown (hST.2.2.2.2.2.2.2.1) dX1_formBehind_99 ?_
    exact W.aret (v := .ref (aK 4)) hx hb hr (Or.inl ⟨_, rfl⟩) (Or.inr ⟨_, rfl⟩) (fun t ht hW => ⟨_, rfl, ⟨congrArg aK E.symm, by rw [E]; decide⟩, ht⟩) (fun q hq => by cases hq) dX1_formBehind_101
  have E := E.trans (if_neg c_5)
  have fc_5 := i_ne c_5
  rw [q_119] at fc_5
  by_cases c_6 : a1 = 121
  · have E := E.trans (if_pos c_6)
    refine lv_tableIn (off := 95) (tgt := 96) hx hb dX1_formBehind_1 (by rw [c_6]; decide) (by rw [c_6]; decide) (by rw [c_6]; rfl) (by decide) ?_
    have fc_6 := i_eq c_6
    rw [q_121] at fc_6
    refine va_ldcS hx hb hown (hST.2.2.2.2.2.2.1) dX1_formBehind_96 ?_
    exact W.aret (v := .ref (aK 3)) hx hb hr (Or.inl ⟨_, rfl⟩) (Or.inr ⟨_, rfl⟩) (fun t ht hW => ⟨_, rfl, ⟨congrArg aK E.symm, by rw [E]; decide⟩, ht⟩) (fun q hq => by cases hq) dX1_formBehind_98
  have E := E.trans (if_neg c_6)
  have fc_6 := i_ne c_6
  rw [q_121] at fc_6
  by_cases c_7 : a1 = 103
  · refine lv_tableIn (off := 113) (tgt := 114) hx hb dX1_formBehind_1 (by rw [c_7]; decide) (by rw [c_7]; decide) (by rw [c_7]; rfl) (by decide) ?_
    exact D_1 E
  have fc_7 := i_ne c_7
  rw [q_103] at fc_7
  by_cases c_8 : a1 = 104
  · refine lv_tableIn (off := 113) (tgt := 114) hx hb dX1_formBehind_1 (by rw [c_8]; decide) (by rw [c_8]; decide) (by rw [c_8]; rfl) (by decide) ?_
    exact D_1 E
  have fc_8 := i_ne c_8
  rw [q_104] at fc_8
  by_cases c_9 : a1 = 105
  · refine lv_tableIn (off := 113) (tgt := 114) hx hb dX1_formBehind_1 (by rw [c_9]; decide) (by rw [c_9]; decide) (by rw [c_9]; rfl) (by decide) ?_
    exact D_1 E
  have fc_9 := i_ne c_9
  rw [q_105] at fc_9
  by_cases c_10 : a1 = 106
  · refine lv_tableIn (off := 113) (tgt := 114) hx hb dX1_formBehind_1 (by rw [c_10]; decide) (by rw [c_10]; decide) (by rw [c_10]; rfl) (by decide) ?_
    exact D_1 E
  have fc_10 := i_ne c_10
  rw [q_106] at fc_10
  by_cases c_11 : a1 = 108
  · refine lv_tableIn (off := 113) (tgt := 114) hx hb dX1_formBehind_1 (by rw [c_11]; decide) (by rw [c_11]; decide) (by rw [c_11]; rfl) (by decide) ?_
    exact D_1 E
  have fc_11 := i_ne c_11
  rw [q_108] at fc_11
  by_cases c_12 : a1 = 109
  · refine lv_tableIn (off := 113) (tgt := 114) hx hb dX1_formBehind_1 (by rw [c_12]; decide) (by rw [c_12]; decide) (by rw [c_12]; rfl) (by decide) ?_
    exact D_1 E
  have fc_12 := i_ne c_12
  rw [q_109] at fc_12
  by_cases c_13 : a1 = 110
  · refine lv_tableIn (off := 113) (tgt := 114) hx hb dX1_formBehind_1 (by rw [c_13]; decide) (by rw [c_13]; decide) (by rw [c_13]; rfl) (by decide) ?_
    exact D_1 E
  have fc_13 := i_ne c_13
  rw [q_110] at fc_13
  by_cases c_14 : a1 = 111
  · refine lv_tableIn (off := 113) (tgt := 114) hx hb dX1_formBehind_1 (by rw [c_14]; decide) (by rw [c_14]; decide) (by rw [c_14]; rfl) (by decide) ?_
    exact D_1 E
  have fc_14 := i_ne c_14
  rw [q_111] at fc_14
  by_cases c_15 : a1 = 112
  · refine lv_tableIn (off := 113) (tgt := 114) hx hb dX1_formBehind_1 (by rw [c_15]; decide) (by rw [c_15]; decide) (by rw [c_15]; rfl) (by decide) ?_
    exact D_1 E
  have fc_15 := i_ne c_15
  rw [q_112] at fc_15
  by_cases c_16 : a1 = 113
  · refine lv_tableIn (off := 113) (tgt := 114) hx hb dX1_formBehind_1 (by rw [c_16]; decide) (by rw [c_16]; decide) (by rw [c_16]; rfl) (by decide) ?_
    exact D_1 E
  have fc_16 := i_ne c_16
  rw [q_113] at fc_16
  by_cases c_17 : a1 = 115
  · refine lv_tableIn (off := 113) (tgt := 114) hx hb dX1_formBehind_1 (by rw [c_17]; decide) (by rw [c_17]; decide) (by rw [c_17]; rfl) (by decide) ?_
    exact D_1 E
  have fc_17 := i_ne c_17
  rw [q_115] at fc_17
  by_cases c_18 : a1 = 116
  · refine lv_tableIn (off := 113) (tgt := 114) hx hb dX1_formBehind_1 (by rw [c_18]; decide) (by rw [c_18]; decide) (by rw [c_18]; rfl) (by decide) ?_
    exact D_1 E
  have fc_18 := i_ne c_18
  rw [q_116] at fc_18
  by_cases c_19 : a1 = 118
  · refine lv_tableIn (off := 113) (tgt := 114) hx hb dX1_formBehind_1 (by rw [c_19]; decide) (by rw [c_19]; decide) (by rw [c_19]; rfl) (by decide) ?_
    exact D_1 E
  have fc_19 := i_ne c_19
  rw [q_118] at fc_19
  by_cases c_20 : a1 = 120
  · refine lv_tableIn (off := 113) (tgt := 114) hx hb dX1_formBehind_1 (by rw [c_20]; decide) (by rw [c_20]; decide) (by rw [c_20]; rfl) (by decide) ?_
    exact D_1 E
  have fc_20 := i_ne c_20
  rw [q_120] at fc_20
  refine lv_tableOut (tgt := 114) hx hb dX1_formBehind_1 (by omega) (by decide) ?_
  exact D_1 E
abbrev rmX1_stepBehind : Room := { frames := 6, cells := 0, slots := 0, locals := 132 }
set_option maxHeartbeats 4000000 in
set_option maxRecDepth 100000 in
theorem kX1_stepBehind (l : Launch) (aK aV : Nat → Nat) (A : Nat → Prop) (i : Nat) (a2 : Int32) (a3 : Int32)  (h1 : i < 9) (h2 : 0 ≤ a2.toInt) (h3 : a2.toInt ≤ (lenS.getD i 0 : Nat)) : Met l yX1_stepBehind wsX1_stepBehind rmX1_stepBehind (va_Pc [Value.ref (aK i), Value.int a2, Value.int a3] (fun U => NW U ∧ STR aK aV A U U.heap)) (vp_Si (fun r => r = sX1_stepBehind i a2 a3)) 0 0 (fun _ => False) := by
  refine Met.ofW (cc := cX1_stepBehind) (maxL := 5) (ret := (some .int)) (by decide) rfl ?_
  intro p e s m args below meth c s₁ B hml hv
  obtain ⟨rfl, hN, hST⟩ := hv
  have hx := B.exec
  have hb := B.bytes
  have hr := B.returns
  have hts := atoms_spec (ws := wsX1_stepBehind) B.pre
  have hown : s.vm.findClass RX1 = some m.cls := findClass_of_methodNamed B.named
  have hlocks := B.notSynchronized
  have hl := lv_entry ([.ref (aK i), .int a2, .int a3]) (n := 5) (Nat.le_of_ble_eq_true rfl)
  rw [lg_entry_eq]
  generalize (lg_sl ([.ref (aK i), .int a2, .int a3]) ++ List.replicate (5 - (lg_sl ([.ref (aK i), .int a2, .int a3])).length) Slot.unset).toArray = ls at hl ⊢
  have hl : lv_has ls 5 [(0, .ref (aK i)), (1, .int a2), (2, .int a3)] := hl
  have E := sX1_stepBehind.eq_1 i a2 a3
  refine lv_iload_n hx hb dX1_stepBehind_0 rfl (lv_at hl 1 rfl) ?_
  refine lv_istore_n (lv' := [(3, .int a2), (0, .ref (aK i)), (1, .int a2), (2, .int a3)]) hx hb dX1_stepBehind_1 rfl hl (by decide) rfl (fun ls hl => ?_)
  have L_2 : ∀ (n_2 : Nat) (x3_2 : Int32) (ls : Array Slot), ((0 ≤ x3_2.toInt) ∧ (x3_2.toInt ≤ (lenS.getD i 0 : Nat))) → ((lenS.getD i 0 : Nat) - x3_2.toInt < (n_2 : Int)) → lv_has ls 5 [(3, .int x3_2), (0, .ref (aK i)), (2, .int a3)] → sX1_stepBehind i a2 a3 = sX1_stepBehind_2 i a3 n_2 x3_2 → W p l e (headSpec wsX1_stepBehind rmX1_stepBehind).room s m [Value.ref (aK i), Value.int a2, Value.int a3].toArray below meth c s.heap [] 0 0 (MQ below (vp_Si (fun r => r = sX1_stepBehind i a2 a3)) [Value.ref (aK i), Value.int a2, Value.int a3].toArray s 0 0 (fun _ => False)) (F0 m 2 ls []) := by
    intro n_2
    induction n_2 with
    | zero =>
      intro x3_2 ls hinv hm
      obtain ⟨v0_2, v1_2⟩ := hinv
      exact absurd hm (by omega)
    | succ n_2 ih_2 =>
      intro x3_2 ls hinv hm_2 hl E
      obtain ⟨v0_2, v1_2⟩ := hinv
      have E := E.trans (sX1_stepBehind_2.eq_2 ..)
      have := len7 h1
      refine lv_iload_n hx hb dX1_stepBehind_2 rfl (lv_at hl 0 rfl) ?_
      refine lv_aload_n hx hb dX1_stepBehind_3 rfl (lv_at hl 1 rfl) ?_
      refine vp_callSi (va_Run.run (va_runV (As := []) (rest := [.int x3_2]) ⟨hx, hb, hml, hown, hts⟩ (kJ0_length_8abf5 l aK aV A i (by omega)) (cwV 0 hts gX1_stepBehind_J0_length_8abf5 rfl rfl rfl mdJ0_length_8abf5 ⟨Nat.le_of_ble_eq_true rfl, Nat.le_of_ble_eq_true rfl⟩) (xt_pre hST (by omega) va_S.rf) rfl rfl hl.1 rfl (lv_room (Nat.le_of_ble_eq_true rfl)) dX1_stepBehind_4 ⟨Nat.zero_le _, Nat.zero_le _⟩)) (fun rn_1 hr_1 => ?_)
      subst hr_1
      have := rJ0_length (i := i) (by omega)
      have := len7 (i := i) (by omega)
      refine lv_icmp_ge (tgt := 45) hx hb dX1_stepBehind_7 (by decide) (fun c_2 => ?_) (fun c_2 => ?_)
      · have E := E.trans (if_pos c_2)
        have fc_2 := i_le c_2
        refine lv_iconst (v := (-1)) hx hb dX1_stepBehind_45 (by decide) ?_
        exact W.iret (v := (-1)) hx hb hr (fun t ht hW => ⟨_, rfl, E.symm, ht⟩) (fun q hq => by cases hq) dX1_stepBehind_46
      · have E := E.trans (if_neg c_2)
        have fc_2 := i_nle c_2
        refine lv_aload_n hx hb dX1_stepBehind_10 rfl (lv_at hl 1 rfl) ?_
        refine lv_iload_n hx hb dX1_stepBehind_11 rfl (lv_at hl 0 rfl) ?_
        refine vp_callSi (va_Run.run (va_runV (As := [.int x3_2]) (rest := []) ⟨hx, hb, hml, hown, hts⟩ (kJ0_charAt_5068e l aK aV A i x3_2 (by omega) (by omega) (by omega)) (cwV 1 hts gX1_stepBehind_J0_charAt_5068e rfl rfl rfl mdJ0_charAt_5068e ⟨Nat.le_of_ble_eq_true rfl, Nat.le_of_ble_eq_true rfl⟩) (xt_pre hST (by omega) va_S.rf) rfl rfl hl.1 rfl (lv_room (Nat.le_of_ble_eq_true rfl)) dX1_stepBehind_12 ⟨Nat.zero_le _, Nat.zero_le _⟩)) (fun rn_3 hr_3 => ?_)
        obtain ⟨rfl, hc_3⟩ := hr_3
        refine lv_istore (lv' := [(4, .int (sJ0_charAt_5068e i x3_2)), (3, .int x3_2), (0, .ref (aK i)), (2, .int a3)]) hx hb dX1_stepBehind_15 hl (by decide) rfl (fun ls hl => ?_)
        refine lv_iload hx hb dX1_stepBehind_17 (lv_at hl 0 rfl) ?_
        refine lv_iload_n hx hb dX1_stepBehind_19 rfl (lv_at hl 3 rfl) ?_
        refine vp_callSi (va_Run.run (va_runS (As := [.int (sJ0_charAt_5068e i x3_2), .int a3]) (rest := []) ⟨hx, hb, hml, hown, hts⟩ (kX1_fits l aK aV A (sJ0_charAt_5068e i x3_2) a3) (va_cwS 2 hts gX1_stepBehind_X1_fits rfl rfl rfl mdsX1_fits ⟨Nat.le_of_ble_eq_true rfl, Nat.le_of_ble_eq_true rfl⟩) (tx_pre hN hST va_S.rf) rfl rfl hl.1 rfl (lv_room (Nat.le_of_ble_eq_true rfl)) dX1_stepBehind_20 ⟨Nat.zero_le _, Nat.zero_le _⟩)) (fun rn_4 hr_4 => ?_)
        obtain ⟨rfl, hz_4⟩ := hr_4
        refine lv_if_eq (tgt := 30) hx hb dX1_stepBehind_23 (by decide) (fun c_5 => ?_) (fun c_5 => ?_)
        · have E := E.trans (if_pos c_5)
          have fc_5 := i_eq c_5
          rw [q_0] at fc_5
          refine lv_iload hx hb dX1_stepBehind_30 (lv_at hl 0 rfl) ?_
          refine lv_bipush (v := 63) hx hb dX1_stepBehind_32 (by decide +kernel) ?_
          refine lv_icmp_eq (tgt := 39) hx hb dX1_stepBehind_34 (by decide) (fun c_6 => ?_) (fun c_6 => ?_)
          · have E := E.trans (if_pos c_6)
            have fc_6 := i_eq c_6
            rw [q_63] at fc_6
            refine lv_iinc (v := x3_2 + 1) (lv' := [(3, .int (x3_2 + 1)), (4, .int (sJ0_charAt_5068e i x3_2)), (0, .ref (aK i)), (2, .int a3)]) hx hb dX1_stepBehind_39 hl (k := 1) rfl rfl (by decide) rfl (fun ls hl => ?_)
            refine lv_goto (tgt := 2) hx hb dX1_stepBehind_42 (by decide) ?_
            try have := i_addr (a := x3_2) (b := 1) (n := 1) q_1 (by omega) (by omega)
            exact ih_2 (x3_2 + 1) ls ⟨by omega, by omega⟩ (by omega) (lv_sub hl [0, 2, 3] rfl) E
          · have E := E.trans (if_neg c_6)
            have fc_6 := i_ne c_6
            rw [q_63] at fc_6
            refine lv_iconst (v := (-1)) hx hb dX1_stepBehind_37 (by decide) ?_
            exact W.iret (v := (-1)) hx hb hr (fun t ht hW => ⟨_, rfl, E.symm, ht⟩) (fun q hq => by cases hq) dX1_stepBehind_38
        · have E := E.trans (if_neg c_5)
          have fc_5 := i_ne c_5
          rw [q_0] at fc_5
          refine lv_iload_n hx hb dX1_stepBehind_26 rfl (lv_at hl 1 rfl) ?_
          refine lv_iconst (v := 1) hx hb dX1_stepBehind_27 (by decide) ?_
          refine lv_iadd hx hb dX1_stepBehind_28 ?_
          exact W.iret (v := x3_2 + 1) hx hb hr (fun t ht hW => ⟨_, rfl, E.symm, ht⟩) (fun q hq => by cases hq) dX1_stepBehind_29
  have := len7 h1
  exact L_2 9 a2 ls ⟨by omega, by omega⟩ (by omega) (lv_sub hl [0, 1, 3] rfl) E
abbrev rmX1_firstOutOfForm : Room := { frames := 7, cells := 0, slots := 0, locals := 156 }
set_option maxHeartbeats 4000000 in
set_option maxRecDepth 100000 in
theorem kX1_firstOutOfForm (l : Launch) (D : va_G) (cI cC cQ : ClassId) (ad : Nat → Nat) (aK aV : Nat → Nat) (w : Nat → Nat → Int32)  (hI : R1I w)  : Met l yX1_firstOutOfForm wsX1_firstOutOfForm rmX1_firstOutOfForm (va_Pc [Value.ref (ad 0)] (fun U => va_P D vwCl (LW cC ad w) U.heap ∧ va_K D vwCl [(cI, .int), (cC, .char), (cQ, .object "LoadedForTheLane$Way")] U ∧ NW U ∧ STR aK aV (LWA ad) U U.heap)) (vp_Si (fun r => r = sX1_firstOutOfForm w)) 0 0 (fun _ => False) := by
  refine Met.ofW (cc := cX1_firstOutOfForm) (maxL := 4) (ret := (some .int)) (by decide) rfl ?_
  intro p e s m args below meth c s₁ B hml hv
  obtain ⟨rfl, hP, hK, hN, hST⟩ := hv
  have hx := B.exec
  have hb := B.bytes
  have hr := B.returns
  have hts := atoms_spec (ws := wsX1_firstOutOfForm) B.pre
  have hown : s.vm.findClass RX1 = some m.cls := findClass_of_methodNamed B.named
  have hlocks := B.notSynchronized
  have hin1 : ∀ q ∈ wsX10, q ∈ wsX1_firstOutOfForm := by decide +kernel
  have hl := lv_entry ([.ref (ad 0)]) (n := 4) (Nat.le_of_ble_eq_true rfl)
  rw [lg_entry_eq]
  generalize (lg_sl ([.ref (ad 0)]) ++ List.replicate (4 - (lg_sl ([.ref (ad 0)])).length) Slot.unset).toArray = ls at hl ⊢
  have hl : lv_has ls 4 [(0, .ref (ad 0))] := hl
  have E := sX1_firstOutOfForm.eq_1 w
  refine lv_aload_n hx hb dX1_firstOutOfForm_0 rfl (lv_at hl 0 rfl) ?_
  refine g1_size hx hb hts hin1 hown hK hP (hts (.fieldLink RX1 15 "LoadedForTheLane$Letters" "size" "I") (by decide +kernel)) dX1_firstOutOfForm_1 ?_
  have f_1 := R1I_size hI
  refine lv_if_ne (tgt := 9) hx hb dX1_firstOutOfForm_4 (by decide) (fun c_2 => ?_) (fun c_2 => ?_)
  · have E := E.trans (if_neg c_2)
    have fc_2 := i_ne c_2
    rw [q_0] at fc_2
    refine va_ldcS hx hb hown (hST.2.2.2.2.2.1) dX1_firstOutOfForm_9 ?_
    refine lv_astore_n (lv' := [(1, .ref (aK 2)), (0, .ref (ad 0))]) hx hb dX1_firstOutOfForm_11 rfl hl (by decide) rfl (fun ls hl => ?_)
    refine lv_iconst (v := 0) hx hb dX1_firstOutOfForm_12 (by decide) ?_
    refine lv_istore_n (lv' := [(2, .int 0), (1, .ref (aK 2)), (0, .ref (ad 0))]) hx hb dX1_firstOutOfForm_13 rfl hl (by decide) rfl (fun ls hl => ?_)
    refine lv_iconst (v := 0) hx hb dX1_firstOutOfForm_14 (by decide) ?_
    refine lv_istore_n (lv' := [(3, .int 0), (2, .int 0), (1, .ref (aK 2)), (0, .ref (ad 0))]) hx hb dX1_firstOutOfForm_15 rfl hl (by decide) rfl (fun ls hl => ?_)
    have L_16 : ∀ (n_16 : Nat) (x1_16 : Nat) (x2_16 : Int32) (x3_16 : Int32) (ls : Array Slot), ((x1_16 < 9) ∧ (0 ≤ x2_16.toInt) ∧ (0 ≤ x3_16.toInt) ∧ (x3_16.toInt ≤ (w 1 0).toInt)) → ((w 1 0).toInt - x3_16.toInt < (n_16 : Int)) → lv_has ls 4 [(3, .int x3_16), (2, .int x2_16), (1, .ref (aK x1_16)), (0, .ref (ad 0))] → sX1_firstOutOfForm w = sX1_firstOutOfForm_16 w n_16 x1_16 x2_16 x3_16 → W p l e (headSpec wsX1_firstOutOfForm rmX1_firstOutOfForm).room s m [Value.ref (ad 0)].toArray below meth c s.heap [] 0 0 (MQ below (vp_Si (fun r => r = sX1_firstOutOfForm w)) [Value.ref (ad 0)].toArray s 0 0 (fun _ => False)) (F0 m 16 ls []) := by
      intro n_16
      induction n_16 with
      | zero =>
        intro x1_16 x2_16 x3_16 ls hinv hm
        obtain ⟨v0_16, v1_16, v2_16, v3_16⟩ := hinv
        exact absurd hm (by omega)
      | succ n_16 ih_16 =>
        intro x1_16 x2_16 x3_16 ls hinv hm_16 hl E
        obtain ⟨v0_16, v1_16, v2_16, v3_16⟩ := hinv
        have E := E.trans (sX1_firstOutOfForm_16.eq_2 ..)
        refine lv_iload_n hx hb dX1_firstOutOfForm_16 rfl (lv_at hl 0 rfl) ?_
        refine lv_aload_n hx hb dX1_firstOutOfForm_17 rfl (lv_at hl 3 rfl) ?_
        refine g1_size hx hb hts hin1 hown hK hP (hts (.fieldLink RX1 15 "LoadedForTheLane$Letters" "size" "I") (by decide +kernel)) dX1_firstOutOfForm_18 ?_
        have f_3 := R1I_size hI
        refine lv_icmp_ge (tgt := 80) hx hb dX1_firstOutOfForm_21 (by decide) (fun c_4 => ?_) (fun c_4 => ?_)
        · have E := E.trans (if_pos c_4)
          have fc_4 := i_le c_4
          refine lv_iload_n hx hb dX1_firstOutOfForm_80 rfl (lv_at hl 1 rfl) ?_
          refine lv_aload_n hx hb dX1_firstOutOfForm_81 rfl (lv_at hl 2 rfl) ?_
          refine vp_callSi (va_Run.run (va_runV (As := []) (rest := [.int x2_16]) ⟨hx, hb, hml, hown, hts⟩ (kJ0_length_8abf5 l aK aV (LWA ad) x1_16 (by omega)) (cwV 0 hts gX1_firstOutOfForm_J0_length_8abf5 rfl rfl rfl mdJ0_length_8abf5 ⟨Nat.le_of_ble_eq_true rfl, Nat.le_of_ble_eq_true rfl⟩) (xt_pre hST (by omega) va_S.rf) rfl rfl hl.1 rfl (lv_room (Nat.le_of_ble_eq_true rfl)) dX1_firstOutOfForm_82 ⟨Nat.zero_le _, Nat.zero_le _⟩)) (fun rn_5 hr_5 => ?_)
          subst hr_5
          have := rJ0_length (i := x1_16) (by omega)
          have := len7 (i := x1_16) (by omega)
          refine lv_icmp_ge (tgt := 95) hx hb dX1_firstOutOfForm_85 (by decide) (fun c_6 => ?_) (fun c_6 => ?_)
          · have E := E.trans (if_pos c_6)
            have fc_6 := i_le c_6
            refine lv_iconst (v := (-1)) hx hb dX1_firstOutOfForm_95 (by decide) ?_
            exact W.iret (v := (-1)) hx hb hr (fun t ht hW => ⟨_, rfl, E.symm, ht⟩) (fun q hq => by cases hq) dX1_firstOutOfForm_96
          · have E := E.trans (if_neg c_6)
            have fc_6 := i_nle c_6
            refine lv_aload_n hx hb dX1_firstOutOfForm_88 rfl (lv_at hl 3 rfl) ?_
            refine g1_size hx hb hts hin1 hown hK hP (hts (.fieldLink RX1 15 "LoadedForTheLane$Letters" "size" "I") (by decide +kernel)) dX1_firstOutOfForm_89 ?_
            have f_7 := R1I_size hI
            refine lv_goto (tgt := 96) hx hb dX1_firstOutOfForm_92 (by decide) ?_
            exact W.iret (v := w 1 0) hx hb hr (fun t ht hW => ⟨_, rfl, E.symm, ht⟩) (fun q hq => by cases hq) dX1_firstOutOfForm_96
        · have E := E.trans (if_neg c_4)
          have fc_4 := i_nle c_4
          refine lv_iload_n hx hb dX1_firstOutOfForm_24 rfl (lv_at hl 1 rfl) ?_
          refine lv_aload_n hx hb dX1_firstOutOfForm_25 rfl (lv_at hl 2 rfl) ?_
          refine vp_callSi (va_Run.run (va_runV (As := []) (rest := [.int x2_16]) ⟨hx, hb, hml, hown, hts⟩ (kJ0_length_8abf5 l aK aV (LWA ad) x1_16 (by omega)) (cwV 0 hts gX1_firstOutOfForm_J0_length_8abf5 rfl rfl rfl mdJ0_length_8abf5 ⟨Nat.le_of_ble_eq_true rfl, Nat.le_of_ble_eq_true rfl⟩) (xt_pre hST (by omega) va_S.rf) rfl rfl hl.1 rfl (lv_room (Nat.le_of_ble_eq_true rfl)) dX1_firstOutOfForm_26 ⟨Nat.zero_le _, Nat.zero_le _⟩)) (fun rn_8 hr_8 => ?_)
          subst hr_8
          have := rJ0_length (i := x1_16) (by omega)
          have := len7 (i := x1_16) (by omega)
          refine lv_icmp_lt (tgt := 57) hx hb dX1_firstOutOfForm_29 (by decide) (fun c_9 => ?_) (fun c_9 => ?_)
          · have E := E.trans (if_pos c_9)
            have fc_9 := i_lt c_9
            refine lv_aload_n hx hb dX1_firstOutOfForm_57 rfl (lv_at hl 2 rfl) ?_
            refine lv_iload_n hx hb dX1_firstOutOfForm_58 rfl (lv_at hl 1 rfl) ?_
            refine lv_aload_n hx hb dX1_firstOutOfForm_59 rfl (lv_at hl 3 rfl) ?_
            refine lv_iload_n hx hb dX1_firstOutOfForm_60 rfl (lv_at hl 0 rfl) ?_
            refine vp_callSi (va_Run.run (va_runV (As := [.int x3_16]) (rest := [.int x2_16, .ref (aK x1_16)]) ⟨hx, hb, hml, hown, hts⟩ (kX1_at l D cI cC cQ ad w x3_16 hI) (cwV 1 hts gX1_firstOutOfForm_X1_at rfl rfl rfl mdX1_at ⟨Nat.le_of_ble_eq_true rfl, Nat.le_of_ble_eq_true rfl⟩) (x1_pre hK hP) rfl rfl hl.1 rfl (lv_room (Nat.le_of_ble_eq_true rfl)) dX1_firstOutOfForm_61 ⟨Nat.zero_le _, Nat.zero_le _⟩)) (fun rn_10 hr_10 => ?_)
            obtain ⟨rfl, hc_10⟩ := hr_10
            refine vp_callSi (va_Run.run (va_runS (As := [.ref (aK x1_16), .int x2_16, .int (sX1_at w x3_16)]) (rest := []) ⟨hx, hb, hml, hown, hts⟩ (kX1_stepBehind l aK aV (LWA ad) x1_16 x2_16 (sX1_at w x3_16) (by omega) (by omega) (by omega)) (va_cwS 3 hts gX1_firstOutOfForm_X1_stepBehind rfl rfl rfl mdsX1_stepBehind ⟨Nat.le_of_ble_eq_true rfl, Nat.le_of_ble_eq_true rfl⟩) (tx_pre hN hST va_S.rf) rfl rfl hl.1 rfl (lv_room (Nat.le_of_ble_eq_true rfl)) dX1_firstOutOfForm_64 ⟨Nat.zero_le _, Nat.zero_le _⟩)) (fun rn_11 hr_11 => ?_)
            subst hr_11
            refine lv_istore_n (lv' := [(2, .int (sX1_stepBehind x1_16 x2_16 (sX1_at w x3_16))), (3, .int x3_16), (1, .ref (aK x1_16)), (0, .ref (ad 0))]) hx hb dX1_firstOutOfForm_67 rfl hl (by decide) rfl (fun ls hl => ?_)
            refine lv_iload_n hx hb dX1_firstOutOfForm_68 rfl (lv_at hl 0 rfl) ?_
            refine lv_if_ge (tgt := 74) hx hb dX1_firstOutOfForm_69 (by decide) (fun c_12 => ?_) (fun c_12 => ?_)
            · have E := E.trans (if_pos c_12)
              have fc_12 := i_le c_12
              rw [q_0] at fc_12
              refine lv_iinc (v := x3_16 + 1) (lv' := [(3, .int (x3_16 + 1)), (2, .int (sX1_stepBehind x1_16 x2_16 (sX1_at w x3_16))), (1, .ref (aK x1_16)), (0, .ref (ad 0))]) hx hb dX1_firstOutOfForm_74 hl (k := 1) rfl rfl (by decide) rfl (fun ls hl => ?_)
              refine lv_goto (tgt := 16) hx hb dX1_firstOutOfForm_77 (by decide) ?_
              try have := i_addr (a := x3_16) (b := 1) (n := 1) q_1 (by omega) (by omega)
              exact ih_16 x1_16 ((sX1_stepBehind x1_16 x2_16 (sX1_at w x3_16))) (x3_16 + 1) ls ⟨by omega, by omega, by omega, by omega⟩ (by omega) (lv_sub hl [0, 1, 2, 3] rfl) E
            · have E := E.trans (if_neg c_12)
              have fc_12 := i_nle c_12
              rw [q_0] at fc_12
              refine lv_iload_n hx hb dX1_firstOutOfForm_72 rfl (lv_at hl 1 rfl) ?_
              exact W.iret (v := x3_16) hx hb hr (fun t ht hW => ⟨_, rfl, E.symm, ht⟩) (fun q hq => by cases hq) dX1_firstOutOfForm_73
          · have E := E.trans (if_neg c_9)
            have fc_9 := i_nlt c_9
            refine lv_aload_n hx hb dX1_firstOutOfForm_32 rfl (lv_at hl 3 rfl) ?_
            refine lv_iload_n hx hb dX1_firstOutOfForm_33 rfl (lv_at hl 0 rfl) ?_
            refine vp_callSi (va_Run.run (va_runV (As := [.int x3_16]) (rest := []) ⟨hx, hb, hml, hown, hts⟩ (kX1_at l D cI cC cQ ad w x3_16 hI) (cwV 1 hts gX1_firstOutOfForm_X1_at rfl rfl rfl mdX1_at ⟨Nat.le_of_ble_eq_true rfl, Nat.le_of_ble_eq_true rfl⟩) (x1_pre hK hP) rfl rfl hl.1 rfl (lv_room (Nat.le_of_ble_eq_true rfl)) dX1_firstOutOfForm_34 ⟨Nat.zero_le _, Nat.zero_le _⟩)) (fun rn_13 hr_13 => ?_)
            obtain ⟨rfl, hc_13⟩ := hr_13
            refine vp_callSr (va_Run.run (va_runS (As := [.int (sX1_at w x3_16)]) (rest := []) ⟨hx, hb, hml, hown, hts⟩ (kX1_formBehind l aK aV (LWA ad) (sX1_at w x3_16)) (va_cwS 1 hts gX1_firstOutOfForm_X1_formBehind rfl rfl rfl mdsX1_formBehind ⟨Nat.le_of_ble_eq_true rfl, Nat.le_of_ble_eq_true rfl⟩) (tx_pre hN hST va_S.rf) rfl rfl hl.1 rfl (lv_room (Nat.le_of_ble_eq_true rfl)) dX1_firstOutOfForm_37 ⟨Nat.zero_le _, Nat.zero_le _⟩)) (fun rn_14 hr_14 => ?_)
            obtain ⟨rfl, hf_14⟩ := hr_14
            refine lv_astore_n (lv' := [(1, .ref (aK (sX1_formBehind (sX1_at w x3_16)))), (3, .int x3_16), (2, .int x2_16), (0, .ref (ad 0))]) hx hb dX1_firstOutOfForm_40 rfl hl (by decide) rfl (fun ls hl => ?_)
            refine lv_aload_n hx hb dX1_firstOutOfForm_41 rfl (lv_at hl 0 rfl) ?_
            refine vp_callSi (va_Run.run (va_runV (As := []) (rest := []) ⟨hx, hb, hml, hown, hts⟩ (kJ0_isEmpty_aae02 l aK aV (LWA ad) (sX1_formBehind (sX1_at w x3_16)) (by omega)) (cwV 0 hts gX1_firstOutOfForm_J0_isEmpty_aae02 rfl rfl rfl mdJ0_isEmpty_aae02 ⟨Nat.le_of_ble_eq_true rfl, Nat.le_of_ble_eq_true rfl⟩) (xt_pre hST (by omega) va_S.rf) rfl rfl hl.1 rfl (lv_room (Nat.le_of_ble_eq_true rfl)) dX1_firstOutOfForm_42 ⟨Nat.zero_le _, Nat.zero_le _⟩)) (fun rn_15 hr_15 => ?_)
            obtain ⟨rfl, hz_15⟩ := hr_15
            refine lv_if_eq (tgt := 52) hx hb dX1_firstOutOfForm_45 (by decide) (fun c_16 => ?_) (fun c_16 => ?_)
            · have E := E.trans (if_pos c_16)
              have fc_16 := i_eq c_16
              rw [q_0] at fc_16
              refine lv_iconst (v := 0) hx hb dX1_firstOutOfForm_52 (by decide) ?_
              refine lv_istore_n (lv' := [(2, .int 0), (1, .ref (aK (sX1_formBehind (sX1_at w x3_16)))), (3, .int x3_16), (0, .ref (ad 0))]) hx hb dX1_firstOutOfForm_53 rfl hl (by decide) rfl (fun ls hl => ?_)
              refine lv_goto (tgt := 68) hx hb dX1_firstOutOfForm_54 (by decide) ?_
              refine lv_iload_n hx hb dX1_firstOutOfForm_68 rfl (lv_at hl 0 rfl) ?_
              refine lv_if_ge (tgt := 74) hx hb dX1_firstOutOfForm_69 (by decide) (fun _ => ?_) (fun z => absurd z (by decide))
              refine lv_iinc (v := x3_16 + 1) (lv' := [(3, .int (x3_16 + 1)), (2, .int 0), (1, .ref (aK (sX1_formBehind (sX1_at w x3_16)))), (0, .ref (ad 0))]) hx hb dX1_firstOutOfForm_74 hl (k := 2) rfl rfl (by decide) rfl (fun ls hl => ?_)
              refine lv_goto (tgt := 16) hx hb dX1_firstOutOfForm_77 (by decide) ?_
              have := q_0
              try have := i_addr (a := x3_16) (b := 1) (n := 1) q_1 (by omega) (by omega)
              exact ih_16 (sX1_formBehind (sX1_at w x3_16)) 0 (x3_16 + 1) ls ⟨by omega, by omega, by omega, by omega⟩ (by omega) (lv_sub hl [0, 1, 2, 3] rfl) E
            · have E := E.trans (if_neg c_16)
              have fc_16 := i_ne c_16
              rw [q_0] at fc_16
              refine lv_iconst (v := (-1)) hx hb dX1_firstOutOfForm_48 (by decide) ?_
              refine lv_goto (tgt := 53) hx hb dX1_firstOutOfForm_49 (by decide) ?_
              refine lv_istore_n (lv' := [(2, .int (-1)), (1, .ref (aK (sX1_formBehind (sX1_at w x3_16)))), (3, .int x3_16), (0, .ref (ad 0))]) hx hb dX1_firstOutOfForm_53 rfl hl (by decide) rfl (fun ls hl => ?_)
              refine lv_goto (tgt := 68) hx hb dX1_firstOutOfForm_54 (by decide) ?_
              refine lv_iload_n hx hb dX1_firstOutOfForm_68 rfl (lv_at hl 0 rfl) ?_
              refine lv_if_ge (tgt := 74) hx hb dX1_firstOutOfForm_69 (by decide) (fun z => absurd z (by decide)) (fun _ => ?_)
              refine lv_iload_n hx hb dX1_firstOutOfForm_72 rfl (lv_at hl 2 rfl) ?_
              exact W.iret (v := x3_16) hx hb hr (fun t ht hW => ⟨_, rfl, E.symm, ht⟩) (fun q hq => by cases hq) dX1_firstOutOfForm_73
    have := q_0
    exact L_16 97 2 0 0 ls ⟨by omega, by omega, by omega, by omega⟩ (by omega) (lv_sub hl [0, 1, 2, 3] rfl) E
  · have E := E.trans (if_pos c_2)
    have fc_2 := i_eq c_2
    rw [q_0] at fc_2
    refine lv_iconst (v := 0) hx hb dX1_firstOutOfForm_7 (by decide) ?_
    exact W.iret (v := 0) hx hb hr (fun t ht hW => ⟨_, rfl, E.symm, ht⟩) (fun q hq => by cases hq) dX1_firstOutOfForm_8
