abbrev rmX7_isIn : Room := { frames := 0, cells := 0, slots := 0, locals := 0 }
set_option maxHeartbeats 4000000 in
set_option maxRecDepth 100000 in
theorem kX7_isIn (l : Launch)  (a1 : Int32) (a2 : Int32) (a3 : Int32)   : Met l yX7_isIn wsX7_isIn rmX7_isIn (va_Pc [Value.int a1, Value.int a2, Value.int a3] (fun U => True)) (vp_Si (fun r => r = sX7_isIn a1 a2 a3 ∧ (r = 0 ∨ r = 1))) 0 0 (fun _ => False) := by
  refine Met.ofW (cc := cX7_isIn) (maxL := 3) (ret := (some .boolean)) (by decide) rfl ?_
  intro p e s m args below meth c s₁ B hml hv
  obtain ⟨rfl, -⟩ := hv
  have hx := B.exec
  have hb := B.bytes
  have hr := B.returns
  have hts := atoms_spec (ws := wsX7_isIn) B.pre
  have hown : s.vm.findClass RX7 = some m.cls := findClass_of_methodNamed B.named
  have hlocks := B.notSynchronized
  have hl := lv_entry ([.int a1, .int a2, .int a3]) (n := 3) (Nat.le_of_ble_eq_true rfl)
  rw [lg_entry_eq]
  generalize (lg_sl ([.int a1, .int a2, .int a3]) ++ List.replicate (3 - (lg_sl ([.int a1, .int a2, .int a3])).length) Slot.unset).toArray = ls at hl ⊢
  have hl : lv_has ls 3 [(0, .int a1), (1, .int a2), (2, .int a3)] := hl
  have E := sX7_isIn.eq_1 a1 a2 a3
  refine lv_iload_n hx hb dX7_isIn_0 rfl (lv_at hl 0 rfl) ?_
  refine lv_iload_n hx hb dX7_isIn_1 rfl (lv_at hl 1 rfl) ?_
  refine lv_icmp_lt (tgt := 14) hx hb dX7_isIn_2 (by decide) (fun c_1 => ?_) (fun c_1 => ?_)
  · have E := E.trans (if_pos c_1)
    have fc_1 := i_lt c_1
    refine lv_iconst (v := 0) hx hb dX7_isIn_14 (by decide) ?_
    exact W.zret (ty := .boolean) (v := 0) hx hb hr (z_nar (Or.inl rfl)) (fun t ht hW => ⟨_, rfl, ⟨E.symm, (Or.inl rfl)⟩, ht⟩) (fun q hq => by cases hq) dX7_isIn_15
  · have E := E.trans (if_neg c_1)
    have fc_1 := i_nlt c_1
    refine lv_iload_n hx hb dX7_isIn_5 rfl (lv_at hl 0 rfl) ?_
    refine lv_iload_n hx hb dX7_isIn_6 rfl (lv_at hl 2 rfl) ?_
    refine lv_icmp_gt (tgt := 14) hx hb dX7_isIn_7 (by decide) (fun c_2 => ?_) (fun c_2 => ?_)
    · have E := E.trans (if_pos c_2)
      have fc_2 := i_lt c_2
      refine lv_iconst (v := 0) hx hb dX7_isIn_14 (by decide) ?_
      exact W.zret (ty := .boolean) (v := 0) hx hb hr (z_nar (Or.inl rfl)) (fun t ht hW => ⟨_, rfl, ⟨E.symm, (Or.inl rfl)⟩, ht⟩) (fun q hq => by cases hq) dX7_isIn_15
    · have E := E.trans (if_neg c_2)
      have fc_2 := i_nlt c_2
      refine lv_iconst (v := 1) hx hb dX7_isIn_10 (by decide) ?_
      refine lv_goto (tgt := 15) hx hb dX7_isIn_11 (by decide) ?_
      exact W.zret (ty := .boolean) (v := 1) hx hb hr (z_nar (Or.inr rfl)) (fun t ht hW => ⟨_, rfl, ⟨E.symm, (Or.inr rfl)⟩, ht⟩) (fun q hq => by cases hq) dX7_isIn_15
abbrev rmX7_bound : Room := { frames := 0, cells := 0, slots := 0, locals := 0 }
set_option maxHeartbeats 4000000 in
set_option maxRecDepth 100000 in
theorem kX7_bound (l : Launch)  (a1 : Int32) (a2 : Int32) (a3 : Int32)   : Met l yX7_bound wsX7_bound rmX7_bound (va_Pc [Value.int a1, Value.int a2, Value.int a3] (fun U => True)) (vp_Si (fun r => r = sX7_bound a1 a2 a3)) 0 0 (fun _ => False) := by
  refine Met.ofW (cc := cX7_bound) (maxL := 3) (ret := (some .int)) (by decide) rfl ?_
  intro p e s m args below meth c s₁ B hml hv
  obtain ⟨rfl, -⟩ := hv
  have hx := B.exec
  have hb := B.bytes
  have hr := B.returns
  have hts := atoms_spec (ws := wsX7_bound) B.pre
  have hown : s.vm.findClass RX7 = some m.cls := findClass_of_methodNamed B.named
  have hlocks := B.notSynchronized
  have hl := lv_entry ([.int a1, .int a2, .int a3]) (n := 3) (Nat.le_of_ble_eq_true rfl)
  rw [lg_entry_eq]
  generalize (lg_sl ([.int a1, .int a2, .int a3]) ++ List.replicate (3 - (lg_sl ([.int a1, .int a2, .int a3])).length) Slot.unset).toArray = ls at hl ⊢
  have hl : lv_has ls 3 [(0, .int a1), (1, .int a2), (2, .int a3)] := hl
  have E := sX7_bound.eq_1 a1 a2 a3
  refine lv_iload_n hx hb dX7_bound_0 rfl (lv_at hl 0 rfl) ?_
  refine lv_iload_n hx hb dX7_bound_1 rfl (lv_at hl 1 rfl) ?_
  refine lv_icmp_ge (tgt := 10) hx hb dX7_bound_2 (by decide) (fun c_1 => ?_) (fun c_1 => ?_)
  · have E := E.trans (if_pos c_1)
    have fc_1 := i_le c_1
    refine lv_iload_n hx hb dX7_bound_10 rfl (lv_at hl 0 rfl) ?_
    refine lv_iload_n hx hb dX7_bound_11 rfl (lv_at hl 2 rfl) ?_
    refine lv_icmp_le (tgt := 20) hx hb dX7_bound_12 (by decide) (fun c_2 => ?_) (fun c_2 => ?_)
    · have E := E.trans (if_pos c_2)
      have fc_2 := i_le c_2
      refine lv_iconst (v := 0) hx hb dX7_bound_20 (by decide) ?_
      exact W.iret (v := 0) hx hb hr (fun t ht hW => ⟨_, rfl, E.symm, ht⟩) (fun q hq => by cases hq) dX7_bound_21
    · have E := E.trans (if_neg c_2)
      have fc_2 := i_nle c_2
      refine lv_bipush (v := (-6)) hx hb dX7_bound_15 (by decide +kernel) ?_
      refine lv_goto (tgt := 21) hx hb dX7_bound_17 (by decide) ?_
      exact W.iret (v := (-6)) hx hb hr (fun t ht hW => ⟨_, rfl, E.symm, ht⟩) (fun q hq => by cases hq) dX7_bound_21
  · have E := E.trans (if_neg c_1)
    have fc_1 := i_nle c_1
    refine lv_bipush (v := (-4)) hx hb dX7_bound_5 (by decide +kernel) ?_
    refine lv_goto (tgt := 21) hx hb dX7_bound_7 (by decide) ?_
    exact W.iret (v := (-4)) hx hb hr (fun t ht hW => ⟨_, rfl, E.symm, ht⟩) (fun q hq => by cases hq) dX7_bound_21
abbrev rmX7_layerOf : Room := { frames := 0, cells := 0, slots := 0, locals := 0 }
set_option maxHeartbeats 4000000 in
set_option maxRecDepth 100000 in
theorem kX7_layerOf (l : Launch)  (a1 : Int32)   : Met l yX7_layerOf wsX7_layerOf rmX7_layerOf (va_Pc [Value.int a1] (fun U => True)) (vp_Si (fun r => r = sX7_layerOf a1)) 0 0 (fun _ => False) := by
  refine Met.ofW (cc := cX7_layerOf) (maxL := 1) (ret := (some .int)) (by decide) rfl ?_
  intro p e s m args below meth c s₁ B hml hv
  obtain ⟨rfl, -⟩ := hv
  have hx := B.exec
  have hb := B.bytes
  have hr := B.returns
  have hts := atoms_spec (ws := wsX7_layerOf) B.pre
  have hown : s.vm.findClass RX7 = some m.cls := findClass_of_methodNamed B.named
  have hlocks := B.notSynchronized
  have hl := lv_entry ([.int a1]) (n := 1) (Nat.le_of_ble_eq_true rfl)
  rw [lg_entry_eq]
  generalize (lg_sl ([.int a1]) ++ List.replicate (1 - (lg_sl ([.int a1])).length) Slot.unset).toArray = ls at hl ⊢
  have hl : lv_has ls 1 [(0, .int a1)] := hl
  have E := sX7_layerOf.eq_1 a1
  refine lv_iload_n hx hb dX7_layerOf_0 rfl (lv_at hl 0 rfl) ?_
  have D_1 : sX7_layerOf a1 = (-1) → W p l e (headSpec wsX7_layerOf rmX7_layerOf).room s m [Value.int a1].toArray below meth c s.heap [] 0 0 (MQ below (vp_Si (fun r => r = sX7_layerOf a1)) [Value.int a1].toArray s 0 0 (fun _ => False)) (F0 m 119 ls []) := by
    intro E
    refine lv_iconst (v := (-1)) hx hb dX7_layerOf_119 (by decide) ?_
    exact W.iret (v := (-1)) hx hb hr (fun t ht hW => ⟨_, rfl, E.symm, ht⟩) (fun q hq => by cases hq) dX7_layerOf_120
  by_cases c_1 : a1 = 98
  · have E := E.trans (if_pos c_1)
    refine lv_tableIn (off := 105) (tgt := 106) hx hb dX7_layerOf_1 (by rw [c_1]; decide) (by rw [c_1]; decide) (by rw [c_1]; rfl) (by decide) ?_
    have fc_1 := i_eq c_1
    rw [q_98] at fc_1
    refine lv_iconst (v := 1) hx hb dX7_layerOf_106 (by decide) ?_
    exact W.iret (v := 1) hx hb hr (fun t ht hW => ⟨_, rfl, E.symm, ht⟩) (fun q hq => by cases hq) dX7_layerOf_107
  have E := E.trans (if_neg c_1)
  have fc_1 := i_ne c_1
  rw [q_98] at fc_1
  by_cases c_2 : a1 = 104
  · have E := E.trans (if_pos c_2)
    refine lv_tableIn (off := 111) (tgt := 112) hx hb dX7_layerOf_1 (by rw [c_2]; decide) (by rw [c_2]; decide) (by rw [c_2]; rfl) (by decide) ?_
    have fc_2 := i_eq c_2
    rw [q_104] at fc_2
    refine lv_iconst (v := 4) hx hb dX7_layerOf_112 (by decide) ?_
    exact W.iret (v := 4) hx hb hr (fun t ht hW => ⟨_, rfl, E.symm, ht⟩) (fun q hq => by cases hq) dX7_layerOf_113
  have E := E.trans (if_neg c_2)
  have fc_2 := i_ne c_2
  rw [q_104] at fc_2
  by_cases c_3 : a1 = 108
  · have E := E.trans (if_pos c_3)
    refine lv_tableIn (off := 103) (tgt := 104) hx hb dX7_layerOf_1 (by rw [c_3]; decide) (by rw [c_3]; decide) (by rw [c_3]; rfl) (by decide) ?_
    have fc_3 := i_eq c_3
    rw [q_108] at fc_3
    refine lv_iconst (v := 0) hx hb dX7_layerOf_104 (by decide) ?_
    exact W.iret (v := 0) hx hb hr (fun t ht hW => ⟨_, rfl, E.symm, ht⟩) (fun q hq => by cases hq) dX7_layerOf_105
  have E := E.trans (if_neg c_3)
  have fc_3 := i_ne c_3
  rw [q_108] at fc_3
  by_cases c_4 : a1 = 109
  · have E := E.trans (if_pos c_4)
    refine lv_tableIn (off := 115) (tgt := 116) hx hb dX7_layerOf_1 (by rw [c_4]; decide) (by rw [c_4]; decide) (by rw [c_4]; rfl) (by decide) ?_
    have fc_4 := i_eq c_4
    rw [q_109] at fc_4
    refine lv_bipush (v := 6) hx hb dX7_layerOf_116 (by decide +kernel) ?_
    exact W.iret (v := 6) hx hb hr (fun t ht hW => ⟨_, rfl, E.symm, ht⟩) (fun q hq => by cases hq) dX7_layerOf_118
  have E := E.trans (if_neg c_4)
  have fc_4 := i_ne c_4
  rw [q_109] at fc_4
  by_cases c_5 : a1 = 111
  · have E := E.trans (if_pos c_5)
    refine lv_tableIn (off := 107) (tgt := 108) hx hb dX7_layerOf_1 (by rw [c_5]; decide) (by rw [c_5]; decide) (by rw [c_5]; rfl) (by decide) ?_
    have fc_5 := i_eq c_5
    rw [q_111] at fc_5
    refine lv_iconst (v := 2) hx hb dX7_layerOf_108 (by decide) ?_
    exact W.iret (v := 2) hx hb hr (fun t ht hW => ⟨_, rfl, E.symm, ht⟩) (fun q hq => by cases hq) dX7_layerOf_109
  have E := E.trans (if_neg c_5)
  have fc_5 := i_ne c_5
  rw [q_111] at fc_5
  by_cases c_6 : a1 = 116
  · have E := E.trans (if_pos c_6)
    refine lv_tableIn (off := 113) (tgt := 114) hx hb dX7_layerOf_1 (by rw [c_6]; decide) (by rw [c_6]; decide) (by rw [c_6]; rfl) (by decide) ?_
    have fc_6 := i_eq c_6
    rw [q_116] at fc_6
    refine lv_iconst (v := 5) hx hb dX7_layerOf_114 (by decide) ?_
    exact W.iret (v := 5) hx hb hr (fun t ht hW => ⟨_, rfl, E.symm, ht⟩) (fun q hq => by cases hq) dX7_layerOf_115
  have E := E.trans (if_neg c_6)
  have fc_6 := i_ne c_6
  rw [q_116] at fc_6
  by_cases c_7 : a1 = 119
  · have E := E.trans (if_pos c_7)
    refine lv_tableIn (off := 109) (tgt := 110) hx hb dX7_layerOf_1 (by rw [c_7]; decide) (by rw [c_7]; decide) (by rw [c_7]; rfl) (by decide) ?_
    have fc_7 := i_eq c_7
    rw [q_119] at fc_7
    refine lv_iconst (v := 3) hx hb dX7_layerOf_110 (by decide) ?_
    exact W.iret (v := 3) hx hb hr (fun t ht hW => ⟨_, rfl, E.symm, ht⟩) (fun q hq => by cases hq) dX7_layerOf_111
  have E := E.trans (if_neg c_7)
  have fc_7 := i_ne c_7
  rw [q_119] at fc_7
  by_cases c_8 : a1 = 99
  · refine lv_tableIn (off := 118) (tgt := 119) hx hb dX7_layerOf_1 (by rw [c_8]; decide) (by rw [c_8]; decide) (by rw [c_8]; rfl) (by decide) ?_
    exact D_1 E
  have fc_8 := i_ne c_8
  rw [q_99] at fc_8
  by_cases c_9 : a1 = 100
  · refine lv_tableIn (off := 118) (tgt := 119) hx hb dX7_layerOf_1 (by rw [c_9]; decide) (by rw [c_9]; decide) (by rw [c_9]; rfl) (by decide) ?_
    exact D_1 E
  have fc_9 := i_ne c_9
  rw [q_100] at fc_9
  by_cases c_10 : a1 = 101
  · refine lv_tableIn (off := 118) (tgt := 119) hx hb dX7_layerOf_1 (by rw [c_10]; decide) (by rw [c_10]; decide) (by rw [c_10]; rfl) (by decide) ?_
    exact D_1 E
  have fc_10 := i_ne c_10
  rw [q_101] at fc_10
  by_cases c_11 : a1 = 102
  · refine lv_tableIn (off := 118) (tgt := 119) hx hb dX7_layerOf_1 (by rw [c_11]; decide) (by rw [c_11]; decide) (by rw [c_11]; rfl) (by decide) ?_
    exact D_1 E
  have fc_11 := i_ne c_11
  rw [q_102] at fc_11
  by_cases c_12 : a1 = 103
  · refine lv_tableIn (off := 118) (tgt := 119) hx hb dX7_layerOf_1 (by rw [c_12]; decide) (by rw [c_12]; decide) (by rw [c_12]; rfl) (by decide) ?_
    exact D_1 E
  have fc_12 := i_ne c_12
  rw [q_103] at fc_12
  by_cases c_13 : a1 = 105
  · refine lv_tableIn (off := 118) (tgt := 119) hx hb dX7_layerOf_1 (by rw [c_13]; decide) (by rw [c_13]; decide) (by rw [c_13]; rfl) (by decide) ?_
    exact D_1 E
  have fc_13 := i_ne c_13
  rw [q_105] at fc_13
  by_cases c_14 : a1 = 106
  · refine lv_tableIn (off := 118) (tgt := 119) hx hb dX7_layerOf_1 (by rw [c_14]; decide) (by rw [c_14]; decide) (by rw [c_14]; rfl) (by decide) ?_
    exact D_1 E
  have fc_14 := i_ne c_14
  rw [q_106] at fc_14
  by_cases c_15 : a1 = 107
  · refine lv_tableIn (off := 118) (tgt := 119) hx hb dX7_layerOf_1 (by rw [c_15]; decide) (by rw [c_15]; decide) (by rw [c_15]; rfl) (by decide) ?_
    exact D_1 E
  have fc_15 := i_ne c_15
  rw [q_107] at fc_15
  by_cases c_16 : a1 = 110
  · refine lv_tableIn (off := 118) (tgt := 119) hx hb dX7_layerOf_1 (by rw [c_16]; decide) (by rw [c_16]; decide) (by rw [c_16]; rfl) (by decide) ?_
    exact D_1 E
  have fc_16 := i_ne c_16
  rw [q_110] at fc_16
  by_cases c_17 : a1 = 112
  · refine lv_tableIn (off := 118) (tgt := 119) hx hb dX7_layerOf_1 (by rw [c_17]; decide) (by rw [c_17]; decide) (by rw [c_17]; rfl) (by decide) ?_
    exact D_1 E
  have fc_17 := i_ne c_17
  rw [q_112] at fc_17
  by_cases c_18 : a1 = 113
  · refine lv_tableIn (off := 118) (tgt := 119) hx hb dX7_layerOf_1 (by rw [c_18]; decide) (by rw [c_18]; decide) (by rw [c_18]; rfl) (by decide) ?_
    exact D_1 E
  have fc_18 := i_ne c_18
  rw [q_113] at fc_18
  by_cases c_19 : a1 = 114
  · refine lv_tableIn (off := 118) (tgt := 119) hx hb dX7_layerOf_1 (by rw [c_19]; decide) (by rw [c_19]; decide) (by rw [c_19]; rfl) (by decide) ?_
    exact D_1 E
  have fc_19 := i_ne c_19
  rw [q_114] at fc_19
  by_cases c_20 : a1 = 115
  · refine lv_tableIn (off := 118) (tgt := 119) hx hb dX7_layerOf_1 (by rw [c_20]; decide) (by rw [c_20]; decide) (by rw [c_20]; rfl) (by decide) ?_
    exact D_1 E
  have fc_20 := i_ne c_20
  rw [q_115] at fc_20
  by_cases c_21 : a1 = 117
  · refine lv_tableIn (off := 118) (tgt := 119) hx hb dX7_layerOf_1 (by rw [c_21]; decide) (by rw [c_21]; decide) (by rw [c_21]; rfl) (by decide) ?_
    exact D_1 E
  have fc_21 := i_ne c_21
  rw [q_117] at fc_21
  by_cases c_22 : a1 = 118
  · refine lv_tableIn (off := 118) (tgt := 119) hx hb dX7_layerOf_1 (by rw [c_22]; decide) (by rw [c_22]; decide) (by rw [c_22]; rfl) (by decide) ?_
    exact D_1 E
  have fc_22 := i_ne c_22
  rw [q_118] at fc_22
  refine lv_tableOut (tgt := 119) hx hb dX7_layerOf_1 (by omega) (by decide) ?_
  exact D_1 E
abbrev rmX7_pieceOf : Room := { frames := 0, cells := 0, slots := 0, locals := 0 }
set_option maxHeartbeats 4000000 in
set_option maxRecDepth 100000 in
theorem kX7_pieceOf (l : Launch)  (a1 : Int32)   : Met l yX7_pieceOf wsX7_pieceOf rmX7_pieceOf (va_Pc [Value.int a1] (fun U => True)) (vp_Si (fun r => r = sX7_pieceOf a1)) 0 0 (fun _ => False) := by
  refine Met.ofW (cc := cX7_pieceOf) (maxL := 1) (ret := (some .int)) (by decide) rfl ?_
  intro p e s m args below meth c s₁ B hml hv
  obtain ⟨rfl, -⟩ := hv
  have hx := B.exec
  have hb := B.bytes
  have hr := B.returns
  have hts := atoms_spec (ws := wsX7_pieceOf) B.pre
  have hown : s.vm.findClass RX7 = some m.cls := findClass_of_methodNamed B.named
  have hlocks := B.notSynchronized
  have hl := lv_entry ([.int a1]) (n := 1) (Nat.le_of_ble_eq_true rfl)
  rw [lg_entry_eq]
  generalize (lg_sl ([.int a1]) ++ List.replicate (1 - (lg_sl ([.int a1])).length) Slot.unset).toArray = ls at hl ⊢
  have hl : lv_has ls 1 [(0, .int a1)] := hl
  have E := sX7_pieceOf.eq_1 a1
  refine lv_iload_n hx hb dX7_pieceOf_0 rfl (lv_at hl 0 rfl) ?_
  have D_1 : sX7_pieceOf a1 = (-1) → W p l e (headSpec wsX7_pieceOf rmX7_pieceOf).room s m [Value.int a1].toArray below meth c s.heap [] 0 0 (MQ below (vp_Si (fun r => r = sX7_pieceOf a1)) [Value.int a1].toArray s 0 0 (fun _ => False)) (F0 m 100 ls []) := by
    intro E
    refine lv_iconst (v := (-1)) hx hb dX7_pieceOf_100 (by decide) ?_
    exact W.iret (v := (-1)) hx hb hr (fun t ht hW => ⟨_, rfl, E.symm, ht⟩) (fun q hq => by cases hq) dX7_pieceOf_101
  by_cases c_1 : a1 = 98
  · have E := E.trans (if_pos c_1)
    refine lv_tableIn (off := 93) (tgt := 94) hx hb dX7_pieceOf_1 (by rw [c_1]; decide) (by rw [c_1]; decide) (by rw [c_1]; rfl) (by decide) ?_
    have fc_1 := i_eq c_1
    rw [q_98] at fc_1
    refine lv_iconst (v := 3) hx hb dX7_pieceOf_94 (by decide) ?_
    exact W.iret (v := 3) hx hb hr (fun t ht hW => ⟨_, rfl, E.symm, ht⟩) (fun q hq => by cases hq) dX7_pieceOf_95
  have E := E.trans (if_neg c_1)
  have fc_1 := i_ne c_1
  rw [q_98] at fc_1
  by_cases c_2 : a1 = 100
  · have E := E.trans (if_pos c_2)
    refine lv_tableIn (off := 89) (tgt := 90) hx hb dX7_pieceOf_1 (by rw [c_2]; decide) (by rw [c_2]; decide) (by rw [c_2]; rfl) (by decide) ?_
    have fc_2 := i_eq c_2
    rw [q_100] at fc_2
    refine lv_iconst (v := 1) hx hb dX7_pieceOf_90 (by decide) ?_
    exact W.iret (v := 1) hx hb hr (fun t ht hW => ⟨_, rfl, E.symm, ht⟩) (fun q hq => by cases hq) dX7_pieceOf_91
  have E := E.trans (if_neg c_2)
  have fc_2 := i_ne c_2
  rw [q_100] at fc_2
  by_cases c_3 : a1 = 103
  · have E := E.trans (if_pos c_3)
    refine lv_tableIn (off := 97) (tgt := 98) hx hb dX7_pieceOf_1 (by rw [c_3]; decide) (by rw [c_3]; decide) (by rw [c_3]; rfl) (by decide) ?_
    have fc_3 := i_eq c_3
    rw [q_103] at fc_3
    refine lv_iconst (v := 5) hx hb dX7_pieceOf_98 (by decide) ?_
    exact W.iret (v := 5) hx hb hr (fun t ht hW => ⟨_, rfl, E.symm, ht⟩) (fun q hq => by cases hq) dX7_pieceOf_99
  have E := E.trans (if_neg c_3)
  have fc_3 := i_ne c_3
  rw [q_103] at fc_3
  by_cases c_4 : a1 = 106
  · have E := E.trans (if_pos c_4)
    refine lv_tableIn (off := 91) (tgt := 92) hx hb dX7_pieceOf_1 (by rw [c_4]; decide) (by rw [c_4]; decide) (by rw [c_4]; rfl) (by decide) ?_
    have fc_4 := i_eq c_4
    rw [q_106] at fc_4
    refine lv_iconst (v := 2) hx hb dX7_pieceOf_92 (by decide) ?_
    exact W.iret (v := 2) hx hb hr (fun t ht hW => ⟨_, rfl, E.symm, ht⟩) (fun q hq => by cases hq) dX7_pieceOf_93
  have E := E.trans (if_neg c_4)
  have fc_4 := i_ne c_4
  rw [q_106] at fc_4
  by_cases c_5 : a1 = 114
  · have E := E.trans (if_pos c_5)
    refine lv_tableIn (off := 95) (tgt := 96) hx hb dX7_pieceOf_1 (by rw [c_5]; decide) (by rw [c_5]; decide) (by rw [c_5]; rfl) (by decide) ?_
    have fc_5 := i_eq c_5
    rw [q_114] at fc_5
    refine lv_iconst (v := 4) hx hb dX7_pieceOf_96 (by decide) ?_
    exact W.iret (v := 4) hx hb hr (fun t ht hW => ⟨_, rfl, E.symm, ht⟩) (fun q hq => by cases hq) dX7_pieceOf_97
  have E := E.trans (if_neg c_5)
  have fc_5 := i_ne c_5
  rw [q_114] at fc_5
  by_cases c_6 : a1 = 115
  · have E := E.trans (if_pos c_6)
    refine lv_tableIn (off := 87) (tgt := 88) hx hb dX7_pieceOf_1 (by rw [c_6]; decide) (by rw [c_6]; decide) (by rw [c_6]; rfl) (by decide) ?_
    have fc_6 := i_eq c_6
    rw [q_115] at fc_6
    refine lv_iconst (v := 0) hx hb dX7_pieceOf_88 (by decide) ?_
    exact W.iret (v := 0) hx hb hr (fun t ht hW => ⟨_, rfl, E.symm, ht⟩) (fun q hq => by cases hq) dX7_pieceOf_89
  have E := E.trans (if_neg c_6)
  have fc_6 := i_ne c_6
  rw [q_115] at fc_6
  by_cases c_7 : a1 = 99
  · refine lv_tableIn (off := 99) (tgt := 100) hx hb dX7_pieceOf_1 (by rw [c_7]; decide) (by rw [c_7]; decide) (by rw [c_7]; rfl) (by decide) ?_
    exact D_1 E
  have fc_7 := i_ne c_7
  rw [q_99] at fc_7
  by_cases c_8 : a1 = 101
  · refine lv_tableIn (off := 99) (tgt := 100) hx hb dX7_pieceOf_1 (by rw [c_8]; decide) (by rw [c_8]; decide) (by rw [c_8]; rfl) (by decide) ?_
    exact D_1 E
  have fc_8 := i_ne c_8
  rw [q_101] at fc_8
  by_cases c_9 : a1 = 102
  · refine lv_tableIn (off := 99) (tgt := 100) hx hb dX7_pieceOf_1 (by rw [c_9]; decide) (by rw [c_9]; decide) (by rw [c_9]; rfl) (by decide) ?_
    exact D_1 E
  have fc_9 := i_ne c_9
  rw [q_102] at fc_9
  by_cases c_10 : a1 = 104
  · refine lv_tableIn (off := 99) (tgt := 100) hx hb dX7_pieceOf_1 (by rw [c_10]; decide) (by rw [c_10]; decide) (by rw [c_10]; rfl) (by decide) ?_
    exact D_1 E
  have fc_10 := i_ne c_10
  rw [q_104] at fc_10
  by_cases c_11 : a1 = 105
  · refine lv_tableIn (off := 99) (tgt := 100) hx hb dX7_pieceOf_1 (by rw [c_11]; decide) (by rw [c_11]; decide) (by rw [c_11]; rfl) (by decide) ?_
    exact D_1 E
  have fc_11 := i_ne c_11
  rw [q_105] at fc_11
  by_cases c_12 : a1 = 107
  · refine lv_tableIn (off := 99) (tgt := 100) hx hb dX7_pieceOf_1 (by rw [c_12]; decide) (by rw [c_12]; decide) (by rw [c_12]; rfl) (by decide) ?_
    exact D_1 E
  have fc_12 := i_ne c_12
  rw [q_107] at fc_12
  by_cases c_13 : a1 = 108
  · refine lv_tableIn (off := 99) (tgt := 100) hx hb dX7_pieceOf_1 (by rw [c_13]; decide) (by rw [c_13]; decide) (by rw [c_13]; rfl) (by decide) ?_
    exact D_1 E
  have fc_13 := i_ne c_13
  rw [q_108] at fc_13
  by_cases c_14 : a1 = 109
  · refine lv_tableIn (off := 99) (tgt := 100) hx hb dX7_pieceOf_1 (by rw [c_14]; decide) (by rw [c_14]; decide) (by rw [c_14]; rfl) (by decide) ?_
    exact D_1 E
  have fc_14 := i_ne c_14
  rw [q_109] at fc_14
  by_cases c_15 : a1 = 110
  · refine lv_tableIn (off := 99) (tgt := 100) hx hb dX7_pieceOf_1 (by rw [c_15]; decide) (by rw [c_15]; decide) (by rw [c_15]; rfl) (by decide) ?_
    exact D_1 E
  have fc_15 := i_ne c_15
  rw [q_110] at fc_15
  by_cases c_16 : a1 = 111
  · refine lv_tableIn (off := 99) (tgt := 100) hx hb dX7_pieceOf_1 (by rw [c_16]; decide) (by rw [c_16]; decide) (by rw [c_16]; rfl) (by decide) ?_
    exact D_1 E
  have fc_16 := i_ne c_16
  rw [q_111] at fc_16
  by_cases c_17 : a1 = 112
  · refine lv_tableIn (off := 99) (tgt := 100) hx hb dX7_pieceOf_1 (by rw [c_17]; decide) (by rw [c_17]; decide) (by rw [c_17]; rfl) (by decide) ?_
    exact D_1 E
  have fc_17 := i_ne c_17
  rw [q_112] at fc_17
  by_cases c_18 : a1 = 113
  · refine lv_tableIn (off := 99) (tgt := 100) hx hb dX7_pieceOf_1 (by rw [c_18]; decide) (by rw [c_18]; decide) (by rw [c_18]; rfl) (by decide) ?_
    exact D_1 E
  have fc_18 := i_ne c_18
  rw [q_113] at fc_18
  refine lv_tableOut (tgt := 100) hx hb dX7_pieceOf_1 (by omega) (by decide) ?_
  exact D_1 E
abbrev rmX7_atLeast0 : Room := { frames := 0, cells := 0, slots := 0, locals := 0 }
set_option maxHeartbeats 4000000 in
set_option maxRecDepth 100000 in
theorem kX7_atLeast0 (l : Launch)  (a1 : Int32)   : Met l yX7_atLeast0 wsX7_atLeast0 rmX7_atLeast0 (va_Pc [Value.int a1] (fun U => True)) (vp_Si (fun r => r = sX7_atLeast0 a1)) 0 0 (fun _ => False) := by
  refine Met.ofW (cc := cX7_atLeast0) (maxL := 1) (ret := (some .int)) (by decide) rfl ?_
  intro p e s m args below meth c s₁ B hml hv
  obtain ⟨rfl, -⟩ := hv
  have hx := B.exec
  have hb := B.bytes
  have hr := B.returns
  have hts := atoms_spec (ws := wsX7_atLeast0) B.pre
  have hown : s.vm.findClass RX7 = some m.cls := findClass_of_methodNamed B.named
  have hlocks := B.notSynchronized
  have hl := lv_entry ([.int a1]) (n := 1) (Nat.le_of_ble_eq_true rfl)
  rw [lg_entry_eq]
  generalize (lg_sl ([.int a1]) ++ List.replicate (1 - (lg_sl ([.int a1])).length) Slot.unset).toArray = ls at hl ⊢
  have hl : lv_has ls 1 [(0, .int a1)] := hl
  have E := sX7_atLeast0.eq_1 a1
  refine lv_iload_n hx hb dX7_atLeast0_0 rfl (lv_at hl 0 rfl) ?_
  refine lv_if_ge (tgt := 8) hx hb dX7_atLeast0_1 (by decide) (fun c_1 => ?_) (fun c_1 => ?_)
  · have E := E.trans (if_pos c_1)
    have fc_1 := i_le c_1
    rw [q_0] at fc_1
    refine lv_iload_n hx hb dX7_atLeast0_8 rfl (lv_at hl 0 rfl) ?_
    exact W.iret (v := a1) hx hb hr (fun t ht hW => ⟨_, rfl, E.symm, ht⟩) (fun q hq => by cases hq) dX7_atLeast0_9
  · have E := E.trans (if_neg c_1)
    have fc_1 := i_nle c_1
    rw [q_0] at fc_1
    refine lv_iconst (v := 0) hx hb dX7_atLeast0_4 (by decide) ?_
    refine lv_goto (tgt := 9) hx hb dX7_atLeast0_5 (by decide) ?_
    exact W.iret (v := 0) hx hb hr (fun t ht hW => ⟨_, rfl, E.symm, ht⟩) (fun q hq => by cases hq) dX7_atLeast0_9
abbrev rmX7_mostOf : Room := { frames := 0, cells := 0, slots := 0, locals := 0 }
set_option maxHeartbeats 4000000 in
set_option maxRecDepth 100000 in
theorem kX7_mostOf (l : Launch)  (a1 : Int32)   : Met l yX7_mostOf wsX7_mostOf rmX7_mostOf (va_Pc [Value.int a1] (fun U => True)) (vp_Si (fun r => r = sX7_mostOf a1)) 0 0 (fun _ => False) := by
  refine Met.ofW (cc := cX7_mostOf) (maxL := 1) (ret := (some .int)) (by decide) rfl ?_
  intro p e s m args below meth c s₁ B hml hv
  obtain ⟨rfl, -⟩ := hv
  have hx := B.exec
  have hb := B.bytes
  have hr := B.returns
  have hts := atoms_spec (ws := wsX7_mostOf) B.pre
  have hown : s.vm.findClass RX7 = some m.cls := findClass_of_methodNamed B.named
  have hlocks := B.notSynchronized
  have hl := lv_entry ([.int a1]) (n := 1) (Nat.le_of_ble_eq_true rfl)
  rw [lg_entry_eq]
  generalize (lg_sl ([.int a1]) ++ List.replicate (1 - (lg_sl ([.int a1])).length) Slot.unset).toArray = ls at hl ⊢
  have hl : lv_has ls 1 [(0, .int a1)] := hl
  have E := sX7_mostOf.eq_1 a1
  refine lv_iload_n hx hb dX7_mostOf_0 rfl (lv_at hl 0 rfl) ?_
  refine lv_if_ne (tgt := 8) hx hb dX7_mostOf_1 (by decide) (fun c_1 => ?_) (fun c_1 => ?_)
  · have E := E.trans (if_neg c_1)
    have fc_1 := i_ne c_1
    rw [q_0] at fc_1
    refine lv_iload_n hx hb dX7_mostOf_8 rfl (lv_at hl 0 rfl) ?_
    refine lv_iconst (v := 3) hx hb dX7_mostOf_9 (by decide) ?_
    refine lv_icmp_ne (tgt := 19) hx hb dX7_mostOf_10 (by decide) (fun c_2 => ?_) (fun c_2 => ?_)
    · have E := E.trans (if_neg c_2)
      have fc_2 := i_ne c_2
      rw [q_3] at fc_2
      refine lv_bipush (v := 9) hx hb dX7_mostOf_19 (by decide +kernel) ?_
      exact W.iret (v := 9) hx hb hr (fun t ht hW => ⟨_, rfl, E.symm, ht⟩) (fun q hq => by cases hq) dX7_mostOf_21
    · have E := E.trans (if_pos c_2)
      have fc_2 := i_eq c_2
      rw [q_3] at fc_2
      refine lv_sipush (v := 999) hx hb dX7_mostOf_13 (by decide +kernel) ?_
      refine lv_goto (tgt := 21) hx hb dX7_mostOf_16 (by decide) ?_
      exact W.iret (v := 999) hx hb hr (fun t ht hW => ⟨_, rfl, E.symm, ht⟩) (fun q hq => by cases hq) dX7_mostOf_21
  · have E := E.trans (if_pos c_1)
    have fc_1 := i_eq c_1
    rw [q_0] at fc_1
    refine lv_iconst (v := 5) hx hb dX7_mostOf_4 (by decide) ?_
    refine lv_goto (tgt := 21) hx hb dX7_mostOf_5 (by decide) ?_
    exact W.iret (v := 5) hx hb hr (fun t ht hW => ⟨_, rfl, E.symm, ht⟩) (fun q hq => by cases hq) dX7_mostOf_21
abbrev rmX7_heldLean : Room := { frames := 0, cells := 0, slots := 0, locals := 0 }
set_option maxHeartbeats 4000000 in
set_option maxRecDepth 100000 in
theorem kX7_heldLean (l : Launch)  (a1 : Int32)   : Met l yX7_heldLean wsX7_heldLean rmX7_heldLean (va_Pc [Value.int a1] (fun U => True)) (vp_Si (fun r => r = sX7_heldLean a1)) 0 0 (fun _ => False) := by
  refine Met.ofW (cc := cX7_heldLean) (maxL := 1) (ret := (some .int)) (by decide) rfl ?_
  intro p e s m args below meth c s₁ B hml hv
  obtain ⟨rfl, -⟩ := hv
  have hx := B.exec
  have hb := B.bytes
  have hr := B.returns
  have hts := atoms_spec (ws := wsX7_heldLean) B.pre
  have hown : s.vm.findClass RX7 = some m.cls := findClass_of_methodNamed B.named
  have hlocks := B.notSynchronized
  have hl := lv_entry ([.int a1]) (n := 1) (Nat.le_of_ble_eq_true rfl)
  rw [lg_entry_eq]
  generalize (lg_sl ([.int a1]) ++ List.replicate (1 - (lg_sl ([.int a1])).length) Slot.unset).toArray = ls at hl ⊢
  have hl : lv_has ls 1 [(0, .int a1)] := hl
  have E := sX7_heldLean.eq_1 a1
  refine lv_iload_n hx hb dX7_heldLean_0 rfl (lv_at hl 0 rfl) ?_
  refine lv_bipush (v := (-5)) hx hb dX7_heldLean_1 (by decide +kernel) ?_
  refine lv_icmp_ge (tgt := 11) hx hb dX7_heldLean_3 (by decide) (fun c_1 => ?_) (fun c_1 => ?_)
  · have E := E.trans (if_pos c_1)
    have fc_1 := i_le c_1
    rw [q_m5] at fc_1
    refine lv_iload_n hx hb dX7_heldLean_11 rfl (lv_at hl 0 rfl) ?_
    refine lv_iconst (v := 5) hx hb dX7_heldLean_12 (by decide) ?_
    refine lv_icmp_le (tgt := 20) hx hb dX7_heldLean_13 (by decide) (fun c_2 => ?_) (fun c_2 => ?_)
    · have E := E.trans (if_pos c_2)
      have fc_2 := i_le c_2
      rw [q_5] at fc_2
      refine lv_iload_n hx hb dX7_heldLean_20 rfl (lv_at hl 0 rfl) ?_
      exact W.iret (v := a1) hx hb hr (fun t ht hW => ⟨_, rfl, E.symm, ht⟩) (fun q hq => by cases hq) dX7_heldLean_21
    · have E := E.trans (if_neg c_2)
      have fc_2 := i_nle c_2
      rw [q_5] at fc_2
      refine lv_iconst (v := 5) hx hb dX7_heldLean_16 (by decide) ?_
      refine lv_goto (tgt := 21) hx hb dX7_heldLean_17 (by decide) ?_
      exact W.iret (v := 5) hx hb hr (fun t ht hW => ⟨_, rfl, E.symm, ht⟩) (fun q hq => by cases hq) dX7_heldLean_21
  · have E := E.trans (if_neg c_1)
    have fc_1 := i_nle c_1
    rw [q_m5] at fc_1
    refine lv_bipush (v := (-5)) hx hb dX7_heldLean_6 (by decide +kernel) ?_
    refine lv_goto (tgt := 21) hx hb dX7_heldLean_8 (by decide) ?_
    exact W.iret (v := (-5)) hx hb hr (fun t ht hW => ⟨_, rfl, E.symm, ht⟩) (fun q hq => by cases hq) dX7_heldLean_21
abbrev rmX7_isWay : Room := { frames := 0, cells := 0, slots := 0, locals := 0 }
set_option maxHeartbeats 4000000 in
set_option maxRecDepth 100000 in
theorem kX7_isWay (l : Launch)  (a1 : Int32)   : Met l yX7_isWay wsX7_isWay rmX7_isWay (va_Pc [Value.int a1] (fun U => True)) (vp_Si (fun r => r = sX7_isWay a1 ∧ (r = 0 ∨ r = 1))) 0 0 (fun _ => False) := by
  refine Met.ofW (cc := cX7_isWay) (maxL := 1) (ret := (some .boolean)) (by decide) rfl ?_
  intro p e s m args below meth c s₁ B hml hv
  obtain ⟨rfl, -⟩ := hv
  have hx := B.exec
  have hb := B.bytes
  have hr := B.returns
  have hts := atoms_spec (ws := wsX7_isWay) B.pre
  have hown : s.vm.findClass RX7 = some m.cls := findClass_of_methodNamed B.named
  have hlocks := B.notSynchronized
  have hl := lv_entry ([.int a1]) (n := 1) (Nat.le_of_ble_eq_true rfl)
  rw [lg_entry_eq]
  generalize (lg_sl ([.int a1]) ++ List.replicate (1 - (lg_sl ([.int a1])).length) Slot.unset).toArray = ls at hl ⊢
  have hl : lv_has ls 1 [(0, .int a1)] := hl
  have E := sX7_isWay.eq_1 a1
  refine lv_iload_n hx hb dX7_isWay_0 rfl (lv_at hl 0 rfl) ?_
  refine lv_if_eq (tgt := 9) hx hb dX7_isWay_1 (by decide) (fun c_1 => ?_) (fun c_1 => ?_)
  · have E := E.trans (if_pos c_1)
    have fc_1 := i_eq c_1
    rw [q_0] at fc_1
    refine lv_iconst (v := 1) hx hb dX7_isWay_9 (by decide) ?_
    refine lv_goto (tgt := 14) hx hb dX7_isWay_10 (by decide) ?_
    exact W.zret (ty := .boolean) (v := 1) hx hb hr (z_nar (Or.inr rfl)) (fun t ht hW => ⟨_, rfl, ⟨E.symm, (Or.inr rfl)⟩, ht⟩) (fun q hq => by cases hq) dX7_isWay_14
  · have E := E.trans (if_neg c_1)
    have fc_1 := i_ne c_1
    rw [q_0] at fc_1
    refine lv_iload_n hx hb dX7_isWay_4 rfl (lv_at hl 0 rfl) ?_
    refine lv_iconst (v := 1) hx hb dX7_isWay_5 (by decide) ?_
    refine lv_icmp_ne (tgt := 13) hx hb dX7_isWay_6 (by decide) (fun c_2 => ?_) (fun c_2 => ?_)
    · have E := E.trans (if_neg c_2)
      have fc_2 := i_ne c_2
      rw [q_1] at fc_2
      refine lv_iconst (v := 0) hx hb dX7_isWay_13 (by decide) ?_
      exact W.zret (ty := .boolean) (v := 0) hx hb hr (z_nar (Or.inl rfl)) (fun t ht hW => ⟨_, rfl, ⟨E.symm, (Or.inl rfl)⟩, ht⟩) (fun q hq => by cases hq) dX7_isWay_14
    · have E := E.trans (if_pos c_2)
      have fc_2 := i_eq c_2
      rw [q_1] at fc_2
      refine lv_iconst (v := 1) hx hb dX7_isWay_9 (by decide) ?_
      refine lv_goto (tgt := 14) hx hb dX7_isWay_10 (by decide) ?_
      exact W.zret (ty := .boolean) (v := 1) hx hb hr (z_nar (Or.inr rfl)) (fun t ht hW => ⟨_, rfl, ⟨E.symm, (Or.inr rfl)⟩, ht⟩) (fun q hq => by cases hq) dX7_isWay_14
abbrev rmX7_isLayer : Room := { frames := 0, cells := 0, slots := 0, locals := 0 }
set_option maxHeartbeats 4000000 in
set_option maxRecDepth 100000 in
theorem kX7_isLayer (l : Launch) (D : va_G) (cI : ClassId) (ad : Nat → Nat) (w : Nat → Nat → Int32) (a1 : Int32)   : Met l yX7_isLayer wsX7_isLayer rmX7_isLayer (va_Pc [Value.ref (ad 0), Value.int a1] (fun U => va_P D vwCl (RM cI ad w) U.heap ∧ va_K D vwCl [(cI, .int)] U)) (vp_Si (fun r => r = sX7_isLayer w a1 ∧ (r = 0 ∨ r = 1))) 0 0 (fun _ => False) := by
  refine Met.ofW (cc := cX7_isLayer) (maxL := 2) (ret := (some .boolean)) (by decide) rfl ?_
  intro p e s m args below meth c s₁ B hml hv
  obtain ⟨rfl, hP, hK⟩ := hv
  have hx := B.exec
  have hb := B.bytes
  have hr := B.returns
  have hts := atoms_spec (ws := wsX7_isLayer) B.pre
  have hown : s.vm.findClass RX7 = some m.cls := findClass_of_methodNamed B.named
  have hlocks := B.notSynchronized
  have hin : ∀ q ∈ wsX70, q ∈ wsX7_isLayer := by decide +kernel
  have hl := lv_entry ([.ref (ad 0), .int a1]) (n := 2) (Nat.le_of_ble_eq_true rfl)
  rw [lg_entry_eq]
  generalize (lg_sl ([.ref (ad 0), .int a1]) ++ List.replicate (2 - (lg_sl ([.ref (ad 0), .int a1])).length) Slot.unset).toArray = ls at hl ⊢
  have hl : lv_has ls 2 [(0, .ref (ad 0)), (1, .int a1)] := hl
  have E := sX7_isLayer.eq_1 w a1
  refine lv_iload_n hx hb dX7_isLayer_0 rfl (lv_at hl 1 rfl) ?_
  refine lv_if_lt (tgt := 16) hx hb dX7_isLayer_1 (by decide) (fun c_1 => ?_) (fun c_1 => ?_)
  · have E := E.trans (if_pos c_1)
    have fc_1 := i_lt c_1
    rw [q_0] at fc_1
    refine lv_iconst (v := 0) hx hb dX7_isLayer_16 (by decide) ?_
    exact W.zret (ty := .boolean) (v := 0) hx hb hr (z_nar (Or.inl rfl)) (fun t ht hW => ⟨_, rfl, ⟨E.symm, (Or.inl rfl)⟩, ht⟩) (fun q hq => by cases hq) dX7_isLayer_17
  · have E := E.trans (if_neg c_1)
    have fc_1 := i_nlt c_1
    rw [q_0] at fc_1
    refine lv_iload_n hx hb dX7_isLayer_4 rfl (lv_at hl 1 rfl) ?_
    refine lv_aload_n hx hb dX7_isLayer_5 rfl (lv_at hl 0 rfl) ?_
    refine g7_layers hx hb hts hin hown hK hP (hts (.fieldLink RX7 67 "LoadedForTheLaneModel" "layers" "I") (by decide +kernel)) dX7_isLayer_6 ?_
    refine lv_icmp_ge (tgt := 16) hx hb dX7_isLayer_9 (by decide) (fun c_2 => ?_) (fun c_2 => ?_)
    · have E := E.trans (if_pos c_2)
      have fc_2 := i_le c_2
      refine lv_iconst (v := 0) hx hb dX7_isLayer_16 (by decide) ?_
      exact W.zret (ty := .boolean) (v := 0) hx hb hr (z_nar (Or.inl rfl)) (fun t ht hW => ⟨_, rfl, ⟨E.symm, (Or.inl rfl)⟩, ht⟩) (fun q hq => by cases hq) dX7_isLayer_17
    · have E := E.trans (if_neg c_2)
      have fc_2 := i_nle c_2
      refine lv_iconst (v := 1) hx hb dX7_isLayer_12 (by decide) ?_
      refine lv_goto (tgt := 17) hx hb dX7_isLayer_13 (by decide) ?_
      exact W.zret (ty := .boolean) (v := 1) hx hb hr (z_nar (Or.inr rfl)) (fun t ht hW => ⟨_, rfl, ⟨E.symm, (Or.inr rfl)⟩, ht⟩) (fun q hq => by cases hq) dX7_isLayer_17
abbrev rmX7_isPiece : Room := { frames := 1, cells := 0, slots := 0, locals := 20 }
set_option maxHeartbeats 4000000 in
set_option maxRecDepth 100000 in
theorem kX7_isPiece (l : Launch) (D : va_G) (cI : ClassId) (ad : Nat → Nat) (w : Nat → Nat → Int32) (a1 : Int32) (a2 : Int32)   : Met l yX7_isPiece wsX7_isPiece rmX7_isPiece (va_Pc [Value.ref (ad 0), Value.int a1, Value.int a2] (fun U => va_P D vwCl (RM cI ad w) U.heap ∧ va_K D vwCl [(cI, .int)] U)) (vp_Si (fun r => r = sX7_isPiece w a1 a2 ∧ (r = 0 ∨ r = 1))) 0 0 (fun _ => False) := by
  refine Met.ofW (cc := cX7_isPiece) (maxL := 3) (ret := (some .boolean)) (by decide) rfl ?_
  intro p e s m args below meth c s₁ B hml hv
  obtain ⟨rfl, hP, hK⟩ := hv
  have hx := B.exec
  have hb := B.bytes
  have hr := B.returns
  have hts := atoms_spec (ws := wsX7_isPiece) B.pre
  have hown : s.vm.findClass RX7 = some m.cls := findClass_of_methodNamed B.named
  have hlocks := B.notSynchronized
  have hin : ∀ q ∈ wsX70, q ∈ wsX7_isPiece := by decide +kernel
  have hl := lv_entry ([.ref (ad 0), .int a1, .int a2]) (n := 3) (Nat.le_of_ble_eq_true rfl)
  rw [lg_entry_eq]
  generalize (lg_sl ([.ref (ad 0), .int a1, .int a2]) ++ List.replicate (3 - (lg_sl ([.ref (ad 0), .int a1, .int a2])).length) Slot.unset).toArray = ls at hl ⊢
  have hl : lv_has ls 3 [(0, .ref (ad 0)), (1, .int a1), (2, .int a2)] := hl
  have E := sX7_isPiece.eq_1 w a1 a2
  refine lv_iload_n hx hb dX7_isPiece_0 rfl (lv_at hl 1 rfl) ?_
  refine vp_callSi (va_Run.run (va_runS (As := [.int a1]) (rest := []) ⟨hx, hb, hml, hown, hts⟩ (kX7_isWay l a1) (va_cwS 1 hts gX7_isPiece_X7_isWay rfl rfl rfl mdX7_isWay ⟨Nat.le_of_ble_eq_true rfl, Nat.le_of_ble_eq_true rfl⟩) s_pre rfl rfl hl.1 rfl (lv_room (Nat.le_of_ble_eq_true rfl)) dX7_isPiece_1 ⟨Nat.zero_le _, Nat.zero_le _⟩)) (fun r_1 hr_1 => ?_)
  obtain ⟨rfl, hz_1⟩ := hr_1
  refine lv_if_eq (tgt := 25) hx hb dX7_isPiece_4 (by decide) (fun c_2 => ?_) (fun c_2 => ?_)
  · have E := E.trans (if_pos c_2)
    have fc_2 := i_eq c_2
    rw [q_0] at fc_2
    refine lv_iconst (v := 0) hx hb dX7_isPiece_25 (by decide) ?_
    exact W.zret (ty := .boolean) (v := 0) hx hb hr (z_nar (Or.inl rfl)) (fun t ht hW => ⟨_, rfl, ⟨E.symm, (Or.inl rfl)⟩, ht⟩) (fun q hq => by cases hq) dX7_isPiece_26
  · have E := E.trans (if_neg c_2)
    have fc_2 := i_ne c_2
    rw [q_0] at fc_2
    have gc_2 := fX7_isWay c_2
    refine lv_iload_n hx hb dX7_isPiece_7 rfl (lv_at hl 2 rfl) ?_
    refine lv_if_lt (tgt := 25) hx hb dX7_isPiece_8 (by decide) (fun c_3 => ?_) (fun c_3 => ?_)
    · have E := E.trans (if_pos c_3)
      have fc_3 := i_lt c_3
      rw [q_0] at fc_3
      refine lv_iconst (v := 0) hx hb dX7_isPiece_25 (by decide) ?_
      exact W.zret (ty := .boolean) (v := 0) hx hb hr (z_nar (Or.inl rfl)) (fun t ht hW => ⟨_, rfl, ⟨E.symm, (Or.inl rfl)⟩, ht⟩) (fun q hq => by cases hq) dX7_isPiece_26
    · have E := E.trans (if_neg c_3)
      have fc_3 := i_nlt c_3
      rw [q_0] at fc_3
      refine lv_iload_n hx hb dX7_isPiece_11 rfl (lv_at hl 2 rfl) ?_
      refine lv_aload_n hx hb dX7_isPiece_12 rfl (lv_at hl 0 rfl) ?_
      refine g7_pieces hx hb hts hin hown hK hP (hts (.fieldLink RX7 40 "LoadedForTheLaneModel" "pieces" "[I") (by decide +kernel)) dX7_isPiece_13 ?_
      refine lv_iload_n hx hb dX7_isPiece_16 rfl (lv_at hl 1 rfl) ?_
      have ix_4 : vp_in a1 2 := ix_of (by omega) (by omega)
      refine l7_pieces (j := a1.toNatClampNeg) hx hb hK hP ix_4 rfl dX7_isPiece_17 ?_
      refine lv_icmp_ge (tgt := 25) hx hb dX7_isPiece_18 (by decide) (fun c_5 => ?_) (fun c_5 => ?_)
      · have E := E.trans (if_pos c_5)
        have fc_5 := i_le c_5
        refine lv_iconst (v := 0) hx hb dX7_isPiece_25 (by decide) ?_
        exact W.zret (ty := .boolean) (v := 0) hx hb hr (z_nar (Or.inl rfl)) (fun t ht hW => ⟨_, rfl, ⟨E.symm, (Or.inl rfl)⟩, ht⟩) (fun q hq => by cases hq) dX7_isPiece_26
      · have E := E.trans (if_neg c_5)
        have fc_5 := i_nle c_5
        refine lv_iconst (v := 1) hx hb dX7_isPiece_21 (by decide) ?_
        refine lv_goto (tgt := 26) hx hb dX7_isPiece_22 (by decide) ?_
        exact W.zret (ty := .boolean) (v := 1) hx hb hr (z_nar (Or.inr rfl)) (fun t ht hW => ⟨_, rfl, ⟨E.symm, (Or.inr rfl)⟩, ht⟩) (fun q hq => by cases hq) dX7_isPiece_26
abbrev rmX7_next : Room := { frames := 0, cells := 0, slots := 0, locals := 0 }
set_option maxHeartbeats 4000000 in
set_option maxRecDepth 100000 in
theorem kX7_next (l : Launch) (D : va_G) (cI : ClassId) (ad : Nat → Nat) (w : Nat → Nat → Int32)  (hI : R7I w)  : Met l yX7_next wsX7_next rmX7_next (va_Pc [Value.ref (ad 0)] (fun U => va_P D vwCl (RM cI ad w) U.heap ∧ va_K D vwCl [(cI, .int)] U)) (vp_Si (fun r => r = sX7_next w)) 0 0 (fun _ => False) := by
  refine Met.ofW (cc := cX7_next) (maxL := 1) (ret := (some .int)) (by decide) rfl ?_
  intro p e s m args below meth c s₁ B hml hv
  obtain ⟨rfl, hP, hK⟩ := hv
  have hx := B.exec
  have hb := B.bytes
  have hr := B.returns
  have hts := atoms_spec (ws := wsX7_next) B.pre
  have hown : s.vm.findClass RX7 = some m.cls := findClass_of_methodNamed B.named
  have hlocks := B.notSynchronized
  have hin : ∀ q ∈ wsX70, q ∈ wsX7_next := by decide +kernel
  have hl := lv_entry ([.ref (ad 0)]) (n := 1) (Nat.le_of_ble_eq_true rfl)
  rw [lg_entry_eq]
  generalize (lg_sl ([.ref (ad 0)]) ++ List.replicate (1 - (lg_sl ([.ref (ad 0)])).length) Slot.unset).toArray = ls at hl ⊢
  have hl : lv_has ls 1 [(0, .ref (ad 0))] := hl
  have E := sX7_next.eq_1 w
  refine lv_aload_n hx hb dX7_next_0 rfl (lv_at hl 0 rfl) ?_
  refine g7_at hx hb hts hin hown hK hP (hts (.fieldLink RX7 86 "LoadedForTheLaneModel" "at" "I") (by decide +kernel)) dX7_next_1 ?_
  have f_1 := R7I_at hI
  refine lv_aload_n hx hb dX7_next_4 rfl (lv_at hl 0 rfl) ?_
  refine g7_taped hx hb hts hin hown hK hP (hts (.fieldLink RX7 79 "LoadedForTheLaneModel" "taped" "I") (by decide +kernel)) dX7_next_5 ?_
  have f_2 := R7I_taped hI
  refine lv_icmp_ge (tgt := 23) hx hb dX7_next_8 (by decide) (fun c_3 => ?_) (fun c_3 => ?_)
  · have E := E.trans (if_pos c_3)
    have fc_3 := i_le c_3
    refine lv_iconst (v := (-1)) hx hb dX7_next_23 (by decide) ?_
    exact W.iret (v := (-1)) hx hb hr (fun t ht hW => ⟨_, rfl, E.symm, ht⟩) (fun q hq => by cases hq) dX7_next_24
  · have E := E.trans (if_neg c_3)
    have fc_3 := i_nle c_3
    refine lv_aload_n hx hb dX7_next_11 rfl (lv_at hl 0 rfl) ?_
    refine g7_tape hx hb hts hin hown hK hP (hts (.fieldLink RX7 43 "LoadedForTheLaneModel" "tape" "[I") (by decide +kernel)) dX7_next_12 ?_
    refine lv_aload_n hx hb dX7_next_15 rfl (lv_at hl 0 rfl) ?_
    refine g7_at hx hb hts hin hown hK hP (hts (.fieldLink RX7 86 "LoadedForTheLaneModel" "at" "I") (by decide +kernel)) dX7_next_16 ?_
    have f_4 := R7I_at hI
    have ix_5 : vp_in (w 17 0) 96 := ix_of (by omega) (by omega)
    refine l7_tape (j := (w 17 0).toNatClampNeg) hx hb hK hP ix_5 rfl dX7_next_19 ?_
    refine lv_goto (tgt := 24) hx hb dX7_next_20 (by decide) ?_
    exact W.iret (v := w 12 ((w 17 0).toNatClampNeg)) hx hb hr (fun t ht hW => ⟨_, rfl, E.symm, ht⟩) (fun q hq => by cases hq) dX7_next_24
abbrev rmX7_weightOf : Room := { frames := 0, cells := 0, slots := 0, locals := 0 }
set_option maxHeartbeats 4000000 in
set_option maxRecDepth 100000 in
theorem kX7_weightOf (l : Launch) (D : va_G) (cI : ClassId) (ad : Nat → Nat) (w : Nat → Nat → Int32) (a1 : Int32)  (h1 : 0 ≤ a1.toInt) (h2 : a1.toInt < 12) : Met l yX7_weightOf wsX7_weightOf rmX7_weightOf (va_Pc [Value.ref (ad 0), Value.int a1] (fun U => va_P D vwCl (RM cI ad w) U.heap ∧ va_K D vwCl [(cI, .int)] U)) (vp_Si (fun r => r = sX7_weightOf w a1)) 0 0 (fun _ => False) := by
  refine Met.ofW (cc := cX7_weightOf) (maxL := 3) (ret := (some .int)) (by decide) rfl ?_
  intro p e s m args below meth c s₁ B hml hv
  obtain ⟨rfl, hP, hK⟩ := hv
  have hx := B.exec
  have hb := B.bytes
  have hr := B.returns
  have hts := atoms_spec (ws := wsX7_weightOf) B.pre
  have hown : s.vm.findClass RX7 = some m.cls := findClass_of_methodNamed B.named
  have hlocks := B.notSynchronized
  have hin : ∀ q ∈ wsX70, q ∈ wsX7_weightOf := by decide +kernel
  have hl := lv_entry ([.ref (ad 0), .int a1]) (n := 3) (Nat.le_of_ble_eq_true rfl)
  rw [lg_entry_eq]
  generalize (lg_sl ([.ref (ad 0), .int a1]) ++ List.replicate (3 - (lg_sl ([.ref (ad 0), .int a1])).length) Slot.unset).toArray = ls at hl ⊢
  have hl : lv_has ls 3 [(0, .ref (ad 0)), (1, .int a1)] := hl
  have E := sX7_weightOf.eq_1 w a1
  refine lv_aload_n hx hb dX7_weightOf_0 rfl (lv_at hl 0 rfl) ?_
  refine g7_kind hx hb hts hin hown hK hP (hts (.fieldLink RX7 16 "LoadedForTheLaneModel" "kind" "[I") (by decide +kernel)) dX7_weightOf_1 ?_
  refine lv_iload_n hx hb dX7_weightOf_4 rfl (lv_at hl 1 rfl) ?_
  have ix_1 : vp_in a1 12 := ix_of (by omega) (by omega)
  refine l7_kind (j := a1.toNatClampNeg) hx hb hK hP ix_1 rfl dX7_weightOf_5 ?_
  refine lv_iconst (v := 3) hx hb dX7_weightOf_6 (by decide) ?_
  refine lv_icmp_eq (tgt := 21) hx hb dX7_weightOf_7 (by decide) (fun c_2 => ?_) (fun c_2 => ?_)
  · have E := E.trans (if_pos c_2)
    have fc_2 := i_eq c_2
    rw [q_3] at fc_2
    refine lv_iconst (v := 1) hx hb dX7_weightOf_21 (by decide) ?_
    refine lv_goto (tgt := 26) hx hb dX7_weightOf_22 (by decide) ?_
    refine lv_istore_n (lv' := [(2, .int 1), (0, .ref (ad 0)), (1, .int a1)]) hx hb dX7_weightOf_26 rfl hl (by decide) rfl (fun ls hl => ?_)
    refine lv_iload_n hx hb dX7_weightOf_27 rfl (lv_at hl 0 rfl) ?_
    refine lv_if_eq (tgt := 36) hx hb dX7_weightOf_28 (by decide) (fun z => absurd z (by decide)) (fun _ => ?_)
    refine lv_bipush (v := 14) hx hb dX7_weightOf_31 (by decide +kernel) ?_
    refine lv_goto (tgt := 38) hx hb dX7_weightOf_33 (by decide) ?_
    refine lv_aload_n hx hb dX7_weightOf_38 rfl (lv_at hl 1 rfl) ?_
    refine g7_sheaves hx hb hts hin hown hK hP (hts (.fieldLink RX7 19 "LoadedForTheLaneModel" "sheaves" "[I") (by decide +kernel)) dX7_weightOf_39 ?_
    refine lv_iload_n hx hb dX7_weightOf_42 rfl (lv_at hl 2 rfl) ?_
    have ix_3 : vp_in a1 12 := ix_of (by omega) (by omega)
    refine l7_sheaves (j := a1.toNatClampNeg) hx hb hK hP ix_3 rfl dX7_weightOf_43 ?_
    refine lv_imul hx hb dX7_weightOf_44 ?_
    refine lv_aload_n hx hb dX7_weightOf_45 rfl (lv_at hl 1 rfl) ?_
    refine g7_kind hx hb hts hin hown hK hP (hts (.fieldLink RX7 16 "LoadedForTheLaneModel" "kind" "[I") (by decide +kernel)) dX7_weightOf_46 ?_
    refine lv_iload_n hx hb dX7_weightOf_49 rfl (lv_at hl 2 rfl) ?_
    have ix_4 : vp_in a1 12 := ix_of (by omega) (by omega)
    refine l7_kind (j := a1.toNatClampNeg) hx hb hK hP ix_4 rfl dX7_weightOf_50 ?_
    refine lv_iconst (v := 5) hx hb dX7_weightOf_51 (by decide) ?_
    refine lv_icmp_ne (tgt := 60) hx hb dX7_weightOf_52 (by decide) (fun c_5 => ?_) (fun c_5 => ?_)
    · have E := E.trans (if_neg c_5)
      have fc_5 := i_ne c_5
      rw [q_5] at fc_5
      refine lv_iconst (v := 0) hx hb dX7_weightOf_60 (by decide) ?_
      refine lv_iadd hx hb dX7_weightOf_61 ?_
      exact W.iret (v := (14 * (w 3 (a1.toNatClampNeg))) + 0) hx hb hr (fun t ht hW => ⟨_, rfl, E.symm, ht⟩) (fun q hq => by cases hq) dX7_weightOf_62
    · have E := E.trans (if_pos c_5)
      have fc_5 := i_eq c_5
      rw [q_5] at fc_5
      refine lv_bipush (v := 60) hx hb dX7_weightOf_55 (by decide +kernel) ?_
      refine lv_goto (tgt := 61) hx hb dX7_weightOf_57 (by decide) ?_
      refine lv_iadd hx hb dX7_weightOf_61 ?_
      exact W.iret (v := (14 * (w 3 (a1.toNatClampNeg))) + 60) hx hb hr (fun t ht hW => ⟨_, rfl, E.symm, ht⟩) (fun q hq => by cases hq) dX7_weightOf_62
  · have E := E.trans (if_neg c_2)
    have fc_2 := i_ne c_2
    rw [q_3] at fc_2
    refine lv_aload_n hx hb dX7_weightOf_10 rfl (lv_at hl 0 rfl) ?_
    refine g7_kind hx hb hts hin hown hK hP (hts (.fieldLink RX7 16 "LoadedForTheLaneModel" "kind" "[I") (by decide +kernel)) dX7_weightOf_11 ?_
    refine lv_iload_n hx hb dX7_weightOf_14 rfl (lv_at hl 1 rfl) ?_
    have ix_6 : vp_in a1 12 := ix_of (by omega) (by omega)
    refine l7_kind (j := a1.toNatClampNeg) hx hb hK hP ix_6 rfl dX7_weightOf_15 ?_
    refine lv_bipush (v := 6) hx hb dX7_weightOf_16 (by decide +kernel) ?_
    refine lv_icmp_ne (tgt := 25) hx hb dX7_weightOf_18 (by decide) (fun c_7 => ?_) (fun c_7 => ?_)
    · have E := E.trans (if_neg c_7)
      have fc_7 := i_ne c_7
      rw [q_6] at fc_7
      refine lv_iconst (v := 0) hx hb dX7_weightOf_25 (by decide) ?_
      refine lv_istore_n (lv' := [(2, .int 0), (0, .ref (ad 0)), (1, .int a1)]) hx hb dX7_weightOf_26 rfl hl (by decide) rfl (fun ls hl => ?_)
      refine lv_iload_n hx hb dX7_weightOf_27 rfl (lv_at hl 0 rfl) ?_
      refine lv_if_eq (tgt := 36) hx hb dX7_weightOf_28 (by decide) (fun _ => ?_) (fun z => absurd z (by decide))
      refine lv_bipush (v := 10) hx hb dX7_weightOf_36 (by decide +kernel) ?_
      refine lv_aload_n hx hb dX7_weightOf_38 rfl (lv_at hl 1 rfl) ?_
      refine g7_sheaves hx hb hts hin hown hK hP (hts (.fieldLink RX7 19 "LoadedForTheLaneModel" "sheaves" "[I") (by decide +kernel)) dX7_weightOf_39 ?_
      refine lv_iload_n hx hb dX7_weightOf_42 rfl (lv_at hl 2 rfl) ?_
      have ix_8 : vp_in a1 12 := ix_of (by omega) (by omega)
      refine l7_sheaves (j := a1.toNatClampNeg) hx hb hK hP ix_8 rfl dX7_weightOf_43 ?_
      refine lv_imul hx hb dX7_weightOf_44 ?_
      refine lv_aload_n hx hb dX7_weightOf_45 rfl (lv_at hl 1 rfl) ?_
      refine g7_kind hx hb hts hin hown hK hP (hts (.fieldLink RX7 16 "LoadedForTheLaneModel" "kind" "[I") (by decide +kernel)) dX7_weightOf_46 ?_
      refine lv_iload_n hx hb dX7_weightOf_49 rfl (lv_at hl 2 rfl) ?_
      have ix_9 : vp_in a1 12 := ix_of (by omega) (by omega)
      refine l7_kind (j := a1.toNatClampNeg) hx hb hK hP ix_9 rfl dX7_weightOf_50 ?_
      refine lv_iconst (v := 5) hx hb dX7_weightOf_51 (by decide) ?_
      refine lv_icmp_ne (tgt := 60) hx hb dX7_weightOf_52 (by decide) (fun c_10 => ?_) (fun c_10 => ?_)
      · have E := E.trans (if_neg c_10)
        have fc_10 := i_ne c_10
        rw [q_5] at fc_10
        refine lv_iconst (v := 0) hx hb dX7_weightOf_60 (by decide) ?_
        refine lv_iadd hx hb dX7_weightOf_61 ?_
        exact W.iret (v := (10 * (w 3 (a1.toNatClampNeg))) + 0) hx hb hr (fun t ht hW => ⟨_, rfl, E.symm, ht⟩) (fun q hq => by cases hq) dX7_weightOf_62
      · have E := E.trans (if_pos c_10)
        have fc_10 := i_eq c_10
        rw [q_5] at fc_10
        refine lv_bipush (v := 60) hx hb dX7_weightOf_55 (by decide +kernel) ?_
        refine lv_goto (tgt := 61) hx hb dX7_weightOf_57 (by decide) ?_
        refine lv_iadd hx hb dX7_weightOf_61 ?_
        exact W.iret (v := (10 * (w 3 (a1.toNatClampNeg))) + 60) hx hb hr (fun t ht hW => ⟨_, rfl, E.symm, ht⟩) (fun q hq => by cases hq) dX7_weightOf_62
    · have E := E.trans (if_pos c_7)
      have fc_7 := i_eq c_7
      rw [q_6] at fc_7
      refine lv_iconst (v := 1) hx hb dX7_weightOf_21 (by decide) ?_
      refine lv_goto (tgt := 26) hx hb dX7_weightOf_22 (by decide) ?_
      refine lv_istore_n (lv' := [(2, .int 1), (0, .ref (ad 0)), (1, .int a1)]) hx hb dX7_weightOf_26 rfl hl (by decide) rfl (fun ls hl => ?_)
      refine lv_iload_n hx hb dX7_weightOf_27 rfl (lv_at hl 0 rfl) ?_
      refine lv_if_eq (tgt := 36) hx hb dX7_weightOf_28 (by decide) (fun z => absurd z (by decide)) (fun _ => ?_)
      refine lv_bipush (v := 14) hx hb dX7_weightOf_31 (by decide +kernel) ?_
      refine lv_goto (tgt := 38) hx hb dX7_weightOf_33 (by decide) ?_
      refine lv_aload_n hx hb dX7_weightOf_38 rfl (lv_at hl 1 rfl) ?_
      refine g7_sheaves hx hb hts hin hown hK hP (hts (.fieldLink RX7 19 "LoadedForTheLaneModel" "sheaves" "[I") (by decide +kernel)) dX7_weightOf_39 ?_
      refine lv_iload_n hx hb dX7_weightOf_42 rfl (lv_at hl 2 rfl) ?_
      have ix_11 : vp_in a1 12 := ix_of (by omega) (by omega)
      refine l7_sheaves (j := a1.toNatClampNeg) hx hb hK hP ix_11 rfl dX7_weightOf_43 ?_
      refine lv_imul hx hb dX7_weightOf_44 ?_
      refine lv_aload_n hx hb dX7_weightOf_45 rfl (lv_at hl 1 rfl) ?_
      refine g7_kind hx hb hts hin hown hK hP (hts (.fieldLink RX7 16 "LoadedForTheLaneModel" "kind" "[I") (by decide +kernel)) dX7_weightOf_46 ?_
      refine lv_iload_n hx hb dX7_weightOf_49 rfl (lv_at hl 2 rfl) ?_
      have ix_12 : vp_in a1 12 := ix_of (by omega) (by omega)
      refine l7_kind (j := a1.toNatClampNeg) hx hb hK hP ix_12 rfl dX7_weightOf_50 ?_
      refine lv_iconst (v := 5) hx hb dX7_weightOf_51 (by decide) ?_
      refine lv_icmp_ne (tgt := 60) hx hb dX7_weightOf_52 (by decide) (fun c_13 => ?_) (fun c_13 => ?_)
      · have E := E.trans (if_neg c_13)
        have fc_13 := i_ne c_13
        rw [q_5] at fc_13
        refine lv_iconst (v := 0) hx hb dX7_weightOf_60 (by decide) ?_
        refine lv_iadd hx hb dX7_weightOf_61 ?_
        exact W.iret (v := (14 * (w 3 (a1.toNatClampNeg))) + 0) hx hb hr (fun t ht hW => ⟨_, rfl, E.symm, ht⟩) (fun q hq => by cases hq) dX7_weightOf_62
      · have E := E.trans (if_pos c_13)
        have fc_13 := i_eq c_13
        rw [q_5] at fc_13
        refine lv_bipush (v := 60) hx hb dX7_weightOf_55 (by decide +kernel) ?_
        refine lv_goto (tgt := 61) hx hb dX7_weightOf_57 (by decide) ?_
        refine lv_iadd hx hb dX7_weightOf_61 ?_
        exact W.iret (v := (14 * (w 3 (a1.toNatClampNeg))) + 60) hx hb hr (fun t ht hW => ⟨_, rfl, E.symm, ht⟩) (fun q hq => by cases hq) dX7_weightOf_62
abbrev rmX7_plainBinding : Room := { frames := 1, cells := 0, slots := 0, locals := 20 }
set_option maxHeartbeats 4000000 in
set_option maxRecDepth 100000 in
theorem kX7_plainBinding (l : Launch) (D : va_G) (cI : ClassId) (ad : Nat → Nat) (w : Nat → Nat → Int32) (a1 : Int32)  (h1 : 0 ≤ a1.toInt) (h2 : a1.toInt < 12) : Met l yX7_plainBinding wsX7_plainBinding rmX7_plainBinding (va_Pc [Value.ref (ad 0), Value.int a1] (fun U => va_P D vwCl (RM cI ad w) U.heap ∧ va_K D vwCl [(cI, .int)] U)) (vp_Si (fun r => r = sX7_plainBinding w a1)) 0 0 (fun _ => False) := by
  refine Met.ofW (cc := cX7_plainBinding) (maxL := 3) (ret := (some .int)) (by decide) rfl ?_
  intro p e s m args below meth c s₁ B hml hv
  obtain ⟨rfl, hP, hK⟩ := hv
  have hx := B.exec
  have hb := B.bytes
  have hr := B.returns
  have hts := atoms_spec (ws := wsX7_plainBinding) B.pre
  have hown : s.vm.findClass RX7 = some m.cls := findClass_of_methodNamed B.named
  have hlocks := B.notSynchronized
  have hin : ∀ q ∈ wsX70, q ∈ wsX7_plainBinding := by decide +kernel
  have hl := lv_entry ([.ref (ad 0), .int a1]) (n := 3) (Nat.le_of_ble_eq_true rfl)
  rw [lg_entry_eq]
  generalize (lg_sl ([.ref (ad 0), .int a1]) ++ List.replicate (3 - (lg_sl ([.ref (ad 0), .int a1])).length) Slot.unset).toArray = ls at hl ⊢
  have hl : lv_has ls 3 [(0, .ref (ad 0)), (1, .int a1)] := hl
  have E := sX7_plainBinding.eq_1 w a1
  refine lv_aload_n hx hb dX7_plainBinding_0 rfl (lv_at hl 0 rfl) ?_
  refine g7_sheaves hx hb hts hin hown hK hP (hts (.fieldLink RX7 19 "LoadedForTheLaneModel" "sheaves" "[I") (by decide +kernel)) dX7_plainBinding_1 ?_
  refine lv_iload_n hx hb dX7_plainBinding_4 rfl (lv_at hl 1 rfl) ?_
  have ix_1 : vp_in a1 12 := ix_of (by omega) (by omega)
  refine l7_sheaves (j := a1.toNatClampNeg) hx hb hK hP ix_1 rfl dX7_plainBinding_5 ?_
  refine lv_istore_n (lv' := [(2, .int (w 3 (a1.toNatClampNeg))), (0, .ref (ad 0)), (1, .int a1)]) hx hb dX7_plainBinding_6 rfl hl (by decide) rfl (fun ls hl => ?_)
  refine lv_aload_n hx hb dX7_plainBinding_7 rfl (lv_at hl 1 rfl) ?_
  refine g7_kind hx hb hts hin hown hK hP (hts (.fieldLink RX7 16 "LoadedForTheLaneModel" "kind" "[I") (by decide +kernel)) dX7_plainBinding_8 ?_
  refine lv_iload_n hx hb dX7_plainBinding_11 rfl (lv_at hl 2 rfl) ?_
  have ix_2 : vp_in a1 12 := ix_of (by omega) (by omega)
  refine l7_kind (j := a1.toNatClampNeg) hx hb hK hP ix_2 rfl dX7_plainBinding_12 ?_
  have D_13 : sX7_plainBinding w a1 = 5 * (w 3 (a1.toNatClampNeg)) → W p l e (headSpec wsX7_plainBinding rmX7_plainBinding).room s m [Value.ref (ad 0), Value.int a1].toArray below meth c s.heap [] 0 0 (MQ below (vp_Si (fun r => r = sX7_plainBinding w a1)) [Value.ref (ad 0), Value.int a1].toArray s 0 0 (fun _ => False)) (F0 m 80 ls []) := by
    intro E
    refine lv_iconst (v := 5) hx hb dX7_plainBinding_80 (by decide) ?_
    refine lv_iload_n hx hb dX7_plainBinding_81 rfl (lv_at hl 0 rfl) ?_
    refine lv_imul hx hb dX7_plainBinding_82 ?_
    exact W.iret (v := 5 * (w 3 (a1.toNatClampNeg))) hx hb hr (fun t ht hW => ⟨_, rfl, E.symm, ht⟩) (fun q hq => by cases hq) dX7_plainBinding_83
  by_cases c_3 : (w 2 (a1.toNatClampNeg)) = 1
  · have E := E.trans (if_pos c_3)
    refine lv_tableIn (off := 39) (tgt := 52) hx hb dX7_plainBinding_13 (by rw [c_3]; decide) (by rw [c_3]; decide) (by rw [c_3]; rfl) (by decide) ?_
    have fc_3 := i_eq c_3
    rw [q_1] at fc_3
    refine lv_bipush (v := 8) hx hb dX7_plainBinding_52 (by decide +kernel) ?_
    refine lv_iload_n hx hb dX7_plainBinding_54 rfl (lv_at hl 0 rfl) ?_
    refine lv_imul hx hb dX7_plainBinding_55 ?_
    exact W.iret (v := 8 * (w 3 (a1.toNatClampNeg))) hx hb hr (fun t ht hW => ⟨_, rfl, E.symm, ht⟩) (fun q hq => by cases hq) dX7_plainBinding_56
  have E := E.trans (if_neg c_3)
  have fc_3 := i_ne c_3
  rw [q_1] at fc_3
  by_cases c_4 : (w 2 (a1.toNatClampNeg)) = 2
  · have E := E.trans (if_pos c_4)
    refine lv_tableIn (off := 44) (tgt := 57) hx hb dX7_plainBinding_13 (by rw [c_4]; decide) (by rw [c_4]; decide) (by rw [c_4]; rfl) (by decide) ?_
    have fc_4 := i_eq c_4
    rw [q_2] at fc_4
    refine lv_iconst (v := 5) hx hb dX7_plainBinding_57 (by decide) ?_
    refine lv_iload_n hx hb dX7_plainBinding_58 rfl (lv_at hl 0 rfl) ?_
    refine lv_imul hx hb dX7_plainBinding_59 ?_
    refine lv_iconst (v := 2) hx hb dX7_plainBinding_60 (by decide) ?_
    refine lv_idiv hx hb dX7_plainBinding_61 (by decide) ?_
    exact W.iret (v := (5 * (w 3 (a1.toNatClampNeg))) / 2) hx hb hr (fun t ht hW => ⟨_, rfl, E.symm, ht⟩) (fun q hq => by cases hq) dX7_plainBinding_62
  have E := E.trans (if_neg c_4)
  have fc_4 := i_ne c_4
  rw [q_2] at fc_4
  by_cases c_5 : (w 2 (a1.toNatClampNeg)) = 4
  · have E := E.trans (if_pos c_5)
    refine lv_tableIn (off := 50) (tgt := 63) hx hb dX7_plainBinding_13 (by rw [c_5]; decide) (by rw [c_5]; decide) (by rw [c_5]; rfl) (by decide) ?_
    have fc_5 := i_eq c_5
    rw [q_4] at fc_5
    refine lv_iconst (v := 5) hx hb dX7_plainBinding_63 (by decide) ?_
    refine lv_iload_n hx hb dX7_plainBinding_64 rfl (lv_at hl 0 rfl) ?_
    refine lv_imul hx hb dX7_plainBinding_65 ?_
    refine lv_iconst (v := 2) hx hb dX7_plainBinding_66 (by decide) ?_
    refine lv_idiv hx hb dX7_plainBinding_67 (by decide) ?_
    refine lv_bipush (v := 10) hx hb dX7_plainBinding_68 (by decide +kernel) ?_
    refine lv_isub hx hb dX7_plainBinding_70 ?_
    refine vp_callSi (va_Run.run (va_runS (As := [.int (((5 * (w 3 (a1.toNatClampNeg))) / 2) - 10)]) (rest := []) ⟨hx, hb, hml, hown, hts⟩ (kX7_atLeast0 l (((5 * (w 3 (a1.toNatClampNeg))) / 2) - 10)) (va_cwS 1 hts gX7_plainBinding_X7_atLeast0 rfl rfl rfl mdX7_atLeast0 ⟨Nat.le_of_ble_eq_true rfl, Nat.le_of_ble_eq_true rfl⟩) s_pre rfl rfl hl.1 rfl (lv_room (Nat.le_of_ble_eq_true rfl)) dX7_plainBinding_71 ⟨Nat.zero_le _, Nat.zero_le _⟩)) (fun r_6 hr_6 => ?_)
    subst hr_6
    exact W.iret (v := (sX7_atLeast0 (((5 * (w 3 (a1.toNatClampNeg))) / 2) - 10))) hx hb hr (fun t ht hW => ⟨_, rfl, E.symm, ht⟩) (fun q hq => by cases hq) dX7_plainBinding_74
  have E := E.trans (if_neg c_5)
  have fc_5 := i_ne c_5
  rw [q_4] at fc_5
  by_cases c_7 : (w 2 (a1.toNatClampNeg)) = 5
  · have E := E.trans (if_pos c_7)
    refine lv_tableIn (off := 39) (tgt := 52) hx hb dX7_plainBinding_13 (by rw [c_7]; decide) (by rw [c_7]; decide) (by rw [c_7]; rfl) (by decide) ?_
    have fc_7 := i_eq c_7
    rw [q_5] at fc_7
    refine lv_bipush (v := 8) hx hb dX7_plainBinding_52 (by decide +kernel) ?_
    refine lv_iload_n hx hb dX7_plainBinding_54 rfl (lv_at hl 0 rfl) ?_
    refine lv_imul hx hb dX7_plainBinding_55 ?_
    exact W.iret (v := 8 * (w 3 (a1.toNatClampNeg))) hx hb hr (fun t ht hW => ⟨_, rfl, E.symm, ht⟩) (fun q hq => by cases hq) dX7_plainBinding_56
  have E := E.trans (if_neg c_7)
  have fc_7 := i_ne c_7
  rw [q_5] at fc_7
  by_cases c_8 : (w 2 (a1.toNatClampNeg)) = 6
  · have E := E.trans (if_pos c_8)
    refine lv_tableIn (off := 62) (tgt := 75) hx hb dX7_plainBinding_13 (by rw [c_8]; decide) (by rw [c_8]; decide) (by rw [c_8]; rfl) (by decide) ?_
    have fc_8 := i_eq c_8
    rw [q_6] at fc_8
    refine lv_bipush (v := 7) hx hb dX7_plainBinding_75 (by decide +kernel) ?_
    refine lv_iload_n hx hb dX7_plainBinding_77 rfl (lv_at hl 0 rfl) ?_
    refine lv_imul hx hb dX7_plainBinding_78 ?_
    exact W.iret (v := 7 * (w 3 (a1.toNatClampNeg))) hx hb hr (fun t ht hW => ⟨_, rfl, E.symm, ht⟩) (fun q hq => by cases hq) dX7_plainBinding_79
  have E := E.trans (if_neg c_8)
  have fc_8 := i_ne c_8
  rw [q_6] at fc_8
  by_cases c_9 : (w 2 (a1.toNatClampNeg)) = 3
  · refine lv_tableIn (off := 67) (tgt := 80) hx hb dX7_plainBinding_13 (by rw [c_9]; decide) (by rw [c_9]; decide) (by rw [c_9]; rfl) (by decide) ?_
    exact D_13 E
  have fc_9 := i_ne c_9
  rw [q_3] at fc_9
  refine lv_tableOut (tgt := 80) hx hb dX7_plainBinding_13 (by omega) (by decide) ?_
  exact D_13 E
abbrev rmX7_bindingOf : Room := { frames := 2, cells := 0, slots := 0, locals := 42 }
set_option maxHeartbeats 4000000 in
set_option maxRecDepth 100000 in
theorem kX7_bindingOf (l : Launch) (D : va_G) (cI : ClassId) (ad : Nat → Nat) (w : Nat → Nat → Int32) (a1 : Int32)  (h1 : 0 ≤ a1.toInt) (h2 : a1.toInt < 12) : Met l yX7_bindingOf wsX7_bindingOf rmX7_bindingOf (va_Pc [Value.ref (ad 0), Value.int a1] (fun U => va_P D vwCl (RM cI ad w) U.heap ∧ va_K D vwCl [(cI, .int)] U)) (vp_Si (fun r => r = sX7_bindingOf w a1)) 0 0 (fun _ => False) := by
  refine Met.ofW (cc := cX7_bindingOf) (maxL := 2) (ret := (some .int)) (by decide) rfl ?_
  intro p e s m args below meth c s₁ B hml hv
  obtain ⟨rfl, hP, hK⟩ := hv
  have hx := B.exec
  have hb := B.bytes
  have hr := B.returns
  have hts := atoms_spec (ws := wsX7_bindingOf) B.pre
  have hown : s.vm.findClass RX7 = some m.cls := findClass_of_methodNamed B.named
  have hlocks := B.notSynchronized
  have hin : ∀ q ∈ wsX70, q ∈ wsX7_bindingOf := by decide +kernel
  have hl := lv_entry ([.ref (ad 0), .int a1]) (n := 2) (Nat.le_of_ble_eq_true rfl)
  rw [lg_entry_eq]
  generalize (lg_sl ([.ref (ad 0), .int a1]) ++ List.replicate (2 - (lg_sl ([.ref (ad 0), .int a1])).length) Slot.unset).toArray = ls at hl ⊢
  have hl : lv_has ls 2 [(0, .ref (ad 0)), (1, .int a1)] := hl
  have E := sX7_bindingOf.eq_1 w a1
  refine lv_aload_n hx hb dX7_bindingOf_0 rfl (lv_at hl 0 rfl) ?_
  refine lv_iload_n hx hb dX7_bindingOf_1 rfl (lv_at hl 1 rfl) ?_
  refine vp_callSi (va_Run.run (va_runV (As := [.int a1]) (rest := []) ⟨hx, hb, hml, hown, hts⟩ (kX7_plainBinding l D cI ad w a1 (by omega) (by omega)) (cwV 1 hts gX7_bindingOf_X7_plainBinding rfl rfl rfl mdX7_plainBinding ⟨Nat.le_of_ble_eq_true rfl, Nat.le_of_ble_eq_true rfl⟩) (r7_pre hK hP) rfl rfl hl.1 rfl (lv_room (Nat.le_of_ble_eq_true rfl)) dX7_bindingOf_2 ⟨Nat.zero_le _, Nat.zero_le _⟩)) (fun r_1 hr_1 => ?_)
  subst hr_1
  refine lv_iconst (v := 4) hx hb dX7_bindingOf_5 (by decide) ?_
  refine lv_aload_n hx hb dX7_bindingOf_6 rfl (lv_at hl 0 rfl) ?_
  refine g7_badly hx hb hts hin hown hK hP (hts (.fieldLink RX7 28 "LoadedForTheLaneModel" "badly" "[I") (by decide +kernel)) dX7_bindingOf_7 ?_
  refine lv_iload_n hx hb dX7_bindingOf_10 rfl (lv_at hl 1 rfl) ?_
  have ix_2 : vp_in a1 12 := ix_of (by omega) (by omega)
  refine l7_badly (j := a1.toNatClampNeg) hx hb hK hP ix_2 rfl dX7_bindingOf_11 ?_
  refine lv_imul hx hb dX7_bindingOf_12 ?_
  refine lv_isub hx hb dX7_bindingOf_13 ?_
  refine vp_callSi (va_Run.run (va_runS (As := [.int ((sX7_plainBinding w a1) - (4 * (w 6 (a1.toNatClampNeg))))]) (rest := []) ⟨hx, hb, hml, hown, hts⟩ (kX7_atLeast0 l ((sX7_plainBinding w a1) - (4 * (w 6 (a1.toNatClampNeg))))) (va_cwS 1 hts gX7_bindingOf_X7_atLeast0 rfl rfl rfl mdX7_atLeast0 ⟨Nat.le_of_ble_eq_true rfl, Nat.le_of_ble_eq_true rfl⟩) s_pre rfl rfl hl.1 rfl (lv_room (Nat.le_of_ble_eq_true rfl)) dX7_bindingOf_14 ⟨Nat.zero_le _, Nat.zero_le _⟩)) (fun r_3 hr_3 => ?_)
  subst hr_3
  exact W.iret (v := (sX7_atLeast0 ((sX7_plainBinding w a1) - (4 * (w 6 (a1.toNatClampNeg)))))) hx hb hr (fun t ht hW => ⟨_, rfl, E.symm, ht⟩) (fun q hq => by cases hq) dX7_bindingOf_17
abbrev rmX7_thickOf : Room := { frames := 0, cells := 0, slots := 0, locals := 0 }
set_option maxHeartbeats 4000000 in
set_option maxRecDepth 100000 in
theorem kX7_thickOf (l : Launch) (D : va_G) (cI : ClassId) (ad : Nat → Nat) (w : Nat → Nat → Int32) (a1 : Int32)  (h1 : 0 ≤ a1.toInt) (h2 : a1.toInt < 12) : Met l yX7_thickOf wsX7_thickOf rmX7_thickOf (va_Pc [Value.ref (ad 0), Value.int a1] (fun U => va_P D vwCl (RM cI ad w) U.heap ∧ va_K D vwCl [(cI, .int)] U)) (vp_Si (fun r => r = sX7_thickOf w a1)) 0 0 (fun _ => False) := by
  refine Met.ofW (cc := cX7_thickOf) (maxL := 2) (ret := (some .int)) (by decide) rfl ?_
  intro p e s m args below meth c s₁ B hml hv
  obtain ⟨rfl, hP, hK⟩ := hv
  have hx := B.exec
  have hb := B.bytes
  have hr := B.returns
  have hts := atoms_spec (ws := wsX7_thickOf) B.pre
  have hown : s.vm.findClass RX7 = some m.cls := findClass_of_methodNamed B.named
  have hlocks := B.notSynchronized
  have hin : ∀ q ∈ wsX70, q ∈ wsX7_thickOf := by decide +kernel
  have hl := lv_entry ([.ref (ad 0), .int a1]) (n := 2) (Nat.le_of_ble_eq_true rfl)
  rw [lg_entry_eq]
  generalize (lg_sl ([.ref (ad 0), .int a1]) ++ List.replicate (2 - (lg_sl ([.ref (ad 0), .int a1])).length) Slot.unset).toArray = ls at hl ⊢
  have hl : lv_has ls 2 [(0, .ref (ad 0)), (1, .int a1)] := hl
  have E := sX7_thickOf.eq_1 w a1
  refine lv_aload_n hx hb dX7_thickOf_0 rfl (lv_at hl 0 rfl) ?_
  refine g7_kind hx hb hts hin hown hK hP (hts (.fieldLink RX7 16 "LoadedForTheLaneModel" "kind" "[I") (by decide +kernel)) dX7_thickOf_1 ?_
  refine lv_iload_n hx hb dX7_thickOf_4 rfl (lv_at hl 1 rfl) ?_
  have ix_1 : vp_in a1 12 := ix_of (by omega) (by omega)
  refine l7_kind (j := a1.toNatClampNeg) hx hb hK hP ix_1 rfl dX7_thickOf_5 ?_
  have D_6 : sX7_thickOf w a1 = 9 → W p l e (headSpec wsX7_thickOf rmX7_thickOf).room s m [Value.ref (ad 0), Value.int a1].toArray below meth c s.heap [] 0 0 (MQ below (vp_Si (fun r => r = sX7_thickOf w a1)) [Value.ref (ad 0), Value.int a1].toArray s 0 0 (fun _ => False)) (F0 m 46 ls []) := by
    intro E
    refine lv_bipush (v := 9) hx hb dX7_thickOf_46 (by decide +kernel) ?_
    exact W.iret (v := 9) hx hb hr (fun t ht hW => ⟨_, rfl, E.symm, ht⟩) (fun q hq => by cases hq) dX7_thickOf_48
  by_cases c_2 : (w 2 (a1.toNatClampNeg)) = 2
  · have E := E.trans (if_pos c_2)
    refine lv_tableIn (off := 34) (tgt := 40) hx hb dX7_thickOf_6 (by rw [c_2]; decide) (by rw [c_2]; decide) (by rw [c_2]; rfl) (by decide) ?_
    have fc_2 := i_eq c_2
    rw [q_2] at fc_2
    refine lv_bipush (v := 11) hx hb dX7_thickOf_40 (by decide +kernel) ?_
    exact W.iret (v := 11) hx hb hr (fun t ht hW => ⟨_, rfl, E.symm, ht⟩) (fun q hq => by cases hq) dX7_thickOf_42
  have E := E.trans (if_neg c_2)
  have fc_2 := i_ne c_2
  rw [q_2] at fc_2
  by_cases c_3 : (w 2 (a1.toNatClampNeg)) = 3
  · have E := E.trans (if_pos c_3)
    refine lv_tableIn (off := 37) (tgt := 43) hx hb dX7_thickOf_6 (by rw [c_3]; decide) (by rw [c_3]; decide) (by rw [c_3]; rfl) (by decide) ?_
    have fc_3 := i_eq c_3
    rw [q_3] at fc_3
    refine lv_bipush (v := 8) hx hb dX7_thickOf_43 (by decide +kernel) ?_
    exact W.iret (v := 8) hx hb hr (fun t ht hW => ⟨_, rfl, E.symm, ht⟩) (fun q hq => by cases hq) dX7_thickOf_45
  have E := E.trans (if_neg c_3)
  have fc_3 := i_ne c_3
  rw [q_3] at fc_3
  by_cases c_4 : (w 2 (a1.toNatClampNeg)) = 4
  · have E := E.trans (if_pos c_4)
    refine lv_tableIn (off := 34) (tgt := 40) hx hb dX7_thickOf_6 (by rw [c_4]; decide) (by rw [c_4]; decide) (by rw [c_4]; rfl) (by decide) ?_
    have fc_4 := i_eq c_4
    rw [q_4] at fc_4
    refine lv_bipush (v := 11) hx hb dX7_thickOf_40 (by decide +kernel) ?_
    exact W.iret (v := 11) hx hb hr (fun t ht hW => ⟨_, rfl, E.symm, ht⟩) (fun q hq => by cases hq) dX7_thickOf_42
  have E := E.trans (if_neg c_4)
  have fc_4 := i_ne c_4
  rw [q_4] at fc_4
  by_cases c_5 : (w 2 (a1.toNatClampNeg)) = 6
  · have E := E.trans (if_pos c_5)
    refine lv_tableIn (off := 37) (tgt := 43) hx hb dX7_thickOf_6 (by rw [c_5]; decide) (by rw [c_5]; decide) (by rw [c_5]; rfl) (by decide) ?_
    have fc_5 := i_eq c_5
    rw [q_6] at fc_5
    refine lv_bipush (v := 8) hx hb dX7_thickOf_43 (by decide +kernel) ?_
    exact W.iret (v := 8) hx hb hr (fun t ht hW => ⟨_, rfl, E.symm, ht⟩) (fun q hq => by cases hq) dX7_thickOf_45
  have E := E.trans (if_neg c_5)
  have fc_5 := i_ne c_5
  rw [q_6] at fc_5
  by_cases c_6 : (w 2 (a1.toNatClampNeg)) = 5
  · refine lv_tableIn (off := 40) (tgt := 46) hx hb dX7_thickOf_6 (by rw [c_6]; decide) (by rw [c_6]; decide) (by rw [c_6]; rfl) (by decide) ?_
    exact D_6 E
  have fc_6 := i_ne c_6
  rw [q_5] at fc_6
  refine lv_tableOut (tgt := 46) hx hb dX7_thickOf_6 (by omega) (by decide) ?_
  exact D_6 E
abbrev rmX7_loadOf : Room := { frames := 1, cells := 0, slots := 0, locals := 22 }
set_option maxHeartbeats 4000000 in
set_option maxRecDepth 100000 in
theorem kX7_loadOf (l : Launch) (D : va_G) (cI : ClassId) (ad : Nat → Nat) (w : Nat → Nat → Int32) (a1 : Int32)  (hI : R7I w) (h1 : 0 ≤ a1.toInt) (h2 : a1.toInt < 12) : Met l yX7_loadOf wsX7_loadOf rmX7_loadOf (va_Pc [Value.ref (ad 0), Value.int a1] (fun U => va_P D vwCl (RM cI ad w) U.heap ∧ va_K D vwCl [(cI, .int)] U)) (vp_Si (fun r => r = sX7_loadOf w a1)) 0 0 (fun _ => False) := by
  refine Met.ofW (cc := cX7_loadOf) (maxL := 4) (ret := (some .int)) (by decide) rfl ?_
  intro p e s m args below meth c s₁ B hml hv
  obtain ⟨rfl, hP, hK⟩ := hv
  have hx := B.exec
  have hb := B.bytes
  have hr := B.returns
  have hts := atoms_spec (ws := wsX7_loadOf) B.pre
  have hown : s.vm.findClass RX7 = some m.cls := findClass_of_methodNamed B.named
  have hlocks := B.notSynchronized
  have hin : ∀ q ∈ wsX70, q ∈ wsX7_loadOf := by decide +kernel
  have hl := lv_entry ([.ref (ad 0), .int a1]) (n := 4) (Nat.le_of_ble_eq_true rfl)
  rw [lg_entry_eq]
  generalize (lg_sl ([.ref (ad 0), .int a1]) ++ List.replicate (4 - (lg_sl ([.ref (ad 0), .int a1])).length) Slot.unset).toArray = ls at hl ⊢
  have hl : lv_has ls 4 [(0, .ref (ad 0)), (1, .int a1)] := hl
  have E := sX7_loadOf.eq_1 w a1
  refine lv_iconst (v := 0) hx hb dX7_loadOf_0 (by decide) ?_
  refine lv_istore_n (lv' := [(2, .int 0), (0, .ref (ad 0)), (1, .int a1)]) hx hb dX7_loadOf_1 rfl hl (by decide) rfl (fun ls hl => ?_)
  refine lv_iload_n hx hb dX7_loadOf_2 rfl (lv_at hl 2 rfl) ?_
  refine lv_istore_n (lv' := [(3, .int a1), (2, .int 0), (0, .ref (ad 0)), (1, .int a1)]) hx hb dX7_loadOf_3 rfl hl (by decide) rfl (fun ls hl => ?_)
  have L_4 : ∀ (n_4 : Nat) (x2_4 : Int32) (x3_4 : Int32) (ls : Array Slot), ((0 ≤ x3_4.toInt) ∧ (x3_4.toInt ≤ 12)) → (12 - x3_4.toInt < (n_4 : Int)) → lv_has ls 4 [(3, .int x3_4), (2, .int x2_4), (0, .ref (ad 0))] → sX7_loadOf w a1 = sX7_loadOf_4 w n_4 x2_4 x3_4 → W p l e (headSpec wsX7_loadOf rmX7_loadOf).room s m [Value.ref (ad 0), Value.int a1].toArray below meth c s.heap [] 0 0 (MQ below (vp_Si (fun r => r = sX7_loadOf w a1)) [Value.ref (ad 0), Value.int a1].toArray s 0 0 (fun _ => False)) (F0 m 4 ls []) := by
    intro n_4
    induction n_4 with
    | zero =>
      intro x2_4 x3_4 ls hinv hm
      obtain ⟨v0_4, v1_4⟩ := hinv
      exact absurd hm (by omega)
    | succ n_4 ih_4 =>
      intro x2_4 x3_4 ls hinv hm_4 hl E
      obtain ⟨v0_4, v1_4⟩ := hinv
      have E := E.trans (sX7_loadOf_4.eq_2 ..)
      refine lv_iload_n hx hb dX7_loadOf_4 rfl (lv_at hl 0 rfl) ?_
      refine lv_aload_n hx hb dX7_loadOf_5 rfl (lv_at hl 2 rfl) ?_
      refine g7_layers hx hb hts hin hown hK hP (hts (.fieldLink RX7 67 "LoadedForTheLaneModel" "layers" "I") (by decide +kernel)) dX7_loadOf_6 ?_
      have f_1 := R7I_layers hI
      refine lv_icmp_ge (tgt := 26) hx hb dX7_loadOf_9 (by decide) (fun c_2 => ?_) (fun c_2 => ?_)
      · have E := E.trans (if_pos c_2)
        have fc_2 := i_le c_2
        refine lv_iload_n hx hb dX7_loadOf_26 rfl (lv_at hl 1 rfl) ?_
        exact W.iret (v := x2_4) hx hb hr (fun t ht hW => ⟨_, rfl, E.symm, ht⟩) (fun q hq => by cases hq) dX7_loadOf_27
      · have E := E.trans (if_neg c_2)
        have fc_2 := i_nle c_2
        refine lv_iload_n hx hb dX7_loadOf_12 rfl (lv_at hl 1 rfl) ?_
        refine lv_aload_n hx hb dX7_loadOf_13 rfl (lv_at hl 2 rfl) ?_
        refine lv_iload_n hx hb dX7_loadOf_14 rfl (lv_at hl 0 rfl) ?_
        refine vp_callSi (va_Run.run (va_runV (As := [.int x3_4]) (rest := [.int x2_4]) ⟨hx, hb, hml, hown, hts⟩ (kX7_weightOf l D cI ad w x3_4 (by omega) (by omega)) (cwV 1 hts gX7_loadOf_X7_weightOf rfl rfl rfl mdX7_weightOf ⟨Nat.le_of_ble_eq_true rfl, Nat.le_of_ble_eq_true rfl⟩) (r7_pre hK hP) rfl rfl hl.1 rfl (lv_room (Nat.le_of_ble_eq_true rfl)) dX7_loadOf_15 ⟨Nat.zero_le _, Nat.zero_le _⟩)) (fun r_3 hr_3 => ?_)
        subst hr_3
        refine lv_iadd hx hb dX7_loadOf_18 ?_
        refine lv_istore_n (lv' := [(2, .int (x2_4 + (sX7_weightOf w x3_4))), (3, .int x3_4), (0, .ref (ad 0))]) hx hb dX7_loadOf_19 rfl hl (by decide) rfl (fun ls hl => ?_)
        refine lv_iinc (v := x3_4 + 1) (lv' := [(3, .int (x3_4 + 1)), (2, .int (x2_4 + (sX7_weightOf w x3_4))), (0, .ref (ad 0))]) hx hb dX7_loadOf_20 hl (k := 1) rfl rfl (by decide) rfl (fun ls hl => ?_)
        refine lv_goto (tgt := 4) hx hb dX7_loadOf_23 (by decide) ?_
        try have := i_addr (a := x3_4) (b := 1) (n := 1) q_1 (by omega) (by omega)
        exact ih_4 (x2_4 + (sX7_weightOf w x3_4)) (x3_4 + 1) ls ⟨by omega, by omega⟩ (by omega) (lv_sub hl [0, 1, 2] rfl) E
  exact L_4 13 0 a1 ls ⟨by omega, by omega⟩ (by omega) (lv_sub hl [0, 1, 2] rfl) E
abbrev rmX7_heightNow : Room := { frames := 1, cells := 0, slots := 0, locals := 21 }
set_option maxHeartbeats 4000000 in
set_option maxRecDepth 100000 in
theorem kX7_heightNow (l : Launch) (D : va_G) (cI : ClassId) (ad : Nat → Nat) (w : Nat → Nat → Int32)  (hI : R7I w)  : Met l yX7_heightNow wsX7_heightNow rmX7_heightNow (va_Pc [Value.ref (ad 0)] (fun U => va_P D vwCl (RM cI ad w) U.heap ∧ va_K D vwCl [(cI, .int)] U)) (vp_Si (fun r => r = sX7_heightNow w)) 0 0 (fun _ => False) := by
  refine Met.ofW (cc := cX7_heightNow) (maxL := 3) (ret := (some .int)) (by decide) rfl ?_
  intro p e s m args below meth c s₁ B hml hv
  obtain ⟨rfl, hP, hK⟩ := hv
  have hx := B.exec
  have hb := B.bytes
  have hr := B.returns
  have hts := atoms_spec (ws := wsX7_heightNow) B.pre
  have hown : s.vm.findClass RX7 = some m.cls := findClass_of_methodNamed B.named
  have hlocks := B.notSynchronized
  have hin : ∀ q ∈ wsX70, q ∈ wsX7_heightNow := by decide +kernel
  have hl := lv_entry ([.ref (ad 0)]) (n := 3) (Nat.le_of_ble_eq_true rfl)
  rw [lg_entry_eq]
  generalize (lg_sl ([.ref (ad 0)]) ++ List.replicate (3 - (lg_sl ([.ref (ad 0)])).length) Slot.unset).toArray = ls at hl ⊢
  have hl : lv_has ls 3 [(0, .ref (ad 0))] := hl
  have E := sX7_heightNow.eq_1 w
  refine lv_iconst (v := 0) hx hb dX7_heightNow_0 (by decide) ?_
  refine lv_istore_n (lv' := [(1, .int 0), (0, .ref (ad 0))]) hx hb dX7_heightNow_1 rfl hl (by decide) rfl (fun ls hl => ?_)
  refine lv_iconst (v := 0) hx hb dX7_heightNow_2 (by decide) ?_
  refine lv_istore_n (lv' := [(2, .int 0), (1, .int 0), (0, .ref (ad 0))]) hx hb dX7_heightNow_3 rfl hl (by decide) rfl (fun ls hl => ?_)
  have L_4 : ∀ (n_4 : Nat) (x1_4 : Int32) (x2_4 : Int32) (ls : Array Slot), ((0 ≤ x2_4.toInt) ∧ (x2_4.toInt ≤ 12)) → (12 - x2_4.toInt < (n_4 : Int)) → lv_has ls 3 [(2, .int x2_4), (1, .int x1_4), (0, .ref (ad 0))] → sX7_heightNow w = sX7_heightNow_4 w n_4 x1_4 x2_4 → W p l e (headSpec wsX7_heightNow rmX7_heightNow).room s m [Value.ref (ad 0)].toArray below meth c s.heap [] 0 0 (MQ below (vp_Si (fun r => r = sX7_heightNow w)) [Value.ref (ad 0)].toArray s 0 0 (fun _ => False)) (F0 m 4 ls []) := by
    intro n_4
    induction n_4 with
    | zero =>
      intro x1_4 x2_4 ls hinv hm
      obtain ⟨v0_4, v1_4⟩ := hinv
      exact absurd hm (by omega)
    | succ n_4 ih_4 =>
      intro x1_4 x2_4 ls hinv hm_4 hl E
      obtain ⟨v0_4, v1_4⟩ := hinv
      have E := E.trans (sX7_heightNow_4.eq_2 ..)
      refine lv_iload_n hx hb dX7_heightNow_4 rfl (lv_at hl 0 rfl) ?_
      refine lv_aload_n hx hb dX7_heightNow_5 rfl (lv_at hl 2 rfl) ?_
      refine g7_layers hx hb hts hin hown hK hP (hts (.fieldLink RX7 67 "LoadedForTheLaneModel" "layers" "I") (by decide +kernel)) dX7_heightNow_6 ?_
      have f_1 := R7I_layers hI
      refine lv_icmp_ge (tgt := 26) hx hb dX7_heightNow_9 (by decide) (fun c_2 => ?_) (fun c_2 => ?_)
      · have E := E.trans (if_pos c_2)
        have fc_2 := i_le c_2
        refine lv_iload_n hx hb dX7_heightNow_26 rfl (lv_at hl 1 rfl) ?_
        exact W.iret (v := x1_4) hx hb hr (fun t ht hW => ⟨_, rfl, E.symm, ht⟩) (fun q hq => by cases hq) dX7_heightNow_27
      · have E := E.trans (if_neg c_2)
        have fc_2 := i_nle c_2
        refine lv_iload_n hx hb dX7_heightNow_12 rfl (lv_at hl 1 rfl) ?_
        refine lv_aload_n hx hb dX7_heightNow_13 rfl (lv_at hl 2 rfl) ?_
        refine lv_iload_n hx hb dX7_heightNow_14 rfl (lv_at hl 0 rfl) ?_
        refine vp_callSi (va_Run.run (va_runV (As := [.int x2_4]) (rest := [.int x1_4]) ⟨hx, hb, hml, hown, hts⟩ (kX7_thickOf l D cI ad w x2_4 (by omega) (by omega)) (cwV 1 hts gX7_heightNow_X7_thickOf rfl rfl rfl mdX7_thickOf ⟨Nat.le_of_ble_eq_true rfl, Nat.le_of_ble_eq_true rfl⟩) (r7_pre hK hP) rfl rfl hl.1 rfl (lv_room (Nat.le_of_ble_eq_true rfl)) dX7_heightNow_15 ⟨Nat.zero_le _, Nat.zero_le _⟩)) (fun r_3 hr_3 => ?_)
        subst hr_3
        refine lv_iadd hx hb dX7_heightNow_18 ?_
        refine lv_istore_n (lv' := [(1, .int (x1_4 + (sX7_thickOf w x2_4))), (2, .int x2_4), (0, .ref (ad 0))]) hx hb dX7_heightNow_19 rfl hl (by decide) rfl (fun ls hl => ?_)
        refine lv_iinc (v := x2_4 + 1) (lv' := [(2, .int (x2_4 + 1)), (1, .int (x1_4 + (sX7_thickOf w x2_4))), (0, .ref (ad 0))]) hx hb dX7_heightNow_20 hl (k := 1) rfl rfl (by decide) rfl (fun ls hl => ?_)
        refine lv_goto (tgt := 4) hx hb dX7_heightNow_23 (by decide) ?_
        try have := i_addr (a := x2_4) (b := 1) (n := 1) q_1 (by omega) (by omega)
        exact ih_4 (x1_4 + (sX7_thickOf w x2_4)) (x2_4 + 1) ls ⟨by omega, by omega⟩ (by omega) (lv_sub hl [0, 1, 2] rfl) E
  have := q_0
  exact L_4 13 0 0 ls ⟨by omega, by omega⟩ (by omega) (lv_sub hl [0, 1, 2] rfl) E
abbrev rmX7_allSheaves : Room := { frames := 0, cells := 0, slots := 0, locals := 0 }
set_option maxHeartbeats 4000000 in
set_option maxRecDepth 100000 in
theorem kX7_allSheaves (l : Launch) (D : va_G) (cI : ClassId) (ad : Nat → Nat) (w : Nat → Nat → Int32)  (hI : R7I w)  : Met l yX7_allSheaves wsX7_allSheaves rmX7_allSheaves (va_Pc [Value.ref (ad 0)] (fun U => va_P D vwCl (RM cI ad w) U.heap ∧ va_K D vwCl [(cI, .int)] U)) (vp_Si (fun r => r = sX7_allSheaves w)) 0 0 (fun _ => False) := by
  refine Met.ofW (cc := cX7_allSheaves) (maxL := 3) (ret := (some .int)) (by decide) rfl ?_
  intro p e s m args below meth c s₁ B hml hv
  obtain ⟨rfl, hP, hK⟩ := hv
  have hx := B.exec
  have hb := B.bytes
  have hr := B.returns
  have hts := atoms_spec (ws := wsX7_allSheaves) B.pre
  have hown : s.vm.findClass RX7 = some m.cls := findClass_of_methodNamed B.named
  have hlocks := B.notSynchronized
  have hin : ∀ q ∈ wsX70, q ∈ wsX7_allSheaves := by decide +kernel
  have hl := lv_entry ([.ref (ad 0)]) (n := 3) (Nat.le_of_ble_eq_true rfl)
  rw [lg_entry_eq]
  generalize (lg_sl ([.ref (ad 0)]) ++ List.replicate (3 - (lg_sl ([.ref (ad 0)])).length) Slot.unset).toArray = ls at hl ⊢
  have hl : lv_has ls 3 [(0, .ref (ad 0))] := hl
  have E := sX7_allSheaves.eq_1 w
  refine lv_iconst (v := 0) hx hb dX7_allSheaves_0 (by decide) ?_
  refine lv_istore_n (lv' := [(1, .int 0), (0, .ref (ad 0))]) hx hb dX7_allSheaves_1 rfl hl (by decide) rfl (fun ls hl => ?_)
  refine lv_iconst (v := 0) hx hb dX7_allSheaves_2 (by decide) ?_
  refine lv_istore_n (lv' := [(2, .int 0), (1, .int 0), (0, .ref (ad 0))]) hx hb dX7_allSheaves_3 rfl hl (by decide) rfl (fun ls hl => ?_)
  have L_4 : ∀ (n_4 : Nat) (x1_4 : Int32) (x2_4 : Int32) (ls : Array Slot), ((0 ≤ x2_4.toInt) ∧ (x2_4.toInt ≤ 12)) → (12 - x2_4.toInt < (n_4 : Int)) → lv_has ls 3 [(2, .int x2_4), (1, .int x1_4), (0, .ref (ad 0))] → sX7_allSheaves w = sX7_allSheaves_4 w n_4 x1_4 x2_4 → W p l e (headSpec wsX7_allSheaves rmX7_allSheaves).room s m [Value.ref (ad 0)].toArray below meth c s.heap [] 0 0 (MQ below (vp_Si (fun r => r = sX7_allSheaves w)) [Value.ref (ad 0)].toArray s 0 0 (fun _ => False)) (F0 m 4 ls []) := by
    intro n_4
    induction n_4 with
    | zero =>
      intro x1_4 x2_4 ls hinv hm
      obtain ⟨v0_4, v1_4⟩ := hinv
      exact absurd hm (by omega)
    | succ n_4 ih_4 =>
      intro x1_4 x2_4 ls hinv hm_4 hl E
      obtain ⟨v0_4, v1_4⟩ := hinv
      have E := E.trans (sX7_allSheaves_4.eq_2 ..)
      refine lv_iload_n hx hb dX7_allSheaves_4 rfl (lv_at hl 0 rfl) ?_
      refine lv_aload_n hx hb dX7_allSheaves_5 rfl (lv_at hl 2 rfl) ?_
      refine g7_layers hx hb hts hin hown hK hP (hts (.fieldLink RX7 67 "LoadedForTheLaneModel" "layers" "I") (by decide +kernel)) dX7_allSheaves_6 ?_
      have f_1 := R7I_layers hI
      refine lv_icmp_ge (tgt := 27) hx hb dX7_allSheaves_9 (by decide) (fun c_2 => ?_) (fun c_2 => ?_)
      · have E := E.trans (if_pos c_2)
        have fc_2 := i_le c_2
        refine lv_iload_n hx hb dX7_allSheaves_27 rfl (lv_at hl 1 rfl) ?_
        exact W.iret (v := x1_4) hx hb hr (fun t ht hW => ⟨_, rfl, E.symm, ht⟩) (fun q hq => by cases hq) dX7_allSheaves_28
      · have E := E.trans (if_neg c_2)
        have fc_2 := i_nle c_2
        refine lv_iload_n hx hb dX7_allSheaves_12 rfl (lv_at hl 1 rfl) ?_
        refine lv_aload_n hx hb dX7_allSheaves_13 rfl (lv_at hl 2 rfl) ?_
        refine g7_sheaves hx hb hts hin hown hK hP (hts (.fieldLink RX7 19 "LoadedForTheLaneModel" "sheaves" "[I") (by decide +kernel)) dX7_allSheaves_14 ?_
        refine lv_iload_n hx hb dX7_allSheaves_17 rfl (lv_at hl 0 rfl) ?_
        have ix_3 : vp_in x2_4 12 := ix_of (by omega) (by omega)
        refine l7_sheaves (j := x2_4.toNatClampNeg) hx hb hK hP ix_3 rfl dX7_allSheaves_18 ?_
        refine lv_iadd hx hb dX7_allSheaves_19 ?_
        refine lv_istore_n (lv' := [(1, .int (x1_4 + (w 3 (x2_4.toNatClampNeg)))), (2, .int x2_4), (0, .ref (ad 0))]) hx hb dX7_allSheaves_20 rfl hl (by decide) rfl (fun ls hl => ?_)
        refine lv_iinc (v := x2_4 + 1) (lv' := [(2, .int (x2_4 + 1)), (1, .int (x1_4 + (w 3 (x2_4.toNatClampNeg)))), (0, .ref (ad 0))]) hx hb dX7_allSheaves_21 hl (k := 1) rfl rfl (by decide) rfl (fun ls hl => ?_)
        refine lv_goto (tgt := 4) hx hb dX7_allSheaves_24 (by decide) ?_
        try have := i_addr (a := x2_4) (b := 1) (n := 1) q_1 (by omega) (by omega)
        exact ih_4 (x1_4 + (w 3 (x2_4.toNatClampNeg))) (x2_4 + 1) ls ⟨by omega, by omega⟩ (by omega) (lv_sub hl [0, 1, 2] rfl) E
  have := q_0
  exact L_4 13 0 0 ls ⟨by omega, by omega⟩ (by omega) (lv_sub hl [0, 1, 2] rfl) E
abbrev rmX7_farthest : Room := { frames := 0, cells := 0, slots := 0, locals := 0 }
set_option maxHeartbeats 4000000 in
set_option maxRecDepth 100000 in
theorem kX7_farthest (l : Launch) (D : va_G) (cI : ClassId) (ad : Nat → Nat) (w : Nat → Nat → Int32)  (hI : R7I w)  : Met l yX7_farthest wsX7_farthest rmX7_farthest (va_Pc [Value.ref (ad 0)] (fun U => va_P D vwCl (RM cI ad w) U.heap ∧ va_K D vwCl [(cI, .int)] U)) (vp_Si (fun r => r = sX7_farthest w)) 0 0 (fun _ => False) := by
  refine Met.ofW (cc := cX7_farthest) (maxL := 3) (ret := (some .int)) (by decide) rfl ?_
  intro p e s m args below meth c s₁ B hml hv
  obtain ⟨rfl, hP, hK⟩ := hv
  have hx := B.exec
  have hb := B.bytes
  have hr := B.returns
  have hts := atoms_spec (ws := wsX7_farthest) B.pre
  have hown : s.vm.findClass RX7 = some m.cls := findClass_of_methodNamed B.named
  have hlocks := B.notSynchronized
  have hin : ∀ q ∈ wsX70, q ∈ wsX7_farthest := by decide +kernel
  have hl := lv_entry ([.ref (ad 0)]) (n := 3) (Nat.le_of_ble_eq_true rfl)
  rw [lg_entry_eq]
  generalize (lg_sl ([.ref (ad 0)]) ++ List.replicate (3 - (lg_sl ([.ref (ad 0)])).length) Slot.unset).toArray = ls at hl ⊢
  have hl : lv_has ls 3 [(0, .ref (ad 0))] := hl
  have E := sX7_farthest.eq_1 w
  refine lv_iconst (v := 0) hx hb dX7_farthest_0 (by decide) ?_
  refine lv_istore_n (lv' := [(1, .int 0), (0, .ref (ad 0))]) hx hb dX7_farthest_1 rfl hl (by decide) rfl (fun ls hl => ?_)
  refine lv_iconst (v := 1) hx hb dX7_farthest_2 (by decide) ?_
  refine lv_istore_n (lv' := [(2, .int 1), (1, .int 0), (0, .ref (ad 0))]) hx hb dX7_farthest_3 rfl hl (by decide) rfl (fun ls hl => ?_)
  have L_4 : ∀ (n_4 : Nat) (x1_4 : Int32) (x2_4 : Int32) (ls : Array Slot), ((0 ≤ x2_4.toInt) ∧ (x2_4.toInt ≤ 12) ∧ (0 ≤ x1_4.toInt) ∧ (x1_4.toInt < 12)) → (12 - x2_4.toInt < (n_4 : Int)) → lv_has ls 3 [(2, .int x2_4), (1, .int x1_4), (0, .ref (ad 0))] → sX7_farthest w = sX7_farthest_4 w n_4 x1_4 x2_4 → W p l e (headSpec wsX7_farthest rmX7_farthest).room s m [Value.ref (ad 0)].toArray below meth c s.heap [] 0 0 (MQ below (vp_Si (fun r => r = sX7_farthest w)) [Value.ref (ad 0)].toArray s 0 0 (fun _ => False)) (F0 m 4 ls []) := by
    intro n_4
    induction n_4 with
    | zero =>
      intro x1_4 x2_4 ls hinv hm
      obtain ⟨v0_4, v1_4, v2_4, v3_4⟩ := hinv
      exact absurd hm (by omega)
    | succ n_4 ih_4 =>
      intro x1_4 x2_4 ls hinv hm_4 hl E
      obtain ⟨v0_4, v1_4, v2_4, v3_4⟩ := hinv
      have E := E.trans (sX7_farthest_4.eq_2 ..)
      refine lv_iload_n hx hb dX7_farthest_4 rfl (lv_at hl 0 rfl) ?_
      refine lv_aload_n hx hb dX7_farthest_5 rfl (lv_at hl 2 rfl) ?_
      refine g7_layers hx hb hts hin hown hK hP (hts (.fieldLink RX7 67 "LoadedForTheLaneModel" "layers" "I") (by decide +kernel)) dX7_farthest_6 ?_
      have f_1 := R7I_layers hI
      refine lv_icmp_ge (tgt := 39) hx hb dX7_farthest_9 (by decide) (fun c_2 => ?_) (fun c_2 => ?_)
      · have E := E.trans (if_pos c_2)
        have fc_2 := i_le c_2
        refine lv_iload_n hx hb dX7_farthest_39 rfl (lv_at hl 1 rfl) ?_
        exact W.iret (v := x1_4) hx hb hr (fun t ht hW => ⟨_, rfl, E.symm, ht⟩) (fun q hq => by cases hq) dX7_farthest_40
      · have E := E.trans (if_neg c_2)
        have fc_2 := i_nle c_2
        refine lv_aload_n hx hb dX7_farthest_12 rfl (lv_at hl 2 rfl) ?_
        refine g7_out hx hb hts hin hown hK hP (hts (.fieldLink RX7 22 "LoadedForTheLaneModel" "out" "[I") (by decide +kernel)) dX7_farthest_13 ?_
        refine lv_iload_n hx hb dX7_farthest_16 rfl (lv_at hl 0 rfl) ?_
        have ix_3 : vp_in x2_4 12 := ix_of (by omega) (by omega)
        refine l7_out (j := x2_4.toNatClampNeg) hx hb hK hP ix_3 rfl dX7_farthest_17 ?_
        refine lv_aload_n hx hb dX7_farthest_18 rfl (lv_at hl 2 rfl) ?_
        refine g7_out hx hb hts hin hown hK hP (hts (.fieldLink RX7 22 "LoadedForTheLaneModel" "out" "[I") (by decide +kernel)) dX7_farthest_19 ?_
        refine lv_iload_n hx hb dX7_farthest_22 rfl (lv_at hl 1 rfl) ?_
        have ix_4 : vp_in x1_4 12 := ix_of (by omega) (by omega)
        refine l7_out (j := x1_4.toNatClampNeg) hx hb hK hP ix_4 rfl dX7_farthest_23 ?_
        refine lv_icmp_le (tgt := 31) hx hb dX7_farthest_24 (by decide) (fun c_5 => ?_) (fun c_5 => ?_)
        · have E := E.trans (if_pos c_5)
          have fc_5 := i_le c_5
          refine lv_iload_n hx hb dX7_farthest_31 rfl (lv_at hl 1 rfl) ?_
          refine lv_istore_n (lv' := [(1, .int x1_4), (2, .int x2_4), (0, .ref (ad 0))]) hx hb dX7_farthest_32 rfl hl (by decide) rfl (fun ls hl => ?_)
          refine lv_iinc (v := x2_4 + 1) (lv' := [(2, .int (x2_4 + 1)), (1, .int x1_4), (0, .ref (ad 0))]) hx hb dX7_farthest_33 hl (k := 1) rfl rfl (by decide) rfl (fun ls hl => ?_)
          refine lv_goto (tgt := 4) hx hb dX7_farthest_36 (by decide) ?_
          try have := i_addr (a := x2_4) (b := 1) (n := 1) q_1 (by omega) (by omega)
          exact ih_4 x1_4 (x2_4 + 1) ls ⟨by omega, by omega, by omega, by omega⟩ (by omega) (lv_sub hl [0, 1, 2] rfl) E
        · have E := E.trans (if_neg c_5)
          have fc_5 := i_nle c_5
          refine lv_iload_n hx hb dX7_farthest_27 rfl (lv_at hl 0 rfl) ?_
          refine lv_goto (tgt := 32) hx hb dX7_farthest_28 (by decide) ?_
          refine lv_istore_n (lv' := [(1, .int x2_4), (2, .int x2_4), (0, .ref (ad 0))]) hx hb dX7_farthest_32 rfl hl (by decide) rfl (fun ls hl => ?_)
          refine lv_iinc (v := x2_4 + 1) (lv' := [(2, .int (x2_4 + 1)), (1, .int x2_4), (0, .ref (ad 0))]) hx hb dX7_farthest_33 hl (k := 1) rfl rfl (by decide) rfl (fun ls hl => ?_)
          refine lv_goto (tgt := 4) hx hb dX7_farthest_36 (by decide) ?_
          try have := i_addr (a := x2_4) (b := 1) (n := 1) q_1 (by omega) (by omega)
          exact ih_4 x2_4 (x2_4 + 1) ls ⟨by omega, by omega, by omega, by omega⟩ (by omega) (lv_sub hl [0, 1, 2] rfl) E
  have := q_0
  have := q_1
  exact L_4 13 0 1 ls ⟨by omega, by omega, by omega, by omega⟩ (by omega) (lv_sub hl [0, 1, 2] rfl) E
abbrev rmX7_widthNow : Room := { frames := 1, cells := 0, slots := 0, locals := 22 }
set_option maxHeartbeats 4000000 in
set_option maxRecDepth 100000 in
theorem kX7_widthNow (l : Launch) (D : va_G) (cI : ClassId) (ad : Nat → Nat) (w : Nat → Nat → Int32)  (hI : R7I w)  : Met l yX7_widthNow wsX7_widthNow rmX7_widthNow (va_Pc [Value.ref (ad 0)] (fun U => va_P D vwCl (RM cI ad w) U.heap ∧ va_K D vwCl [(cI, .int)] U)) (vp_Si (fun r => r = sX7_widthNow w)) 0 0 (fun _ => False) := by
  refine Met.ofW (cc := cX7_widthNow) (maxL := 1) (ret := (some .int)) (by decide) rfl ?_
  intro p e s m args below meth c s₁ B hml hv
  obtain ⟨rfl, hP, hK⟩ := hv
  have hx := B.exec
  have hb := B.bytes
  have hr := B.returns
  have hts := atoms_spec (ws := wsX7_widthNow) B.pre
  have hown : s.vm.findClass RX7 = some m.cls := findClass_of_methodNamed B.named
  have hlocks := B.notSynchronized
  have hin : ∀ q ∈ wsX70, q ∈ wsX7_widthNow := by decide +kernel
  have hl := lv_entry ([.ref (ad 0)]) (n := 1) (Nat.le_of_ble_eq_true rfl)
  rw [lg_entry_eq]
  generalize (lg_sl ([.ref (ad 0)]) ++ List.replicate (1 - (lg_sl ([.ref (ad 0)])).length) Slot.unset).toArray = ls at hl ⊢
  have hl : lv_has ls 1 [(0, .ref (ad 0))] := hl
  have E := sX7_widthNow.eq_1 w
  refine lv_bipush (v := 96) hx hb dX7_widthNow_0 (by decide +kernel) ?_
  refine lv_aload_n hx hb dX7_widthNow_2 rfl (lv_at hl 0 rfl) ?_
  refine g7_layers hx hb hts hin hown hK hP (hts (.fieldLink RX7 67 "LoadedForTheLaneModel" "layers" "I") (by decide +kernel)) dX7_widthNow_3 ?_
  have f_1 := R7I_layers hI
  refine lv_if_ne (tgt := 13) hx hb dX7_widthNow_6 (by decide) (fun c_2 => ?_) (fun c_2 => ?_)
  · have E := E.trans (if_neg c_2)
    have fc_2 := i_ne c_2
    rw [q_0] at fc_2
    refine lv_iconst (v := 2) hx hb dX7_widthNow_13 (by decide) ?_
    refine lv_aload_n hx hb dX7_widthNow_14 rfl (lv_at hl 0 rfl) ?_
    refine g7_out hx hb hts hin hown hK hP (hts (.fieldLink RX7 22 "LoadedForTheLaneModel" "out" "[I") (by decide +kernel)) dX7_widthNow_15 ?_
    refine lv_aload_n hx hb dX7_widthNow_18 rfl (lv_at hl 0 rfl) ?_
    refine vp_callSi (va_Run.run (va_runV (As := []) (rest := [.ref (ad 5), .int 2, .int 96]) ⟨hx, hb, hml, hown, hts⟩ (kX7_farthest l D cI ad w hI) (cwV 0 hts gX7_widthNow_X7_farthest rfl rfl rfl mdX7_farthest ⟨Nat.le_of_ble_eq_true rfl, Nat.le_of_ble_eq_true rfl⟩) (r7_pre hK hP) rfl rfl hl.1 rfl (lv_room (Nat.le_of_ble_eq_true rfl)) dX7_widthNow_19 ⟨Nat.zero_le _, Nat.zero_le _⟩)) (fun r_3 hr_3 => ?_)
    subst hr_3
    have rf_3 := rX7_farthest hI
    have ix_4 : vp_in (sX7_farthest w) 12 := ix_of (by omega) (by omega)
    refine l7_out (j := (sX7_farthest w).toNatClampNeg) hx hb hK hP ix_4 rfl dX7_widthNow_22 ?_
    refine lv_imul hx hb dX7_widthNow_23 ?_
    refine lv_iadd hx hb dX7_widthNow_24 ?_
    exact W.iret (v := 96 + (2 * (w 4 ((sX7_farthest w).toNatClampNeg)))) hx hb hr (fun t ht hW => ⟨_, rfl, E.symm, ht⟩) (fun q hq => by cases hq) dX7_widthNow_25
  · have E := E.trans (if_pos c_2)
    have fc_2 := i_eq c_2
    rw [q_0] at fc_2
    refine lv_iconst (v := 0) hx hb dX7_widthNow_9 (by decide) ?_
    refine lv_goto (tgt := 24) hx hb dX7_widthNow_10 (by decide) ?_
    refine lv_iadd hx hb dX7_widthNow_24 ?_
    exact W.iret (v := 96 + 0) hx hb hr (fun t ht hW => ⟨_, rfl, E.symm, ht⟩) (fun q hq => by cases hq) dX7_widthNow_25
abbrev rmX7_shiftAt : Room := { frames := 2, cells := 0, slots := 0, locals := 45 }
set_option maxHeartbeats 4000000 in
set_option maxRecDepth 100000 in
theorem kX7_shiftAt (l : Launch) (D : va_G) (cI : ClassId) (ad : Nat → Nat) (w : Nat → Nat → Int32) (a1 : Int32) (a2 : Int32)  (hI : R7I w) (h1 : 0 ≤ a1.toInt) (h2 : a1.toInt < 12) (h3 : 0 ≤ a2.toInt) (h4 : a2.toInt < 12) : Met l yX7_shiftAt wsX7_shiftAt rmX7_shiftAt (va_Pc [Value.ref (ad 0), Value.int a1, Value.int a2] (fun U => va_P D vwCl (RM cI ad w) U.heap ∧ va_K D vwCl [(cI, .int)] U)) (vp_Si (fun r => r = sX7_shiftAt w a1 a2)) 0 0 (fun _ => False) := by
  refine Met.ofW (cc := cX7_shiftAt) (maxL := 6) (ret := (some .int)) (by decide) rfl ?_
  intro p e s m args below meth c s₁ B hml hv
  obtain ⟨rfl, hP, hK⟩ := hv
  have hx := B.exec
  have hb := B.bytes
  have hr := B.returns
  have hts := atoms_spec (ws := wsX7_shiftAt) B.pre
  have hown : s.vm.findClass RX7 = some m.cls := findClass_of_methodNamed B.named
  have hlocks := B.notSynchronized
  have hin : ∀ q ∈ wsX70, q ∈ wsX7_shiftAt := by decide +kernel
  have hl := lv_entry ([.ref (ad 0), .int a1, .int a2]) (n := 6) (Nat.le_of_ble_eq_true rfl)
  rw [lg_entry_eq]
  generalize (lg_sl ([.ref (ad 0), .int a1, .int a2]) ++ List.replicate (6 - (lg_sl ([.ref (ad 0), .int a1, .int a2])).length) Slot.unset).toArray = ls at hl ⊢
  have hl : lv_has ls 6 [(0, .ref (ad 0)), (1, .int a1), (2, .int a2)] := hl
  have E := sX7_shiftAt.eq_1 w a1 a2
  refine lv_aload_n hx hb dX7_shiftAt_0 rfl (lv_at hl 0 rfl) ?_
  refine g7_figure hx hb hts hin hown hK hP (hts (.fieldLink RX7 34 "LoadedForTheLaneModel" "figure" "[I") (by decide +kernel)) dX7_shiftAt_1 ?_
  refine lv_iload_n hx hb dX7_shiftAt_4 rfl (lv_at hl 1 rfl) ?_
  have ix_1 : vp_in a1 12 := ix_of (by omega) (by omega)
  refine l7_figure (j := a1.toNatClampNeg) hx hb hK hP ix_1 rfl dX7_shiftAt_5 ?_
  refine lv_istore_n (lv' := [(3, .int (w 8 (a1.toNatClampNeg))), (0, .ref (ad 0)), (1, .int a1), (2, .int a2)]) hx hb dX7_shiftAt_6 rfl hl (by decide) rfl (fun ls hl => ?_)
  refine lv_aload_n hx hb dX7_shiftAt_7 rfl (lv_at hl 1 rfl) ?_
  refine lv_iload_n hx hb dX7_shiftAt_8 rfl (lv_at hl 3 rfl) ?_
  refine vp_callSi (va_Run.run (va_runV (As := [.int a2]) (rest := []) ⟨hx, hb, hml, hown, hts⟩ (kX7_loadOf l D cI ad w a2 hI (by omega) (by omega)) (cwV 1 hts gX7_shiftAt_X7_loadOf rfl rfl rfl mdX7_loadOf ⟨Nat.le_of_ble_eq_true rfl, Nat.le_of_ble_eq_true rfl⟩) (r7_pre hK hP) rfl rfl hl.1 rfl (lv_room (Nat.le_of_ble_eq_true rfl)) dX7_shiftAt_9 ⟨Nat.zero_le _, Nat.zero_le _⟩)) (fun r_2 hr_2 => ?_)
  subst hr_2
  refine lv_istore (lv' := [(4, .int (sX7_loadOf w a2)), (3, .int (w 8 (a1.toNatClampNeg))), (0, .ref (ad 0)), (1, .int a1), (2, .int a2)]) hx hb dX7_shiftAt_12 hl (by decide) rfl (fun ls hl => ?_)
  refine lv_iload_n hx hb dX7_shiftAt_14 rfl (lv_at hl 1 rfl) ?_
  refine lv_bipush (v := 10) hx hb dX7_shiftAt_15 (by decide +kernel) ?_
  refine lv_isub hx hb dX7_shiftAt_17 ?_
  refine lv_aload_n hx hb dX7_shiftAt_18 rfl (lv_at hl 2 rfl) ?_
  refine g7_lean hx hb hts hin hown hK hP (hts (.fieldLink RX7 25 "LoadedForTheLaneModel" "lean" "[I") (by decide +kernel)) dX7_shiftAt_19 ?_
  refine lv_iload_n hx hb dX7_shiftAt_22 rfl (lv_at hl 4 rfl) ?_
  have ix_3 : vp_in a2 12 := ix_of (by omega) (by omega)
  refine l7_lean (j := a2.toNatClampNeg) hx hb hK hP ix_3 rfl dX7_shiftAt_23 ?_
  refine lv_iadd hx hb dX7_shiftAt_24 ?_
  refine lv_istore (lv' := [(5, .int (((w 8 (a1.toNatClampNeg)) - 10) + (w 5 (a2.toNatClampNeg)))), (4, .int (sX7_loadOf w a2)), (3, .int (w 8 (a1.toNatClampNeg))), (0, .ref (ad 0)), (1, .int a1), (2, .int a2)]) hx hb dX7_shiftAt_25 hl (by decide) rfl (fun ls hl => ?_)
  refine lv_aload_n hx hb dX7_shiftAt_27 rfl (lv_at hl 3 rfl) ?_
  refine g7_sort hx hb hts hin hown hK hP (hts (.fieldLink RX7 31 "LoadedForTheLaneModel" "sort" "[I") (by decide +kernel)) dX7_shiftAt_28 ?_
  refine lv_iload_n hx hb dX7_shiftAt_31 rfl (lv_at hl 4 rfl) ?_
  have ix_4 : vp_in a1 12 := ix_of (by omega) (by omega)
  refine l7_sort (j := a1.toNatClampNeg) hx hb hK hP ix_4 rfl dX7_shiftAt_32 ?_
  by_cases c_5 : (w 7 (a1.toNatClampNeg)) = 0
  · have E := E.trans (if_pos c_5)
    refine lv_tableIn (off := 31) (tgt := 64) hx hb dX7_shiftAt_33 (by rw [c_5]; decide) (by rw [c_5]; decide) (by rw [c_5]; rfl) (by decide) ?_
    have fc_5 := i_eq c_5
    rw [q_0] at fc_5
    refine lv_iload hx hb dX7_shiftAt_64 (lv_at hl 1 rfl) ?_
    refine lv_iload hx hb dX7_shiftAt_66 (lv_at hl 0 rfl) ?_
    try have := i_subr (a := w 8 (a1.toNatClampNeg)) (b := 10) (n := 10) q_10 (by omega) (by omega)
    try have := i_add (a := (w 8 (a1.toNatClampNeg)) - 10) (b := w 5 (a2.toNatClampNeg)) (by omega) (by omega)
    refine lv_if_ge (tgt := 77) hx hb dX7_shiftAt_68 (by decide) (fun c_6 => ?_) (fun c_6 => ?_)
    · have E := E.trans (if_pos c_6)
      have fc_6 := i_le c_6
      rw [q_0] at fc_6
      refine lv_iload hx hb dX7_shiftAt_77 (lv_at hl 0 rfl) ?_
      refine lv_imul hx hb dX7_shiftAt_79 ?_
      refine lv_bipush (v := 40) hx hb dX7_shiftAt_80 (by decide +kernel) ?_
      refine lv_idiv hx hb dX7_shiftAt_82 (by decide) ?_
      exact W.iret (v := ((sX7_loadOf w a2) * (((w 8 (a1.toNatClampNeg)) - 10) + (w 5 (a2.toNatClampNeg)))) / 40) hx hb hr (fun t ht hW => ⟨_, rfl, E.symm, ht⟩) (fun q hq => by cases hq) dX7_shiftAt_83
    · have E := E.trans (if_neg c_6)
      have fc_6 := i_nle c_6
      rw [q_0] at fc_6
      refine lv_iload hx hb dX7_shiftAt_71 (lv_at hl 0 rfl) ?_
      refine lv_ineg hx hb dX7_shiftAt_73 ?_
      refine lv_goto (tgt := 79) hx hb dX7_shiftAt_74 (by decide) ?_
      refine lv_imul hx hb dX7_shiftAt_79 ?_
      refine lv_bipush (v := 40) hx hb dX7_shiftAt_80 (by decide +kernel) ?_
      refine lv_idiv hx hb dX7_shiftAt_82 (by decide) ?_
      exact W.iret (v := ((sX7_loadOf w a2) * (-(((w 8 (a1.toNatClampNeg)) - 10) + (w 5 (a2.toNatClampNeg))))) / 40) hx hb hr (fun t ht hW => ⟨_, rfl, E.symm, ht⟩) (fun q hq => by cases hq) dX7_shiftAt_83
  have E := E.trans (if_neg c_5)
  have fc_5 := i_ne c_5
  rw [q_0] at fc_5
  by_cases c_7 : (w 7 (a1.toNatClampNeg)) = 1
  · have E := E.trans (if_pos c_7)
    refine lv_tableIn (off := 51) (tgt := 84) hx hb dX7_shiftAt_33 (by rw [c_7]; decide) (by rw [c_7]; decide) (by rw [c_7]; rfl) (by decide) ?_
    have fc_7 := i_eq c_7
    rw [q_1] at fc_7
    refine lv_iload hx hb dX7_shiftAt_84 (lv_at hl 1 rfl) ?_
    refine lv_iload_n hx hb dX7_shiftAt_86 rfl (lv_at hl 2 rfl) ?_
    refine lv_imul hx hb dX7_shiftAt_87 ?_
    refine lv_bipush (v := 60) hx hb dX7_shiftAt_88 (by decide +kernel) ?_
    refine lv_idiv hx hb dX7_shiftAt_90 (by decide) ?_
    exact W.iret (v := ((sX7_loadOf w a2) * (w 8 (a1.toNatClampNeg))) / 60) hx hb hr (fun t ht hW => ⟨_, rfl, E.symm, ht⟩) (fun q hq => by cases hq) dX7_shiftAt_91
  have E := E.trans (if_neg c_7)
  have fc_7 := i_ne c_7
  rw [q_1] at fc_7
  by_cases c_8 : (w 7 (a1.toNatClampNeg)) = 2
  · have E := E.trans (if_pos c_8)
    refine lv_tableIn (off := 59) (tgt := 92) hx hb dX7_shiftAt_33 (by rw [c_8]; decide) (by rw [c_8]; decide) (by rw [c_8]; rfl) (by decide) ?_
    have fc_8 := i_eq c_8
    rw [q_2] at fc_8
    refine lv_iload hx hb dX7_shiftAt_92 (lv_at hl 1 rfl) ?_
    refine lv_iload_n hx hb dX7_shiftAt_94 rfl (lv_at hl 2 rfl) ?_
    refine lv_imul hx hb dX7_shiftAt_95 ?_
    refine lv_bipush (v := 60) hx hb dX7_shiftAt_96 (by decide +kernel) ?_
    refine lv_idiv hx hb dX7_shiftAt_98 (by decide) ?_
    refine lv_iload_n hx hb dX7_shiftAt_99 rfl (lv_at hl 5 rfl) ?_
    refine lv_iconst (v := 1) hx hb dX7_shiftAt_100 (by decide) ?_
    refine lv_iadd hx hb dX7_shiftAt_101 ?_
    refine lv_imul hx hb dX7_shiftAt_102 ?_
    refine lv_iconst (v := 3) hx hb dX7_shiftAt_103 (by decide) ?_
    refine lv_idiv hx hb dX7_shiftAt_104 (by decide) ?_
    exact W.iret (v := ((((sX7_loadOf w a2) * (w 8 (a1.toNatClampNeg))) / 60) * (a2 + 1)) / 3) hx hb hr (fun t ht hW => ⟨_, rfl, E.symm, ht⟩) (fun q hq => by cases hq) dX7_shiftAt_105
  have E := E.trans (if_neg c_8)
  have fc_8 := i_ne c_8
  rw [q_2] at fc_8
  by_cases c_9 : (w 7 (a1.toNatClampNeg)) = 3
  · have E := E.trans (if_pos c_9)
    refine lv_tableIn (off := 73) (tgt := 106) hx hb dX7_shiftAt_33 (by rw [c_9]; decide) (by rw [c_9]; decide) (by rw [c_9]; rfl) (by decide) ?_
    have fc_9 := i_eq c_9
    rw [q_3] at fc_9
    refine lv_iload hx hb dX7_shiftAt_106 (lv_at hl 1 rfl) ?_
    refine lv_iload_n hx hb dX7_shiftAt_108 rfl (lv_at hl 2 rfl) ?_
    refine lv_aload_n hx hb dX7_shiftAt_109 rfl (lv_at hl 3 rfl) ?_
    refine g7_out hx hb hts hin hown hK hP (hts (.fieldLink RX7 22 "LoadedForTheLaneModel" "out" "[I") (by decide +kernel)) dX7_shiftAt_110 ?_
    refine lv_iload_n hx hb dX7_shiftAt_113 rfl (lv_at hl 5 rfl) ?_
    have ix_10 : vp_in a2 12 := ix_of (by omega) (by omega)
    refine l7_out (j := a2.toNatClampNeg) hx hb hK hP ix_10 rfl dX7_shiftAt_114 ?_
    refine lv_iadd hx hb dX7_shiftAt_115 ?_
    refine lv_imul hx hb dX7_shiftAt_116 ?_
    refine lv_bipush (v := 50) hx hb dX7_shiftAt_117 (by decide +kernel) ?_
    refine lv_idiv hx hb dX7_shiftAt_119 (by decide) ?_
    exact W.iret (v := ((sX7_loadOf w a2) * ((w 8 (a1.toNatClampNeg)) + (w 4 (a2.toNatClampNeg)))) / 50) hx hb hr (fun t ht hW => ⟨_, rfl, E.symm, ht⟩) (fun q hq => by cases hq) dX7_shiftAt_120
  have E := E.trans (if_neg c_9)
  have fc_9 := i_ne c_9
  rw [q_3] at fc_9
  refine lv_tableOut (tgt := 121) hx hb dX7_shiftAt_33 (by omega) (by decide) ?_
  refine lv_iconst (v := 0) hx hb dX7_shiftAt_121 (by decide) ?_
  exact W.iret (v := 0) hx hb hr (fun t ht hW => ⟨_, rfl, E.symm, ht⟩) (fun q hq => by cases hq) dX7_shiftAt_122
abbrev rmX7_spare : Room := { frames := 3, cells := 0, slots := 0, locals := 70 }
set_option maxHeartbeats 4000000 in
set_option maxRecDepth 100000 in
theorem kX7_spare (l : Launch) (D : va_G) (cI : ClassId) (ad : Nat → Nat) (w : Nat → Nat → Int32) (a1 : Int32) (a2 : Int32)  (hI : R7I w) (h1 : 0 ≤ a1.toInt) (h2 : a1.toInt < 12) (h3 : 0 ≤ a2.toInt) (h4 : a2.toInt < 12) : Met l yX7_spare wsX7_spare rmX7_spare (va_Pc [Value.ref (ad 0), Value.int a1, Value.int a2] (fun U => va_P D vwCl (RM cI ad w) U.heap ∧ va_K D vwCl [(cI, .int)] U)) (vp_Si (fun r => r = sX7_spare w a1 a2)) 0 0 (fun _ => False) := by
  refine Met.ofW (cc := cX7_spare) (maxL := 3) (ret := (some .int)) (by decide) rfl ?_
  intro p e s m args below meth c s₁ B hml hv
  obtain ⟨rfl, hP, hK⟩ := hv
  have hx := B.exec
  have hb := B.bytes
  have hr := B.returns
  have hts := atoms_spec (ws := wsX7_spare) B.pre
  have hown : s.vm.findClass RX7 = some m.cls := findClass_of_methodNamed B.named
  have hlocks := B.notSynchronized
  have hin : ∀ q ∈ wsX70, q ∈ wsX7_spare := by decide +kernel
  have hl := lv_entry ([.ref (ad 0), .int a1, .int a2]) (n := 3) (Nat.le_of_ble_eq_true rfl)
  rw [lg_entry_eq]
  generalize (lg_sl ([.ref (ad 0), .int a1, .int a2]) ++ List.replicate (3 - (lg_sl ([.ref (ad 0), .int a1, .int a2])).length) Slot.unset).toArray = ls at hl ⊢
  have hl : lv_has ls 3 [(0, .ref (ad 0)), (1, .int a1), (2, .int a2)] := hl
  have E := sX7_spare.eq_1 w a1 a2
  refine lv_aload_n hx hb dX7_spare_0 rfl (lv_at hl 0 rfl) ?_
  refine lv_iload_n hx hb dX7_spare_1 rfl (lv_at hl 2 rfl) ?_
  refine vp_callSi (va_Run.run (va_runV (As := [.int a2]) (rest := []) ⟨hx, hb, hml, hown, hts⟩ (kX7_bindingOf l D cI ad w a2 (by omega) (by omega)) (cwV 1 hts gX7_spare_X7_bindingOf rfl rfl rfl mdX7_bindingOf ⟨Nat.le_of_ble_eq_true rfl, Nat.le_of_ble_eq_true rfl⟩) (r7_pre hK hP) rfl rfl hl.1 rfl (lv_room (Nat.le_of_ble_eq_true rfl)) dX7_spare_2 ⟨Nat.zero_le _, Nat.zero_le _⟩)) (fun r_1 hr_1 => ?_)
  subst hr_1
  refine lv_bipush (v := 15) hx hb dX7_spare_5 (by decide +kernel) ?_
  refine lv_aload_n hx hb dX7_spare_7 rfl (lv_at hl 0 rfl) ?_
  refine g7_setting hx hb hts hin hown hK hP (hts (.fieldLink RX7 13 "LoadedForTheLaneModel" "setting" "[I") (by decide +kernel)) dX7_spare_8 ?_
  refine lv_iconst (v := 0) hx hb dX7_spare_11 (by decide) ?_
  have ix_2 : vp_in 0 4 := by unfold vp_in; decide
  refine l7_setting (j := 0) hx hb hK hP ix_2 (by decide) dX7_spare_12 ?_
  refine lv_imul hx hb dX7_spare_13 ?_
  refine lv_iadd hx hb dX7_spare_14 ?_
  refine lv_aload_n hx hb dX7_spare_15 rfl (lv_at hl 0 rfl) ?_
  refine lv_iload_n hx hb dX7_spare_16 rfl (lv_at hl 1 rfl) ?_
  refine lv_iload_n hx hb dX7_spare_17 rfl (lv_at hl 2 rfl) ?_
  refine vp_callSi (va_Run.run (va_runV (As := [.int a1, .int a2]) (rest := [.int ((sX7_bindingOf w a2) + (15 * (w 1 0)))]) ⟨hx, hb, hml, hown, hts⟩ (kX7_shiftAt l D cI ad w a1 a2 hI (by omega) (by omega) (by omega) (by omega)) (cwV 2 hts gX7_spare_X7_shiftAt rfl rfl rfl mdX7_shiftAt ⟨Nat.le_of_ble_eq_true rfl, Nat.le_of_ble_eq_true rfl⟩) (r7_pre hK hP) rfl rfl hl.1 rfl (lv_room (Nat.le_of_ble_eq_true rfl)) dX7_spare_18 ⟨Nat.zero_le _, Nat.zero_le _⟩)) (fun r_3 hr_3 => ?_)
  subst hr_3
  refine lv_isub hx hb dX7_spare_21 ?_
  exact W.iret (v := ((sX7_bindingOf w a2) + (15 * (w 1 0))) - (sX7_shiftAt w a1 a2)) hx hb hr (fun t ht hW => ⟨_, rfl, E.symm, ht⟩) (fun q hq => by cases hq) dX7_spare_22
abbrev rmX7_isShift : Room := { frames := 0, cells := 0, slots := 0, locals := 0 }
set_option maxHeartbeats 4000000 in
set_option maxRecDepth 100000 in
theorem kX7_isShift (l : Launch) (D : va_G) (cI : ClassId) (ad : Nat → Nat) (w : Nat → Nat → Int32) (a1 : Int32)  (h1 : 0 ≤ a1.toInt) (h2 : a1.toInt < 12) : Met l yX7_isShift wsX7_isShift rmX7_isShift (va_Pc [Value.ref (ad 0), Value.int a1] (fun U => va_P D vwCl (RM cI ad w) U.heap ∧ va_K D vwCl [(cI, .int)] U)) (vp_Si (fun r => r = sX7_isShift w a1 ∧ (r = 0 ∨ r = 1))) 0 0 (fun _ => False) := by
  refine Met.ofW (cc := cX7_isShift) (maxL := 2) (ret := (some .boolean)) (by decide) rfl ?_
  intro p e s m args below meth c s₁ B hml hv
  obtain ⟨rfl, hP, hK⟩ := hv
  have hx := B.exec
  have hb := B.bytes
  have hr := B.returns
  have hts := atoms_spec (ws := wsX7_isShift) B.pre
  have hown : s.vm.findClass RX7 = some m.cls := findClass_of_methodNamed B.named
  have hlocks := B.notSynchronized
  have hin : ∀ q ∈ wsX70, q ∈ wsX7_isShift := by decide +kernel
  have hl := lv_entry ([.ref (ad 0), .int a1]) (n := 2) (Nat.le_of_ble_eq_true rfl)
  rw [lg_entry_eq]
  generalize (lg_sl ([.ref (ad 0), .int a1]) ++ List.replicate (2 - (lg_sl ([.ref (ad 0), .int a1])).length) Slot.unset).toArray = ls at hl ⊢
  have hl : lv_has ls 2 [(0, .ref (ad 0)), (1, .int a1)] := hl
  have E := sX7_isShift.eq_1 w a1
  refine lv_aload_n hx hb dX7_isShift_0 rfl (lv_at hl 0 rfl) ?_
  refine g7_sort hx hb hts hin hown hK hP (hts (.fieldLink RX7 31 "LoadedForTheLaneModel" "sort" "[I") (by decide +kernel)) dX7_isShift_1 ?_
  refine lv_iload_n hx hb dX7_isShift_4 rfl (lv_at hl 1 rfl) ?_
  have ix_1 : vp_in a1 12 := ix_of (by omega) (by omega)
  refine l7_sort (j := a1.toNatClampNeg) hx hb hK hP ix_1 rfl dX7_isShift_5 ?_
  refine lv_iconst (v := 4) hx hb dX7_isShift_6 (by decide) ?_
  refine lv_icmp_ge (tgt := 14) hx hb dX7_isShift_7 (by decide) (fun c_2 => ?_) (fun c_2 => ?_)
  · have E := E.trans (if_pos c_2)
    have fc_2 := i_le c_2
    rw [q_4] at fc_2
    refine lv_iconst (v := 0) hx hb dX7_isShift_14 (by decide) ?_
    exact W.zret (ty := .boolean) (v := 0) hx hb hr (z_nar (Or.inl rfl)) (fun t ht hW => ⟨_, rfl, ⟨E.symm, (Or.inl rfl)⟩, ht⟩) (fun q hq => by cases hq) dX7_isShift_15
  · have E := E.trans (if_neg c_2)
    have fc_2 := i_nle c_2
    rw [q_4] at fc_2
    refine lv_iconst (v := 1) hx hb dX7_isShift_10 (by decide) ?_
    refine lv_goto (tgt := 15) hx hb dX7_isShift_11 (by decide) ?_
    exact W.zret (ty := .boolean) (v := 1) hx hb hr (z_nar (Or.inr rfl)) (fun t ht hW => ⟨_, rfl, ⟨E.symm, (Or.inr rfl)⟩, ht⟩) (fun q hq => by cases hq) dX7_isShift_15
