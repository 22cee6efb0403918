abbrev rmX0_weight : Room := { frames := 0, cells := 0, slots := 0, locals := 0 }
set_option maxHeartbeats 4000000 in
set_option maxRecDepth 100000 in
theorem kX0_weight (l : Launch)  (a1 : Int32) (a2 : Int32)   : Met l yX0_weight wsX0_weight rmX0_weight (va_Pc [Value.int a1, Value.int a2] (fun U => True)) (vp_Si (fun r => r = sX0_weight a1 a2)) 0 0 (fun _ => False) := by
  refine Met.ofW (cc := cX0_weight) (maxL := 2) (ret := (some .int)) (by decide) rfl ?_
  intro p e s m args below meth c s₁ B hml hv
  obtain ⟨rfl, -⟩ := hv
  have hx := B.exec
  have hb := B.bytes
  have hr := B.returns
  have hts := atoms_spec (ws := wsX0_weight) B.pre
  have hown : s.vm.findClass RX0 = some m.cls := findClass_of_methodNamed B.named
  have hlocks := B.notSynchronized
  have hl := lv_entry ([.int a1, .int a2]) (n := 2) (Nat.le_of_ble_eq_true rfl)
  rw [lg_entry_eq]
  generalize (lg_sl ([.int a1, .int a2]) ++ List.replicate (2 - (lg_sl ([.int a1, .int a2])).length) Slot.unset).toArray = ls at hl ⊢
  have hl : lv_has ls 2 [(0, .int a1), (1, .int a2)] := hl
  have E := sX0_weight.eq_1 a1 a2
  refine lv_iload_n hx hb dX0_weight_0 rfl (lv_at hl 0 rfl) ?_
  have D_1 : sX0_weight a1 a2 = 10 * a2 → W p l e (headSpec wsX0_weight rmX0_weight).room s m [Value.int a1, Value.int a2].toArray below meth c s.heap [] 0 0 (MQ below (vp_Si (fun r => r = sX0_weight a1 a2)) [Value.int a1, Value.int a2].toArray s 0 0 (fun _ => False)) (F0 m 45 ls []) := by
    intro E
    refine lv_bipush (v := 10) hx hb dX0_weight_45 (by decide +kernel) ?_
    refine lv_iload_n hx hb dX0_weight_47 rfl (lv_at hl 1 rfl) ?_
    refine lv_imul hx hb dX0_weight_48 ?_
    exact W.iret (v := 10 * a2) hx hb hr (fun t ht hW => ⟨_, rfl, E.symm, ht⟩) (fun q hq => by cases hq) dX0_weight_49
  by_cases c_1 : a1 = 3
  · have E := E.trans (if_pos c_1)
    refine lv_tableIn (off := 31) (tgt := 32) hx hb dX0_weight_1 (by rw [c_1]; decide) (by rw [c_1]; decide) (by rw [c_1]; rfl) (by decide) ?_
    have fc_1 := i_eq c_1
    rw [q_3] at fc_1
    refine lv_bipush (v := 14) hx hb dX0_weight_32 (by decide +kernel) ?_
    refine lv_iload_n hx hb dX0_weight_34 rfl (lv_at hl 1 rfl) ?_
    refine lv_imul hx hb dX0_weight_35 ?_
    exact W.iret (v := 14 * a2) hx hb hr (fun t ht hW => ⟨_, rfl, E.symm, ht⟩) (fun q hq => by cases hq) dX0_weight_36
  have E := E.trans (if_neg c_1)
  have fc_1 := i_ne c_1
  rw [q_3] at fc_1
  by_cases c_2 : a1 = 5
  · have E := E.trans (if_pos c_2)
    refine lv_tableIn (off := 36) (tgt := 37) hx hb dX0_weight_1 (by rw [c_2]; decide) (by rw [c_2]; decide) (by rw [c_2]; rfl) (by decide) ?_
    have fc_2 := i_eq c_2
    rw [q_5] at fc_2
    refine lv_bipush (v := 10) hx hb dX0_weight_37 (by decide +kernel) ?_
    refine lv_iload_n hx hb dX0_weight_39 rfl (lv_at hl 1 rfl) ?_
    refine lv_imul hx hb dX0_weight_40 ?_
    refine lv_bipush (v := 60) hx hb dX0_weight_41 (by decide +kernel) ?_
    refine lv_iadd hx hb dX0_weight_43 ?_
    exact W.iret (v := (10 * a2) + 60) hx hb hr (fun t ht hW => ⟨_, rfl, E.symm, ht⟩) (fun q hq => by cases hq) dX0_weight_44
  have E := E.trans (if_neg c_2)
  have fc_2 := i_ne c_2
  rw [q_5] at fc_2
  by_cases c_3 : a1 = 6
  · have E := E.trans (if_pos c_3)
    refine lv_tableIn (off := 31) (tgt := 32) hx hb dX0_weight_1 (by rw [c_3]; decide) (by rw [c_3]; decide) (by rw [c_3]; rfl) (by decide) ?_
    have fc_3 := i_eq c_3
    rw [q_6] at fc_3
    refine lv_bipush (v := 14) hx hb dX0_weight_32 (by decide +kernel) ?_
    refine lv_iload_n hx hb dX0_weight_34 rfl (lv_at hl 1 rfl) ?_
    refine lv_imul hx hb dX0_weight_35 ?_
    exact W.iret (v := 14 * a2) hx hb hr (fun t ht hW => ⟨_, rfl, E.symm, ht⟩) (fun q hq => by cases hq) dX0_weight_36
  have E := E.trans (if_neg c_3)
  have fc_3 := i_ne c_3
  rw [q_6] at fc_3
  by_cases c_4 : a1 = 4
  · refine lv_tableIn (off := 44) (tgt := 45) hx hb dX0_weight_1 (by rw [c_4]; decide) (by rw [c_4]; decide) (by rw [c_4]; rfl) (by decide) ?_
    exact D_1 E
  have fc_4 := i_ne c_4
  rw [q_4] at fc_4
  refine lv_tableOut (tgt := 45) hx hb dX0_weight_1 (by omega) (by decide) ?_
  exact D_1 E
abbrev rmX0_binding : Room := { frames := 1, cells := 0, slots := 0, locals := 13 }
set_option maxHeartbeats 4000000 in
set_option maxRecDepth 100000 in
theorem kX0_binding (l : Launch)  (a1 : Int32) (a2 : Int32)   : Met l yX0_binding wsX0_binding rmX0_binding (va_Pc [Value.int a1, Value.int a2] (fun U => True)) (vp_Si (fun r => r = sX0_binding a1 a2)) 0 0 (fun _ => False) := by
  refine Met.ofW (cc := cX0_binding) (maxL := 2) (ret := (some .int)) (by decide) rfl ?_
  intro p e s m args below meth c s₁ B hml hv
  obtain ⟨rfl, -⟩ := hv
  have hx := B.exec
  have hb := B.bytes
  have hr := B.returns
  have hts := atoms_spec (ws := wsX0_binding) B.pre
  have hown : s.vm.findClass RX0 = some m.cls := findClass_of_methodNamed B.named
  have hlocks := B.notSynchronized
  have hl := lv_entry ([.int a1, .int a2]) (n := 2) (Nat.le_of_ble_eq_true rfl)
  rw [lg_entry_eq]
  generalize (lg_sl ([.int a1, .int a2]) ++ List.replicate (2 - (lg_sl ([.int a1, .int a2])).length) Slot.unset).toArray = ls at hl ⊢
  have hl : lv_has ls 2 [(0, .int a1), (1, .int a2)] := hl
  have E := sX0_binding.eq_1 a1 a2
  refine lv_iload_n hx hb dX0_binding_0 rfl (lv_at hl 0 rfl) ?_
  have D_1 : sX0_binding a1 a2 = 5 * a2 → W p l e (headSpec wsX0_binding rmX0_binding).room s m [Value.int a1, Value.int a2].toArray below meth c s.heap [] 0 0 (MQ below (vp_Si (fun r => r = sX0_binding a1 a2)) [Value.int a1, Value.int a2].toArray s 0 0 (fun _ => False)) (F0 m 69 ls []) := by
    intro E
    refine lv_iconst (v := 5) hx hb dX0_binding_69 (by decide) ?_
    refine lv_iload_n hx hb dX0_binding_70 rfl (lv_at hl 1 rfl) ?_
    refine lv_imul hx hb dX0_binding_71 ?_
    exact W.iret (v := 5 * a2) hx hb hr (fun t ht hW => ⟨_, rfl, E.symm, ht⟩) (fun q hq => by cases hq) dX0_binding_72
  by_cases c_1 : a1 = 1
  · have E := E.trans (if_pos c_1)
    refine lv_tableIn (off := 39) (tgt := 40) hx hb dX0_binding_1 (by rw [c_1]; decide) (by rw [c_1]; decide) (by rw [c_1]; rfl) (by decide) ?_
    have fc_1 := i_eq c_1
    rw [q_1] at fc_1
    refine lv_bipush (v := 8) hx hb dX0_binding_40 (by decide +kernel) ?_
    refine lv_iload_n hx hb dX0_binding_42 rfl (lv_at hl 1 rfl) ?_
    refine lv_imul hx hb dX0_binding_43 ?_
    exact W.iret (v := 8 * a2) hx hb hr (fun t ht hW => ⟨_, rfl, E.symm, ht⟩) (fun q hq => by cases hq) dX0_binding_44
  have E := E.trans (if_neg c_1)
  have fc_1 := i_ne c_1
  rw [q_1] at fc_1
  by_cases c_2 : a1 = 2
  · have E := E.trans (if_pos c_2)
    refine lv_tableIn (off := 49) (tgt := 50) hx hb dX0_binding_1 (by rw [c_2]; decide) (by rw [c_2]; decide) (by rw [c_2]; rfl) (by decide) ?_
    have fc_2 := i_eq c_2
    rw [q_2] at fc_2
    refine lv_iconst (v := 5) hx hb dX0_binding_50 (by decide) ?_
    refine lv_iload_n hx hb dX0_binding_51 rfl (lv_at hl 1 rfl) ?_
    refine lv_imul hx hb dX0_binding_52 ?_
    refine lv_iconst (v := 2) hx hb dX0_binding_53 (by decide) ?_
    refine lv_idiv hx hb dX0_binding_54 (by decide) ?_
    exact W.iret (v := (5 * a2) / 2) hx hb hr (fun t ht hW => ⟨_, rfl, E.symm, ht⟩) (fun q hq => by cases hq) dX0_binding_55
  have E := E.trans (if_neg c_2)
  have fc_2 := i_ne c_2
  rw [q_2] at fc_2
  by_cases c_3 : a1 = 4
  · have E := E.trans (if_pos c_3)
    refine lv_tableIn (off := 55) (tgt := 56) hx hb dX0_binding_1 (by rw [c_3]; decide) (by rw [c_3]; decide) (by rw [c_3]; rfl) (by decide) ?_
    have fc_3 := i_eq c_3
    rw [q_4] at fc_3
    refine lv_iconst (v := 0) hx hb dX0_binding_56 (by decide) ?_
    refine lv_iconst (v := 5) hx hb dX0_binding_57 (by decide) ?_
    refine lv_iload_n hx hb dX0_binding_58 rfl (lv_at hl 1 rfl) ?_
    refine lv_imul hx hb dX0_binding_59 ?_
    refine lv_iconst (v := 2) hx hb dX0_binding_60 (by decide) ?_
    refine lv_idiv hx hb dX0_binding_61 (by decide) ?_
    refine lv_bipush (v := 10) hx hb dX0_binding_62 (by decide +kernel) ?_
    refine lv_isub hx hb dX0_binding_64 ?_
    refine va_mmax hx hb (hml.trans hl.1.symm) hown (hts (.methodLink RX0 17 Lib.Math.max.name) (by decide +kernel)) (hts (.static Lib.Math.max.name) (by decide +kernel)) (hts (.initialized "java/lang/Math") (by decide +kernel)) (hts (.code Lib.Math.max.name Lib.Math.max.code 2 (some .int)) (by decide +kernel)) (Nat.le_of_ble_eq_true rfl) (Nat.le_of_ble_eq_true rfl) (Nat.zero_le _) (Nat.zero_le _) dX0_binding_65 ?_
    exact W.iret (v := (if 0 < ((5 * a2) / 2) - 10 then ((5 * a2) / 2) - 10 else 0)) hx hb hr (fun t ht hW => ⟨_, rfl, E.symm, ht⟩) (fun q hq => by cases hq) dX0_binding_68
  have E := E.trans (if_neg c_3)
  have fc_3 := i_ne c_3
  rw [q_4] at fc_3
  by_cases c_4 : a1 = 5
  · have E := E.trans (if_pos c_4)
    refine lv_tableIn (off := 39) (tgt := 40) hx hb dX0_binding_1 (by rw [c_4]; decide) (by rw [c_4]; decide) (by rw [c_4]; rfl) (by decide) ?_
    have fc_4 := i_eq c_4
    rw [q_5] at fc_4
    refine lv_bipush (v := 8) hx hb dX0_binding_40 (by decide +kernel) ?_
    refine lv_iload_n hx hb dX0_binding_42 rfl (lv_at hl 1 rfl) ?_
    refine lv_imul hx hb dX0_binding_43 ?_
    exact W.iret (v := 8 * a2) hx hb hr (fun t ht hW => ⟨_, rfl, E.symm, ht⟩) (fun q hq => by cases hq) dX0_binding_44
  have E := E.trans (if_neg c_4)
  have fc_4 := i_ne c_4
  rw [q_5] at fc_4
  by_cases c_5 : a1 = 6
  · have E := E.trans (if_pos c_5)
    refine lv_tableIn (off := 44) (tgt := 45) hx hb dX0_binding_1 (by rw [c_5]; decide) (by rw [c_5]; decide) (by rw [c_5]; rfl) (by decide) ?_
    have fc_5 := i_eq c_5
    rw [q_6] at fc_5
    refine lv_bipush (v := 7) hx hb dX0_binding_45 (by decide +kernel) ?_
    refine lv_iload_n hx hb dX0_binding_47 rfl (lv_at hl 1 rfl) ?_
    refine lv_imul hx hb dX0_binding_48 ?_
    exact W.iret (v := 7 * a2) hx hb hr (fun t ht hW => ⟨_, rfl, E.symm, ht⟩) (fun q hq => by cases hq) dX0_binding_49
  have E := E.trans (if_neg c_5)
  have fc_5 := i_ne c_5
  rw [q_6] at fc_5
  by_cases c_6 : a1 = 3
  · refine lv_tableIn (off := 68) (tgt := 69) hx hb dX0_binding_1 (by rw [c_6]; decide) (by rw [c_6]; decide) (by rw [c_6]; rfl) (by decide) ?_
    exact D_1 E
  have fc_6 := i_ne c_6
  rw [q_3] at fc_6
  refine lv_tableOut (tgt := 69) hx hb dX0_binding_1 (by omega) (by decide) ?_
  exact D_1 E
abbrev rmX0_thickness : Room := { frames := 0, cells := 0, slots := 0, locals := 0 }
set_option maxHeartbeats 4000000 in
set_option maxRecDepth 100000 in
theorem kX0_thickness (l : Launch)  (a1 : Int32)   : Met l yX0_thickness wsX0_thickness rmX0_thickness (va_Pc [Value.int a1] (fun U => True)) (vp_Si (fun r => r = sX0_thickness a1)) 0 0 (fun _ => False) := by
  refine Met.ofW (cc := cX0_thickness) (maxL := 1) (ret := (some .int)) (by decide) rfl ?_
  intro p e s m args below meth c s₁ B hml hv
  obtain ⟨rfl, -⟩ := hv
  have hx := B.exec
  have hb := B.bytes
  have hr := B.returns
  have hts := atoms_spec (ws := wsX0_thickness) B.pre
  have hown : s.vm.findClass RX0 = some m.cls := findClass_of_methodNamed B.named
  have hlocks := B.notSynchronized
  have hl := lv_entry ([.int a1]) (n := 1) (Nat.le_of_ble_eq_true rfl)
  rw [lg_entry_eq]
  generalize (lg_sl ([.int a1]) ++ List.replicate (1 - (lg_sl ([.int a1])).length) Slot.unset).toArray = ls at hl ⊢
  have hl : lv_has ls 1 [(0, .int a1)] := hl
  have E := sX0_thickness.eq_1 a1
  refine lv_iload_n hx hb dX0_thickness_0 rfl (lv_at hl 0 rfl) ?_
  have D_1 : sX0_thickness a1 = 9 → W p l e (headSpec wsX0_thickness rmX0_thickness).room s m [Value.int a1].toArray below meth c s.heap [] 0 0 (MQ below (vp_Si (fun r => r = sX0_thickness a1)) [Value.int a1].toArray s 0 0 (fun _ => False)) (F0 m 42 ls []) := by
    intro E
    refine lv_bipush (v := 9) hx hb dX0_thickness_42 (by decide +kernel) ?_
    exact W.iret (v := 9) hx hb hr (fun t ht hW => ⟨_, rfl, E.symm, ht⟩) (fun q hq => by cases hq) dX0_thickness_44
  by_cases c_1 : a1 = 2
  · have E := E.trans (if_pos c_1)
    refine lv_tableIn (off := 35) (tgt := 36) hx hb dX0_thickness_1 (by rw [c_1]; decide) (by rw [c_1]; decide) (by rw [c_1]; rfl) (by decide) ?_
    have fc_1 := i_eq c_1
    rw [q_2] at fc_1
    refine lv_bipush (v := 11) hx hb dX0_thickness_36 (by decide +kernel) ?_
    exact W.iret (v := 11) hx hb hr (fun t ht hW => ⟨_, rfl, E.symm, ht⟩) (fun q hq => by cases hq) dX0_thickness_38
  have E := E.trans (if_neg c_1)
  have fc_1 := i_ne c_1
  rw [q_2] at fc_1
  by_cases c_2 : a1 = 3
  · have E := E.trans (if_pos c_2)
    refine lv_tableIn (off := 38) (tgt := 39) hx hb dX0_thickness_1 (by rw [c_2]; decide) (by rw [c_2]; decide) (by rw [c_2]; rfl) (by decide) ?_
    have fc_2 := i_eq c_2
    rw [q_3] at fc_2
    refine lv_bipush (v := 8) hx hb dX0_thickness_39 (by decide +kernel) ?_
    exact W.iret (v := 8) hx hb hr (fun t ht hW => ⟨_, rfl, E.symm, ht⟩) (fun q hq => by cases hq) dX0_thickness_41
  have E := E.trans (if_neg c_2)
  have fc_2 := i_ne c_2
  rw [q_3] at fc_2
  by_cases c_3 : a1 = 4
  · have E := E.trans (if_pos c_3)
    refine lv_tableIn (off := 35) (tgt := 36) hx hb dX0_thickness_1 (by rw [c_3]; decide) (by rw [c_3]; decide) (by rw [c_3]; rfl) (by decide) ?_
    have fc_3 := i_eq c_3
    rw [q_4] at fc_3
    refine lv_bipush (v := 11) hx hb dX0_thickness_36 (by decide +kernel) ?_
    exact W.iret (v := 11) hx hb hr (fun t ht hW => ⟨_, rfl, E.symm, ht⟩) (fun q hq => by cases hq) dX0_thickness_38
  have E := E.trans (if_neg c_3)
  have fc_3 := i_ne c_3
  rw [q_4] at fc_3
  by_cases c_4 : a1 = 6
  · have E := E.trans (if_pos c_4)
    refine lv_tableIn (off := 38) (tgt := 39) hx hb dX0_thickness_1 (by rw [c_4]; decide) (by rw [c_4]; decide) (by rw [c_4]; rfl) (by decide) ?_
    have fc_4 := i_eq c_4
    rw [q_6] at fc_4
    refine lv_bipush (v := 8) hx hb dX0_thickness_39 (by decide +kernel) ?_
    exact W.iret (v := 8) hx hb hr (fun t ht hW => ⟨_, rfl, E.symm, ht⟩) (fun q hq => by cases hq) dX0_thickness_41
  have E := E.trans (if_neg c_4)
  have fc_4 := i_ne c_4
  rw [q_6] at fc_4
  by_cases c_5 : a1 = 5
  · refine lv_tableIn (off := 41) (tgt := 42) hx hb dX0_thickness_1 (by rw [c_5]; decide) (by rw [c_5]; decide) (by rw [c_5]; rfl) (by decide) ?_
    exact D_1 E
  have fc_5 := i_ne c_5
  rw [q_5] at fc_5
  refine lv_tableOut (tgt := 42) hx hb dX0_thickness_1 (by omega) (by decide) ?_
  exact D_1 E
abbrev rmX5_allMinutes : Room := { frames := 0, cells := 0, slots := 0, locals := 0 }
set_option maxHeartbeats 4000000 in
set_option maxRecDepth 100000 in
theorem kX5_allMinutes (l : Launch) (D : va_G) (cI cC cQ : ClassId) (ad : Nat → Nat) (w : Nat → Nat → Int32)  (hI : R5I w)  : Met l yX5_allMinutes wsX5_allMinutes rmX5_allMinutes (va_Pc [Value.ref (ad 0)] (fun U => va_P D vwCl (WY cI ad w) U.heap ∧ va_K D vwCl [(cI, .int), (cC, .char), (cQ, .object "LoadedForTheLane$Way")] U)) (vp_Si (fun r => r = sX5_allMinutes w)) 0 0 (fun _ => False) := by
  refine Met.ofW (cc := cX5_allMinutes) (maxL := 3) (ret := (some .int)) (by decide) rfl ?_
  intro p e s m args below meth c s₁ B hml hv
  obtain ⟨rfl, hP, hK⟩ := hv
  have hx := B.exec
  have hb := B.bytes
  have hr := B.returns
  have hts := atoms_spec (ws := wsX5_allMinutes) B.pre
  have hown : s.vm.findClass RX5 = some m.cls := findClass_of_methodNamed B.named
  have hlocks := B.notSynchronized
  have hin5 : ∀ q ∈ wsX50, q ∈ wsX5_allMinutes := by decide +kernel
  have hl := lv_entry ([.ref (ad 0)]) (n := 3) (Nat.le_of_ble_eq_true rfl)
  rw [lg_entry_eq]
  generalize (lg_sl ([.ref (ad 0)]) ++ List.replicate (3 - (lg_sl ([.ref (ad 0)])).length) Slot.unset).toArray = ls at hl ⊢
  have hl : lv_has ls 3 [(0, .ref (ad 0))] := hl
  have E := sX5_allMinutes.eq_1 w
  refine lv_iconst (v := 0) hx hb dX5_allMinutes_0 (by decide) ?_
  refine lv_istore_n (lv' := [(1, .int 0), (0, .ref (ad 0))]) hx hb dX5_allMinutes_1 rfl hl (by decide) rfl (fun ls hl => ?_)
  refine lv_iconst (v := 0) hx hb dX5_allMinutes_2 (by decide) ?_
  refine lv_istore_n (lv' := [(2, .int 0), (1, .int 0), (0, .ref (ad 0))]) hx hb dX5_allMinutes_3 rfl hl (by decide) rfl (fun ls hl => ?_)
  have L_4 : ∀ (n_4 : Nat) (x1_4 : Int32) (x2_4 : Int32) (ls : Array Slot), ((0 ≤ x2_4.toInt) ∧ (x2_4.toInt ≤ 6)) → (6 - x2_4.toInt < (n_4 : Int)) → lv_has ls 3 [(2, .int x2_4), (1, .int x1_4), (0, .ref (ad 0))] → sX5_allMinutes w = sX5_allMinutes_4 w n_4 x1_4 x2_4 → W p l e (headSpec wsX5_allMinutes rmX5_allMinutes).room s m [Value.ref (ad 0)].toArray below meth c s.heap [] 0 0 (MQ below (vp_Si (fun r => r = sX5_allMinutes w)) [Value.ref (ad 0)].toArray s 0 0 (fun _ => False)) (F0 m 4 ls []) := by
    intro n_4
    induction n_4 with
    | zero =>
      intro x1_4 x2_4 ls hinv hm
      obtain ⟨v0_4, v1_4⟩ := hinv
      exact absurd hm (by omega)
    | succ n_4 ih_4 =>
      intro x1_4 x2_4 ls hinv hm_4 hl E
      obtain ⟨v0_4, v1_4⟩ := hinv
      have E := E.trans (sX5_allMinutes_4.eq_2 ..)
      refine lv_iload_n hx hb dX5_allMinutes_4 rfl (lv_at hl 0 rfl) ?_
      refine lv_aload_n hx hb dX5_allMinutes_5 rfl (lv_at hl 2 rfl) ?_
      refine g5_pieces hx hb hts hin5 hown hK hP (hts (.fieldLink RX5 21 "LoadedForTheLane$Way" "pieces" "I") (by decide +kernel)) dX5_allMinutes_6 ?_
      have f_1 := R5I_pieces hI
      refine lv_icmp_ge (tgt := 27) hx hb dX5_allMinutes_9 (by decide) (fun c_2 => ?_) (fun c_2 => ?_)
      · have E := E.trans (if_pos c_2)
        have fc_2 := i_le c_2
        refine lv_iload_n hx hb dX5_allMinutes_27 rfl (lv_at hl 1 rfl) ?_
        exact W.iret (v := x1_4) hx hb hr (fun t ht hW => ⟨_, rfl, E.symm, ht⟩) (fun q hq => by cases hq) dX5_allMinutes_28
      · have E := E.trans (if_neg c_2)
        have fc_2 := i_nle c_2
        refine lv_iload_n hx hb dX5_allMinutes_12 rfl (lv_at hl 1 rfl) ?_
        refine lv_aload_n hx hb dX5_allMinutes_13 rfl (lv_at hl 2 rfl) ?_
        refine g5_minutes hx hb hts hin5 hown hK hP (hts (.fieldLink RX5 18 "LoadedForTheLane$Way" "minutes" "[I") (by decide +kernel)) dX5_allMinutes_14 ?_
        refine lv_iload_n hx hb dX5_allMinutes_17 rfl (lv_at hl 0 rfl) ?_
        have ix_3 : vp_in x2_4 6 := ix_of (by omega) (by omega)
        refine l5_minutes (j := (x2_4.toNatClampNeg)) hx hb hK hP ix_3 rfl dX5_allMinutes_18 ?_
        refine lv_iadd hx hb dX5_allMinutes_19 ?_
        refine lv_istore_n (lv' := [(1, .int (x1_4 + (w 2 (x2_4.toNatClampNeg)))), (2, .int x2_4), (0, .ref (ad 0))]) hx hb dX5_allMinutes_20 rfl hl (by decide) rfl (fun ls hl => ?_)
        refine lv_iinc (v := x2_4 + 1) (lv' := [(2, .int (x2_4 + 1)), (1, .int (x1_4 + (w 2 (x2_4.toNatClampNeg)))), (0, .ref (ad 0))]) hx hb dX5_allMinutes_21 hl (k := 1) rfl rfl (by decide) rfl (fun ls hl => ?_)
        refine lv_goto (tgt := 4) hx hb dX5_allMinutes_24 (by decide) ?_
        try have := i_addr (a := x2_4) (b := 1) (n := 1) q_1 (by omega) (by omega)
        exact ih_4 (x1_4 + (w 2 (x2_4.toNatClampNeg))) (x2_4 + 1) ls ⟨by omega, by omega⟩ (by omega) (lv_sub hl [0, 1, 2] rfl) E
  have := q_0
  exact L_4 7 0 0 ls ⟨by omega, by omega⟩ (by omega) (lv_sub hl [0, 1, 2] rfl) E
abbrev rmX5_add : Room := { frames := 0, cells := 0, slots := 0, locals := 0 }
set_option maxHeartbeats 4000000 in
set_option maxRecDepth 100000 in
theorem kX5_add (l : Launch) (D : va_G) (cI cC cQ : ClassId) (ad : Nat → Nat) (w : Nat → Nat → Int32) (a1 : Int32) (a2 : Int32) (a3 : Int32) (hd : WYD ad) (hI : R5I w)  : Met l yX5_add wsX5_add rmX5_add (va_Pc [Value.ref (ad 0), Value.int a1, Value.int a2, Value.int a3] (fun U => va_P D vwCl (WY cI ad w) U.heap ∧ va_K D vwCl [(cI, .int), (cC, .char), (cQ, .object "LoadedForTheLane$Way")] U)) (va_Qi (fun r u => (r, u) = sX5_add w a1 a2 a3 ∧ (r = 0 ∨ r = 1) ∧ R5I u) (fun u t => va_P D vwCl (WY cI ad u) t.heap) (WYA ad)) 0 0 (WYA ad) := by
  refine Met.ofW (cc := cX5_add) (maxL := 4) (ret := (some .boolean)) (by decide) rfl ?_
  intro p e s m args below meth c s₁ B hml hv
  obtain ⟨rfl, hP, hK⟩ := hv
  have hx := B.exec
  have hb := B.bytes
  have hr := B.returns
  have hts := atoms_spec (ws := wsX5_add) B.pre
  have hown : s.vm.findClass RX5 = some m.cls := findClass_of_methodNamed B.named
  have hlocks := B.notSynchronized
  have hin5 : ∀ q ∈ wsX50, q ∈ wsX5_add := by decide +kernel
  have hl := lv_entry ([.ref (ad 0), .int a1, .int a2, .int a3]) (n := 4) (Nat.le_of_ble_eq_true rfl)
  rw [lg_entry_eq]
  generalize (lg_sl ([.ref (ad 0), .int a1, .int a2, .int a3]) ++ List.replicate (4 - (lg_sl ([.ref (ad 0), .int a1, .int a2, .int a3])).length) Slot.unset).toArray = ls at hl ⊢
  have hl : lv_has ls 4 [(0, .ref (ad 0)), (1, .int a1), (2, .int a2), (3, .int a3)] := hl
  suffices hgo : ∀ (H : Heap) (locs : List Loc), va_P D vwCl (WY cI ad w) H → va_S (WYA ad) s.heap H locs → W p l e (headSpec wsX5_add rmX5_add).room s m [Value.ref (ad 0), Value.int a1, Value.int a2, Value.int a3].toArray below meth c H locs 0 0 (MQ below (va_Qi (fun r u => (r, u) = sX5_add w a1 a2 a3 ∧ (r = 0 ∨ r = 1) ∧ R5I u) (fun u t => va_P D vwCl (WY cI ad u) t.heap) (WYA ad)) [Value.ref (ad 0), Value.int a1, Value.int a2, Value.int a3].toArray s 0 0 (WYA ad)) (F0 m 0 ls []) from hgo s.heap [] hP va_S.rf
  intro H locs hP hS
  have E := sX5_add.eq_1 w a1 a2 a3
  refine lv_aload_n hx hb dX5_add_0 rfl (lv_at hl 0 rfl) ?_
  refine g5_pieces hx hb hts hin5 hown hK hP (hts (.fieldLink RX5 21 "LoadedForTheLane$Way" "pieces" "I") (by decide +kernel)) dX5_add_1 ?_
  have f_1 := R5I_pieces hI
  refine lv_bipush (v := 6) hx hb dX5_add_4 (by decide +kernel) ?_
  refine lv_icmp_ge (tgt := 20) hx hb dX5_add_6 (by decide) (fun c_2 => ?_) (fun c_2 => ?_)
  · have E := E.trans (if_pos c_2)
    have fc_2 := i_le c_2
    rw [q_6] at fc_2
    refine lv_iconst (v := 0) hx hb dX5_add_20 (by decide) ?_
    exact W.zret (ty := .boolean) (v := 0) hx hb hr (z_nar (Or.inl rfl)) (fun t ht hW => ⟨⟨_, w, rfl, ⟨E.symm, (Or.inl rfl), hI⟩, by show va_P _ _ _ t.heap; rw [ht]; exact hP⟩, hS.F ht⟩) hS.2.2 dX5_add_21
  · have E := E.trans (if_neg c_2)
    have fc_2 := i_nle c_2
    rw [q_6] at fc_2
    refine lv_iload_n hx hb dX5_add_9 rfl (lv_at hl 2 rfl) ?_
    refine lv_bipush (v := 20) hx hb dX5_add_10 (by decide +kernel) ?_
    refine lv_icmp_gt (tgt := 20) hx hb dX5_add_12 (by decide) (fun c_3 => ?_) (fun c_3 => ?_)
    · have E := E.trans (if_pos c_3)
      have fc_3 := i_lt c_3
      rw [q_20] at fc_3
      refine lv_iconst (v := 0) hx hb dX5_add_20 (by decide) ?_
      exact W.zret (ty := .boolean) (v := 0) hx hb hr (z_nar (Or.inl rfl)) (fun t ht hW => ⟨⟨_, w, rfl, ⟨E.symm, (Or.inl rfl), hI⟩, by show va_P _ _ _ t.heap; rw [ht]; exact hP⟩, hS.F ht⟩) hS.2.2 dX5_add_21
    · have E := E.trans (if_neg c_3)
      have fc_3 := i_nlt c_3
      rw [q_20] at fc_3
      refine lv_iload_n hx hb dX5_add_15 rfl (lv_at hl 3 rfl) ?_
      refine lv_iconst (v := 1) hx hb dX5_add_16 (by decide) ?_
      refine lv_icmp_ge (tgt := 22) hx hb dX5_add_17 (by decide) (fun c_4 => ?_) (fun c_4 => ?_)
      · have E := E.trans (if_pos c_4)
        have fc_4 := i_le c_4
        rw [q_1] at fc_4
        refine lv_aload_n hx hb dX5_add_22 rfl (lv_at hl 0 rfl) ?_
        refine g5_kinds hx hb hts hin5 hown hK hP (hts (.fieldLink RX5 9 "LoadedForTheLane$Way" "kinds" "[I") (by decide +kernel)) dX5_add_23 ?_
        refine lv_aload_n hx hb dX5_add_26 rfl (lv_at hl 0 rfl) ?_
        refine g5_pieces hx hb hts hin5 hown hK hP (hts (.fieldLink RX5 21 "LoadedForTheLane$Way" "pieces" "I") (by decide +kernel)) dX5_add_27 ?_
        have f_5 := R5I_pieces hI
        refine lv_iload_n hx hb dX5_add_30 rfl (lv_at hl 1 rfl) ?_
        have ix_6 : vp_in (w 3 0) 6 := ix_of (by omega) (by omega)
        refine a5_kinds (j := ((w 3 0).toNatClampNeg)) hx hb hK hP (WYDa hd) hS ix_6 rfl dX5_add_31 (fun H locs hP hS => ?_)
        obtain ⟨wn_6, hwn_6⟩ : ∃ x, x = st w 0 ((w 3 0).toNatClampNeg) a1 := ⟨_, rfl⟩
        rw [← hwn_6] at hP
        have E := bns_e E hwn_6
        have ft6_pieces : (wn_6 3 0).toInt = (w 3 0).toInt := by rw [hwn_6]; rfl
        have hI_6 : R5I wn_6 := by rw [hwn_6]; exact R5I_arr hI (by decide)
        refine lv_aload_n hx hb dX5_add_32 rfl (lv_at hl 0 rfl) ?_
        refine g5_figures hx hb hts hin5 hown hK hP (hts (.fieldLink RX5 15 "LoadedForTheLane$Way" "figures" "[I") (by decide +kernel)) dX5_add_33 ?_
        refine lv_aload_n hx hb dX5_add_36 rfl (lv_at hl 0 rfl) ?_
        refine g5_pieces hx hb hts hin5 hown hK hP (hts (.fieldLink RX5 21 "LoadedForTheLane$Way" "pieces" "I") (by decide +kernel)) dX5_add_37 ?_
        have f_7 := R5I_pieces hI_6
        refine lv_iload_n hx hb dX5_add_40 rfl (lv_at hl 2 rfl) ?_
        have ix_8 : vp_in (wn_6 3 0) 6 := ix_of (by omega) (by omega)
        refine a5_figures (j := ((wn_6 3 0).toNatClampNeg)) hx hb hK hP (WYDa hd) hS ix_8 rfl dX5_add_41 (fun H locs hP hS => ?_)
        obtain ⟨wn_8, hwn_8⟩ : ∃ x, x = st wn_6 1 ((wn_6 3 0).toNatClampNeg) a2 := ⟨_, rfl⟩
        rw [← hwn_8] at hP
        have E := bns_e E hwn_8
        have ft8_pieces : (wn_8 3 0).toInt = (wn_6 3 0).toInt := by rw [hwn_8]; rfl
        have hI_8 : R5I wn_8 := by rw [hwn_8]; exact R5I_arr hI_6 (by decide)
        refine lv_aload_n hx hb dX5_add_42 rfl (lv_at hl 0 rfl) ?_
        refine g5_minutes hx hb hts hin5 hown hK hP (hts (.fieldLink RX5 18 "LoadedForTheLane$Way" "minutes" "[I") (by decide +kernel)) dX5_add_43 ?_
        refine lv_aload_n hx hb dX5_add_46 rfl (lv_at hl 0 rfl) ?_
        refine g5_pieces hx hb hts hin5 hown hK hP (hts (.fieldLink RX5 21 "LoadedForTheLane$Way" "pieces" "I") (by decide +kernel)) dX5_add_47 ?_
        have f_9 := R5I_pieces hI_8
        refine lv_iload_n hx hb dX5_add_50 rfl (lv_at hl 3 rfl) ?_
        have ix_10 : vp_in (wn_8 3 0) 6 := ix_of (by omega) (by omega)
        refine a5_minutes (j := ((wn_8 3 0).toNatClampNeg)) hx hb hK hP (WYDa hd) hS ix_10 rfl dX5_add_51 (fun H locs hP hS => ?_)
        obtain ⟨wn_10, hwn_10⟩ : ∃ x, x = st wn_8 2 ((wn_8 3 0).toNatClampNeg) a3 := ⟨_, rfl⟩
        rw [← hwn_10] at hP
        have E := bns_e E hwn_10
        have ft10_pieces : (wn_10 3 0).toInt = (wn_8 3 0).toInt := by rw [hwn_10]; rfl
        have hI_10 : R5I wn_10 := by rw [hwn_10]; exact R5I_arr hI_8 (by decide)
        refine lv_aload_n hx hb dX5_add_52 rfl (lv_at hl 0 rfl) ?_
        refine lv_dup hx hb dX5_add_53 rfl ?_
        refine g5_pieces hx hb hts hin5 hown hK hP (hts (.fieldLink RX5 21 "LoadedForTheLane$Way" "pieces" "I") (by decide +kernel)) dX5_add_54 ?_
        have f_11 := R5I_pieces hI_10
        refine lv_iconst (v := 1) hx hb dX5_add_57 (by decide) ?_
        refine lv_iadd hx hb dX5_add_58 ?_
        refine p5_pieces hx hb hts hin5 hown hK hP (WYDa hd) hS (hts (.fieldLink RX5 21 "LoadedForTheLane$Way" "pieces" "I") (by decide +kernel)) dX5_add_59 (fun H locs hP hS => ?_)
        obtain ⟨wn_12, hwn_12⟩ : ∃ x, x = st wn_10 3 0 ((wn_10 3 0) + 1) := ⟨_, rfl⟩
        rw [← hwn_12] at hP
        have E := bns_e E hwn_12
        have ft12_pieces : (wn_12 3 0).toInt = ((wn_10 3 0) + 1).toInt := by rw [hwn_12]; rfl
        have := i_addr (a := wn_10 3 0) (b := 1) (n := 1) q_1 (by omega) (by omega)
        have := i_addr (a := wn_10 3 0) (b := 1) (n := 1) q_1 (by omega) (by omega)
        have hI_12 : R5I wn_12 := by rw [hwn_12]; exact R5I_put hI_10 (by omega) (by omega)
        refine lv_iconst (v := 1) hx hb dX5_add_62 (by decide) ?_
        exact W.zret (ty := .boolean) (v := 1) hx hb hr (z_nar (Or.inr rfl)) (fun t ht hW => ⟨⟨_, wn_12, rfl, ⟨E.symm, (Or.inr rfl), hI_12⟩, by show va_P _ _ _ t.heap; rw [ht]; exact hP⟩, hS.F ht⟩) hS.2.2 dX5_add_63
      · have E := E.trans (if_neg c_4)
        have fc_4 := i_nle c_4
        rw [q_1] at fc_4
        refine lv_iconst (v := 0) hx hb dX5_add_20 (by decide) ?_
        exact W.zret (ty := .boolean) (v := 0) hx hb hr (z_nar (Or.inl rfl)) (fun t ht hW => ⟨⟨_, w, rfl, ⟨E.symm, (Or.inl rfl), hI⟩, by show va_P _ _ _ t.heap; rw [ht]; exact hP⟩, hS.F ht⟩) hS.2.2 dX5_add_21
abbrev rmX3_add : Room := { frames := 0, cells := 0, slots := 0, locals := 0 }
set_option maxHeartbeats 4000000 in
set_option maxRecDepth 100000 in
theorem kX3_add (l : Launch) (D : va_G) (cI cC cQ : ClassId) (ad : Nat → Nat) (w : Nat → Nat → Int32) (a1 : Int32) (hd : RWD ad) (hI : R3I w)  : Met l yX3_add wsX3_add rmX3_add (va_Pc [Value.ref (ad 0), Value.int a1] (fun U => va_P D vwCl (RW cI ad w) U.heap ∧ va_K D vwCl [(cI, .int), (cC, .char), (cQ, .object "LoadedForTheLane$Way")] U)) (va_Qv (fun u => u = sX3_add w a1 ∧ R3I u) (fun u t => va_P D vwCl (RW cI ad u) t.heap) (RWA ad)) 0 0 (RWA ad) := by
  refine Met.ofW (cc := cX3_add) (maxL := 2) (ret := none) (by decide) rfl ?_
  intro p e s m args below meth c s₁ B hml hv
  obtain ⟨rfl, hP, hK⟩ := hv
  have hx := B.exec
  have hb := B.bytes
  have hr := B.returns
  have hts := atoms_spec (ws := wsX3_add) B.pre
  have hown : s.vm.findClass RX3 = some m.cls := findClass_of_methodNamed B.named
  have hlocks := B.notSynchronized
  have hin3 : ∀ q ∈ wsX30, q ∈ wsX3_add := by decide +kernel
  have hl := lv_entry ([.ref (ad 0), .int a1]) (n := 2) (Nat.le_of_ble_eq_true rfl)
  rw [lg_entry_eq]
  generalize (lg_sl ([.ref (ad 0), .int a1]) ++ List.replicate (2 - (lg_sl ([.ref (ad 0), .int a1])).length) Slot.unset).toArray = ls at hl ⊢
  have hl : lv_has ls 2 [(0, .ref (ad 0)), (1, .int a1)] := hl
  suffices hgo : ∀ (H : Heap) (locs : List Loc), va_P D vwCl (RW cI ad w) H → va_S (RWA ad) s.heap H locs → W p l e (headSpec wsX3_add rmX3_add).room s m [Value.ref (ad 0), Value.int a1].toArray below meth c H locs 0 0 (MQ below (va_Qv (fun u => u = sX3_add w a1 ∧ R3I u) (fun u t => va_P D vwCl (RW cI ad u) t.heap) (RWA ad)) [Value.ref (ad 0), Value.int a1].toArray s 0 0 (RWA ad)) (F0 m 0 ls []) from hgo s.heap [] hP va_S.rf
  intro H locs hP hS
  have E := sX3_add.eq_1 w a1
  refine lv_aload_n hx hb dX3_add_0 rfl (lv_at hl 0 rfl) ?_
  refine g3_size hx hb hts hin3 hown hK hP (hts (.fieldLink RX3 15 "LoadedForTheLane$Row" "size" "I") (by decide +kernel)) dX3_add_1 ?_
  have f_1 := R3I_size hI
  refine lv_aload_n hx hb dX3_add_4 rfl (lv_at hl 0 rfl) ?_
  refine g3_numbers hx hb hts hin3 hown hK hP (hts (.fieldLink RX3 9 "LoadedForTheLane$Row" "numbers" "[I") (by decide +kernel)) dX3_add_5 ?_
  refine n3_numbers (v := 12) hx hb hK hP (by decide) dX3_add_8 ?_
  refine lv_icmp_ge (tgt := 32) hx hb dX3_add_9 (by decide) (fun c_2 => ?_) (fun c_2 => ?_)
  · have E := E.trans (if_pos c_2)
    have fc_2 := i_le c_2
    rw [q_12] at fc_2
    exact W.vret hx hb hr (fun t ht hW => ⟨⟨w, rfl, ⟨E.symm, hI⟩, by show va_P _ _ _ t.heap; rw [ht]; exact hP⟩, hS.F ht⟩) hS.2.2 dX3_add_32
  · have E := E.trans (if_neg c_2)
    have fc_2 := i_nle c_2
    rw [q_12] at fc_2
    refine lv_aload_n hx hb dX3_add_12 rfl (lv_at hl 0 rfl) ?_
    refine g3_numbers hx hb hts hin3 hown hK hP (hts (.fieldLink RX3 9 "LoadedForTheLane$Row" "numbers" "[I") (by decide +kernel)) dX3_add_13 ?_
    refine lv_aload_n hx hb dX3_add_16 rfl (lv_at hl 0 rfl) ?_
    refine g3_size hx hb hts hin3 hown hK hP (hts (.fieldLink RX3 15 "LoadedForTheLane$Row" "size" "I") (by decide +kernel)) dX3_add_17 ?_
    have f_3 := R3I_size hI
    refine lv_iload_n hx hb dX3_add_20 rfl (lv_at hl 1 rfl) ?_
    have ix_4 : vp_in (w 1 0) 12 := ix_of (by omega) (by omega)
    refine a3_numbers (j := ((w 1 0).toNatClampNeg)) hx hb hK hP (RWDa hd) hS ix_4 rfl dX3_add_21 (fun H locs hP hS => ?_)
    obtain ⟨wn_4, hwn_4⟩ : ∃ x, x = st w 0 ((w 1 0).toNatClampNeg) a1 := ⟨_, rfl⟩
    rw [← hwn_4] at hP
    have E := bns_e E hwn_4
    have ft4_size : (wn_4 1 0).toInt = (w 1 0).toInt := by rw [hwn_4]; rfl
    have hI_4 : R3I wn_4 := by rw [hwn_4]; exact R3I_arr hI (by decide)
    refine lv_aload_n hx hb dX3_add_22 rfl (lv_at hl 0 rfl) ?_
    refine lv_dup hx hb dX3_add_23 rfl ?_
    refine g3_size hx hb hts hin3 hown hK hP (hts (.fieldLink RX3 15 "LoadedForTheLane$Row" "size" "I") (by decide +kernel)) dX3_add_24 ?_
    have f_5 := R3I_size hI_4
    refine lv_iconst (v := 1) hx hb dX3_add_27 (by decide) ?_
    refine lv_iadd hx hb dX3_add_28 ?_
    refine p3_size hx hb hts hin3 hown hK hP (RWDa hd) hS (hts (.fieldLink RX3 15 "LoadedForTheLane$Row" "size" "I") (by decide +kernel)) dX3_add_29 (fun H locs hP hS => ?_)
    obtain ⟨wn_6, hwn_6⟩ : ∃ x, x = st wn_4 1 0 ((wn_4 1 0) + 1) := ⟨_, rfl⟩
    rw [← hwn_6] at hP
    have E := bns_e E hwn_6
    have ft6_size : (wn_6 1 0).toInt = ((wn_4 1 0) + 1).toInt := by rw [hwn_6]; rfl
    have := i_addr (a := wn_4 1 0) (b := 1) (n := 1) q_1 (by omega) (by omega)
    have := i_addr (a := wn_4 1 0) (b := 1) (n := 1) q_1 (by omega) (by omega)
    have hI_6 : R3I wn_6 := by rw [hwn_6]; exact R3I_put hI_4 (by omega) (by omega)
    exact W.vret hx hb hr (fun t ht hW => ⟨⟨wn_6, rfl, ⟨E.symm, hI_6⟩, by show va_P _ _ _ t.heap; rw [ht]; exact hP⟩, hS.F ht⟩) hS.2.2 dX3_add_32
abbrev rmX3_clear : Room := { frames := 0, cells := 0, slots := 0, locals := 0 }
set_option maxHeartbeats 4000000 in
set_option maxRecDepth 100000 in
theorem kX3_clear (l : Launch) (D : va_G) (cI cC cQ : ClassId) (ad : Nat → Nat) (w : Nat → Nat → Int32) (hd : RWD ad) (hI : R3I w)  : Met l yX3_clear wsX3_clear rmX3_clear (va_Pc [Value.ref (ad 0)] (fun U => va_P D vwCl (RW cI ad w) U.heap ∧ va_K D vwCl [(cI, .int), (cC, .char), (cQ, .object "LoadedForTheLane$Way")] U)) (va_Qv (fun u => u = sX3_clear w ∧ R3I u) (fun u t => va_P D vwCl (RW cI ad u) t.heap) (RWA ad)) 0 0 (RWA ad) := by
  refine Met.ofW (cc := cX3_clear) (maxL := 1) (ret := none) (by decide) rfl ?_
  intro p e s m args below meth c s₁ B hml hv
  obtain ⟨rfl, hP, hK⟩ := hv
  have hx := B.exec
  have hb := B.bytes
  have hr := B.returns
  have hts := atoms_spec (ws := wsX3_clear) B.pre
  have hown : s.vm.findClass RX3 = some m.cls := findClass_of_methodNamed B.named
  have hlocks := B.notSynchronized
  have hin3 : ∀ q ∈ wsX30, q ∈ wsX3_clear := by decide +kernel
  have hl := lv_entry ([.ref (ad 0)]) (n := 1) (Nat.le_of_ble_eq_true rfl)
  rw [lg_entry_eq]
  generalize (lg_sl ([.ref (ad 0)]) ++ List.replicate (1 - (lg_sl ([.ref (ad 0)])).length) Slot.unset).toArray = ls at hl ⊢
  have hl : lv_has ls 1 [(0, .ref (ad 0))] := hl
  suffices hgo : ∀ (H : Heap) (locs : List Loc), va_P D vwCl (RW cI ad w) H → va_S (RWA ad) s.heap H locs → W p l e (headSpec wsX3_clear rmX3_clear).room s m [Value.ref (ad 0)].toArray below meth c H locs 0 0 (MQ below (va_Qv (fun u => u = sX3_clear w ∧ R3I u) (fun u t => va_P D vwCl (RW cI ad u) t.heap) (RWA ad)) [Value.ref (ad 0)].toArray s 0 0 (RWA ad)) (F0 m 0 ls []) from hgo s.heap [] hP va_S.rf
  intro H locs hP hS
  have E := sX3_clear.eq_1 w
  refine lv_aload_n hx hb dX3_clear_0 rfl (lv_at hl 0 rfl) ?_
  refine lv_iconst (v := 0) hx hb dX3_clear_1 (by decide) ?_
  refine p3_size hx hb hts hin3 hown hK hP (RWDa hd) hS (hts (.fieldLink RX3 15 "LoadedForTheLane$Row" "size" "I") (by decide +kernel)) dX3_clear_2 (fun H locs hP hS => ?_)
  obtain ⟨wn_1, hwn_1⟩ : ∃ x, x = st w 1 0 0 := ⟨_, rfl⟩
  rw [← hwn_1] at hP
  have E := bns_e E hwn_1
  have := q_0
  have hI_1 : R3I wn_1 := by rw [hwn_1]; exact R3I_put hI (by omega) (by omega)
  exact W.vret hx hb hr (fun t ht hW => ⟨⟨wn_1, rfl, ⟨E.symm, hI_1⟩, by show va_P _ _ _ t.heap; rw [ht]; exact hP⟩, hS.F ht⟩) hS.2.2 dX3_clear_5
abbrev rmX3_isOfTrials : Room := { frames := 0, cells := 0, slots := 0, locals := 0 }
set_option maxHeartbeats 4000000 in
set_option maxRecDepth 100000 in
theorem kX3_isOfTrials (l : Launch) (D : va_G) (cI cC cQ : ClassId) (ad : Nat → Nat) (w : Nat → Nat → Int32)  (hI : R3I w)  : Met l yX3_isOfTrials wsX3_isOfTrials rmX3_isOfTrials (va_Pc [Value.ref (ad 0)] (fun U => va_P D vwCl (RW cI ad w) U.heap ∧ va_K D vwCl [(cI, .int), (cC, .char), (cQ, .object "LoadedForTheLane$Way")] U)) (vp_Si (fun r => r = sX3_isOfTrials w ∧ (r = 0 ∨ r = 1))) 0 0 (fun _ => False) := by
  refine Met.ofW (cc := cX3_isOfTrials) (maxL := 2) (ret := (some .boolean)) (by decide) rfl ?_
  intro p e s m args below meth c s₁ B hml hv
  obtain ⟨rfl, hP, hK⟩ := hv
  have hx := B.exec
  have hb := B.bytes
  have hr := B.returns
  have hts := atoms_spec (ws := wsX3_isOfTrials) B.pre
  have hown : s.vm.findClass RX3 = some m.cls := findClass_of_methodNamed B.named
  have hlocks := B.notSynchronized
  have hin3 : ∀ q ∈ wsX30, q ∈ wsX3_isOfTrials := by decide +kernel
  have hl := lv_entry ([.ref (ad 0)]) (n := 2) (Nat.le_of_ble_eq_true rfl)
  rw [lg_entry_eq]
  generalize (lg_sl ([.ref (ad 0)]) ++ List.replicate (2 - (lg_sl ([.ref (ad 0)])).length) Slot.unset).toArray = ls at hl ⊢
  have hl : lv_has ls 2 [(0, .ref (ad 0))] := hl
  have E := sX3_isOfTrials.eq_1 w
  refine lv_iconst (v := 1) hx hb dX3_isOfTrials_0 (by decide) ?_
  refine lv_istore_n (lv' := [(1, .int 1), (0, .ref (ad 0))]) hx hb dX3_isOfTrials_1 rfl hl (by decide) rfl (fun ls hl => ?_)
  have L_2 : ∀ (n_2 : Nat) (x1_2 : Int32) (ls : Array Slot), ((1 ≤ x1_2.toInt) ∧ (x1_2.toInt ≤ 13)) → (13 - x1_2.toInt < (n_2 : Int)) → lv_has ls 2 [(1, .int x1_2), (0, .ref (ad 0))] → sX3_isOfTrials w = sX3_isOfTrials_2 w n_2 x1_2 → W p l e (headSpec wsX3_isOfTrials rmX3_isOfTrials).room s m [Value.ref (ad 0)].toArray below meth c s.heap [] 0 0 (MQ below (vp_Si (fun r => r = sX3_isOfTrials w ∧ (r = 0 ∨ r = 1))) [Value.ref (ad 0)].toArray s 0 0 (fun _ => False)) (F0 m 2 ls []) := by
    intro n_2
    induction n_2 with
    | zero =>
      intro x1_2 ls hinv hm
      obtain ⟨v0_2, v1_2⟩ := hinv
      exact absurd hm (by omega)
    | succ n_2 ih_2 =>
      intro x1_2 ls hinv hm_2 hl E
      obtain ⟨v0_2, v1_2⟩ := hinv
      have E := E.trans (sX3_isOfTrials_2.eq_2 ..)
      refine lv_iload_n hx hb dX3_isOfTrials_2 rfl (lv_at hl 0 rfl) ?_
      refine lv_aload_n hx hb dX3_isOfTrials_3 rfl (lv_at hl 1 rfl) ?_
      refine g3_size hx hb hts hin3 hown hK hP (hts (.fieldLink RX3 15 "LoadedForTheLane$Row" "size" "I") (by decide +kernel)) dX3_isOfTrials_4 ?_
      have f_1 := R3I_size hI
      refine lv_icmp_ge (tgt := 28) hx hb dX3_isOfTrials_7 (by decide) (fun c_2 => ?_) (fun c_2 => ?_)
      · have E := E.trans (if_pos c_2)
        have fc_2 := i_le c_2
        refine lv_aload_n hx hb dX3_isOfTrials_28 rfl (lv_at hl 1 rfl) ?_
        refine g3_size hx hb hts hin3 hown hK hP (hts (.fieldLink RX3 15 "LoadedForTheLane$Row" "size" "I") (by decide +kernel)) dX3_isOfTrials_29 ?_
        have f_3 := R3I_size hI
        refine lv_iconst (v := 2) hx hb dX3_isOfTrials_32 (by decide) ?_
        refine lv_irem hx hb dX3_isOfTrials_33 (by decide) ?_
        refine lv_if_ne (tgt := 41) hx hb dX3_isOfTrials_34 (by decide) (fun c_4 => ?_) (fun c_4 => ?_)
        · have E := E.trans (if_neg c_4)
          have fc_4 := i_ne c_4
          rw [q_0] at fc_4
          refine lv_iconst (v := 0) hx hb dX3_isOfTrials_41 (by decide) ?_
          exact W.zret (ty := .boolean) (v := 0) hx hb hr (z_nar (Or.inl rfl)) (fun t ht hW => ⟨_, rfl, ⟨E.symm, (Or.inl rfl)⟩, ht⟩) (fun q hq => by cases hq) dX3_isOfTrials_42
        · have E := E.trans (if_pos c_4)
          have fc_4 := i_eq c_4
          rw [q_0] at fc_4
          refine lv_iconst (v := 1) hx hb dX3_isOfTrials_37 (by decide) ?_
          refine lv_goto (tgt := 42) hx hb dX3_isOfTrials_38 (by decide) ?_
          exact W.zret (ty := .boolean) (v := 1) hx hb hr (z_nar (Or.inr rfl)) (fun t ht hW => ⟨_, rfl, ⟨E.symm, (Or.inr rfl)⟩, ht⟩) (fun q hq => by cases hq) dX3_isOfTrials_42
      · have E := E.trans (if_neg c_2)
        have fc_2 := i_nle c_2
        refine lv_aload_n hx hb dX3_isOfTrials_10 rfl (lv_at hl 1 rfl) ?_
        refine g3_numbers hx hb hts hin3 hown hK hP (hts (.fieldLink RX3 9 "LoadedForTheLane$Row" "numbers" "[I") (by decide +kernel)) dX3_isOfTrials_11 ?_
        refine lv_iload_n hx hb dX3_isOfTrials_14 rfl (lv_at hl 0 rfl) ?_
        have ix_5 : vp_in x1_2 12 := ix_of (by omega) (by omega)
        refine l3_numbers (j := (x1_2.toNatClampNeg)) hx hb hK hP ix_5 rfl dX3_isOfTrials_15 ?_
        refine lv_iconst (v := 1) hx hb dX3_isOfTrials_16 (by decide) ?_
        refine lv_icmp_le (tgt := 22) hx hb dX3_isOfTrials_17 (by decide) (fun c_6 => ?_) (fun c_6 => ?_)
        · have E := E.trans (if_pos c_6)
          have fc_6 := i_le c_6
          rw [q_1] at fc_6
          refine lv_iinc (v := x1_2 + 2) (lv' := [(1, .int (x1_2 + 2)), (0, .ref (ad 0))]) hx hb dX3_isOfTrials_22 hl (k := 0) rfl rfl (by decide) rfl (fun ls hl => ?_)
          refine lv_goto (tgt := 2) hx hb dX3_isOfTrials_25 (by decide) ?_
          try have := i_addr (a := x1_2) (b := 2) (n := 2) q_2 (by omega) (by omega)
          exact ih_2 (x1_2 + 2) ls ⟨by omega, by omega⟩ (by omega) (lv_sub hl [0, 1] rfl) E
        · have E := E.trans (if_neg c_6)
          have fc_6 := i_nle c_6
          rw [q_1] at fc_6
          refine lv_iconst (v := 0) hx hb dX3_isOfTrials_20 (by decide) ?_
          exact W.zret (ty := .boolean) (v := 0) hx hb hr (z_nar (Or.inl rfl)) (fun t ht hW => ⟨_, rfl, ⟨E.symm, (Or.inl rfl)⟩, ht⟩) (fun q hq => by cases hq) dX3_isOfTrials_21
  have := q_1
  exact L_2 14 1 ls ⟨by omega, by omega⟩ (by omega) (lv_sub hl [0, 1] rfl) E
abbrev rmX3_allSo : Room := { frames := 0, cells := 0, slots := 0, locals := 0 }
set_option maxHeartbeats 4000000 in
set_option maxRecDepth 100000 in
theorem kX3_allSo (l : Launch) (D : va_G) (cI cC cQ : ClassId) (ad : Nat → Nat) (w : Nat → Nat → Int32) (a1 : Int32) (a2 : Int32)  (hI : R3I w)  : Met l yX3_allSo wsX3_allSo rmX3_allSo (va_Pc [Value.ref (ad 0), Value.int a1, Value.int a2] (fun U => va_P D vwCl (RW cI ad w) U.heap ∧ va_K D vwCl [(cI, .int), (cC, .char), (cQ, .object "LoadedForTheLane$Way")] U)) (vp_Si (fun r => r = sX3_allSo w a1 a2 ∧ (r = 0 ∨ r = 1))) 0 0 (fun _ => False) := by
  refine Met.ofW (cc := cX3_allSo) (maxL := 5) (ret := (some .boolean)) (by decide) rfl ?_
  intro p e s m args below meth c s₁ B hml hv
  obtain ⟨rfl, hP, hK⟩ := hv
  have hx := B.exec
  have hb := B.bytes
  have hr := B.returns
  have hts := atoms_spec (ws := wsX3_allSo) B.pre
  have hown : s.vm.findClass RX3 = some m.cls := findClass_of_methodNamed B.named
  have hlocks := B.notSynchronized
  have hin3 : ∀ q ∈ wsX30, q ∈ wsX3_allSo := by decide +kernel
  have hl := lv_entry ([.ref (ad 0), .int a1, .int a2]) (n := 5) (Nat.le_of_ble_eq_true rfl)
  rw [lg_entry_eq]
  generalize (lg_sl ([.ref (ad 0), .int a1, .int a2]) ++ List.replicate (5 - (lg_sl ([.ref (ad 0), .int a1, .int a2])).length) Slot.unset).toArray = ls at hl ⊢
  have hl : lv_has ls 5 [(0, .ref (ad 0)), (1, .int a1), (2, .int a2)] := hl
  have E := sX3_allSo.eq_1 w a1 a2
  refine lv_iconst (v := 1) hx hb dX3_allSo_0 (by decide) ?_
  refine lv_istore_n (lv' := [(3, .int 1), (0, .ref (ad 0)), (1, .int a1), (2, .int a2)]) hx hb dX3_allSo_1 rfl hl (by decide) rfl (fun ls hl => ?_)
  have L_2 : ∀ (n_2 : Nat) (x3_2 : Int32) (ls : Array Slot), ((1 ≤ x3_2.toInt) ∧ (x3_2.toInt ≤ 13)) → (13 - x3_2.toInt < (n_2 : Int)) → lv_has ls 5 [(3, .int x3_2), (0, .ref (ad 0)), (1, .int a1), (2, .int a2)] → sX3_allSo w a1 a2 = sX3_allSo_2 w a1 a2 n_2 x3_2 → W p l e (headSpec wsX3_allSo rmX3_allSo).room s m [Value.ref (ad 0), Value.int a1, Value.int a2].toArray below meth c s.heap [] 0 0 (MQ below (vp_Si (fun r => r = sX3_allSo w a1 a2 ∧ (r = 0 ∨ r = 1))) [Value.ref (ad 0), Value.int a1, Value.int a2].toArray s 0 0 (fun _ => False)) (F0 m 2 ls []) := by
    intro n_2
    induction n_2 with
    | zero =>
      intro x3_2 ls hinv hm
      obtain ⟨v0_2, v1_2⟩ := hinv
      exact absurd hm (by omega)
    | succ n_2 ih_2 =>
      intro x3_2 ls hinv hm_2 hl E
      obtain ⟨v0_2, v1_2⟩ := hinv
      have E := E.trans (sX3_allSo_2.eq_2 ..)
      refine lv_iload_n hx hb dX3_allSo_2 rfl (lv_at hl 0 rfl) ?_
      refine lv_aload_n hx hb dX3_allSo_3 rfl (lv_at hl 1 rfl) ?_
      refine g3_size hx hb hts hin3 hown hK hP (hts (.fieldLink RX3 15 "LoadedForTheLane$Row" "size" "I") (by decide +kernel)) dX3_allSo_4 ?_
      have f_1 := R3I_size hI
      refine lv_icmp_ge (tgt := 59) hx hb dX3_allSo_7 (by decide) (fun c_2 => ?_) (fun c_2 => ?_)
      · have E := E.trans (if_pos c_2)
        have fc_2 := i_le c_2
        refine lv_iconst (v := 1) hx hb dX3_allSo_59 (by decide) ?_
        exact W.zret (ty := .boolean) (v := 1) hx hb hr (z_nar (Or.inr rfl)) (fun t ht hW => ⟨_, rfl, ⟨E.symm, (Or.inr rfl)⟩, ht⟩) (fun q hq => by cases hq) dX3_allSo_60
      · have E := E.trans (if_neg c_2)
        have fc_2 := i_nle c_2
        refine lv_aload_n hx hb dX3_allSo_10 rfl (lv_at hl 1 rfl) ?_
        refine g3_numbers hx hb hts hin3 hown hK hP (hts (.fieldLink RX3 9 "LoadedForTheLane$Row" "numbers" "[I") (by decide +kernel)) dX3_allSo_11 ?_
        refine lv_iload_n hx hb dX3_allSo_14 rfl (lv_at hl 0 rfl) ?_
        refine lv_iconst (v := 1) hx hb dX3_allSo_15 (by decide) ?_
        refine lv_isub hx hb dX3_allSo_16 ?_
        try have := i_subr (a := x3_2) (b := 1) (n := 1) q_1 (by omega) (by omega)
        have ix_3 : vp_in (x3_2 - 1) 12 := ix_of (by omega) (by omega)
        refine l3_numbers (j := ((x3_2 - 1).toNatClampNeg)) hx hb hK hP ix_3 rfl dX3_allSo_17 ?_
        refine lv_iload_n hx hb dX3_allSo_18 rfl (lv_at hl 2 rfl) ?_
        refine lv_imul hx hb dX3_allSo_19 ?_
        refine lv_iload_n hx hb dX3_allSo_20 rfl (lv_at hl 3 rfl) ?_
        try have := i_mul (a := w 0 ((x3_2 - 1).toNatClampNeg)) (b := a1) (by omega) (by omega)
        refine lv_icmp_lt (tgt := 28) hx hb dX3_allSo_21 (by decide) (fun c_4 => ?_) (fun c_4 => ?_)
        · have E := E.trans (if_pos c_4)
          have fc_4 := i_lt c_4
          refine lv_iconst (v := 0) hx hb dX3_allSo_28 (by decide) ?_
          refine lv_istore (lv' := [(4, .int 0), (3, .int x3_2), (0, .ref (ad 0)), (1, .int a1), (2, .int a2)]) hx hb dX3_allSo_29 hl (by decide) rfl (fun ls hl => ?_)
          refine lv_iload hx hb dX3_allSo_31 (lv_at hl 0 rfl) ?_
          refine lv_aload_n hx hb dX3_allSo_33 rfl (lv_at hl 2 rfl) ?_
          refine g3_numbers hx hb hts hin3 hown hK hP (hts (.fieldLink RX3 9 "LoadedForTheLane$Row" "numbers" "[I") (by decide +kernel)) dX3_allSo_34 ?_
          refine lv_iload_n hx hb dX3_allSo_37 rfl (lv_at hl 1 rfl) ?_
          have ix_5 : vp_in x3_2 12 := ix_of (by omega) (by omega)
          refine l3_numbers (j := (x3_2.toNatClampNeg)) hx hb hK hP ix_5 rfl dX3_allSo_38 ?_
          refine lv_iconst (v := 1) hx hb dX3_allSo_39 (by decide) ?_
          refine lv_icmp_ne (tgt := 47) hx hb dX3_allSo_40 (by decide) (fun c_6 => ?_) (fun c_6 => ?_)
          · have E := E.trans (if_neg c_6)
            have fc_6 := i_ne c_6
            rw [q_1] at fc_6
            refine lv_iconst (v := 0) hx hb dX3_allSo_47 (by decide) ?_
            refine lv_icmp_eq (tgt := 53) hx hb dX3_allSo_48 (by decide) (fun _ => ?_) (fun z => absurd z (by decide))
            refine lv_iinc (v := x3_2 + 2) (lv' := [(3, .int (x3_2 + 2)), (4, .int 0), (0, .ref (ad 0)), (1, .int a1), (2, .int a2)]) hx hb dX3_allSo_53 hl (k := 1) rfl rfl (by decide) rfl (fun ls hl => ?_)
            refine lv_goto (tgt := 2) hx hb dX3_allSo_56 (by decide) ?_
            try have := i_addr (a := x3_2) (b := 2) (n := 2) q_2 (by omega) (by omega)
            exact ih_2 (x3_2 + 2) ls ⟨by omega, by omega⟩ (by omega) (lv_sub hl [0, 2, 3, 4] rfl) E
          · have E := E.trans (if_pos c_6)
            have fc_6 := i_eq c_6
            rw [q_1] at fc_6
            refine lv_iconst (v := 1) hx hb dX3_allSo_43 (by decide) ?_
            refine lv_goto (tgt := 48) hx hb dX3_allSo_44 (by decide) ?_
            refine lv_icmp_eq (tgt := 53) hx hb dX3_allSo_48 (by decide) (fun z => absurd z (by decide)) (fun _ => ?_)
            refine lv_iconst (v := 0) hx hb dX3_allSo_51 (by decide) ?_
            exact W.zret (ty := .boolean) (v := 0) hx hb hr (z_nar (Or.inl rfl)) (fun t ht hW => ⟨_, rfl, ⟨E.symm, (Or.inl rfl)⟩, ht⟩) (fun q hq => by cases hq) dX3_allSo_52
        · have E := E.trans (if_neg c_4)
          have fc_4 := i_nlt c_4
          refine lv_iconst (v := 1) hx hb dX3_allSo_24 (by decide) ?_
          refine lv_goto (tgt := 29) hx hb dX3_allSo_25 (by decide) ?_
          refine lv_istore (lv' := [(4, .int 1), (3, .int x3_2), (0, .ref (ad 0)), (1, .int a1), (2, .int a2)]) hx hb dX3_allSo_29 hl (by decide) rfl (fun ls hl => ?_)
          refine lv_iload hx hb dX3_allSo_31 (lv_at hl 0 rfl) ?_
          refine lv_aload_n hx hb dX3_allSo_33 rfl (lv_at hl 2 rfl) ?_
          refine g3_numbers hx hb hts hin3 hown hK hP (hts (.fieldLink RX3 9 "LoadedForTheLane$Row" "numbers" "[I") (by decide +kernel)) dX3_allSo_34 ?_
          refine lv_iload_n hx hb dX3_allSo_37 rfl (lv_at hl 1 rfl) ?_
          have ix_7 : vp_in x3_2 12 := ix_of (by omega) (by omega)
          refine l3_numbers (j := (x3_2.toNatClampNeg)) hx hb hK hP ix_7 rfl dX3_allSo_38 ?_
          refine lv_iconst (v := 1) hx hb dX3_allSo_39 (by decide) ?_
          refine lv_icmp_ne (tgt := 47) hx hb dX3_allSo_40 (by decide) (fun c_8 => ?_) (fun c_8 => ?_)
          · have E := E.trans (if_neg c_8)
            have fc_8 := i_ne c_8
            rw [q_1] at fc_8
            refine lv_iconst (v := 0) hx hb dX3_allSo_47 (by decide) ?_
            refine lv_icmp_eq (tgt := 53) hx hb dX3_allSo_48 (by decide) (fun z => absurd z (by decide)) (fun _ => ?_)
            refine lv_iconst (v := 0) hx hb dX3_allSo_51 (by decide) ?_
            exact W.zret (ty := .boolean) (v := 0) hx hb hr (z_nar (Or.inl rfl)) (fun t ht hW => ⟨_, rfl, ⟨E.symm, (Or.inl rfl)⟩, ht⟩) (fun q hq => by cases hq) dX3_allSo_52
          · have E := E.trans (if_pos c_8)
            have fc_8 := i_eq c_8
            rw [q_1] at fc_8
            refine lv_iconst (v := 1) hx hb dX3_allSo_43 (by decide) ?_
            refine lv_goto (tgt := 48) hx hb dX3_allSo_44 (by decide) ?_
            refine lv_icmp_eq (tgt := 53) hx hb dX3_allSo_48 (by decide) (fun _ => ?_) (fun z => absurd z (by decide))
            refine lv_iinc (v := x3_2 + 2) (lv' := [(3, .int (x3_2 + 2)), (4, .int 1), (0, .ref (ad 0)), (1, .int a1), (2, .int a2)]) hx hb dX3_allSo_53 hl (k := 1) rfl rfl (by decide) rfl (fun ls hl => ?_)
            refine lv_goto (tgt := 2) hx hb dX3_allSo_56 (by decide) ?_
            try have := i_addr (a := x3_2) (b := 2) (n := 2) q_2 (by omega) (by omega)
            exact ih_2 (x3_2 + 2) ls ⟨by omega, by omega⟩ (by omega) (lv_sub hl [0, 2, 3, 4] rfl) E
  have := q_1
  exact L_2 13 1 ls ⟨by omega, by omega⟩ (by omega) (lv_sub hl [0, 1, 2, 3] rfl) E
abbrev rmX3_leastBinding : Room := { frames := 1, cells := 0, slots := 0, locals := 24 }
set_option maxHeartbeats 4000000 in
set_option maxRecDepth 100000 in
theorem kX3_leastBinding (l : Launch) (D : va_G) (cI cC cQ : ClassId) (ad : Nat → Nat) (w : Nat → Nat → Int32) (a1 : Int32)  (hI : R3I w)  : Met l yX3_leastBinding wsX3_leastBinding rmX3_leastBinding (va_Pc [Value.ref (ad 0), Value.int a1] (fun U => va_P D vwCl (RW cI ad w) U.heap ∧ va_K D vwCl [(cI, .int), (cC, .char), (cQ, .object "LoadedForTheLane$Way")] U)) (vp_Si (fun r => r = sX3_leastBinding w a1)) 0 0 (fun _ => False) := by
  refine Met.ofW (cc := cX3_leastBinding) (maxL := 3) (ret := (some .int)) (by decide) rfl ?_
  intro p e s m args below meth c s₁ B hml hv
  obtain ⟨rfl, hP, hK⟩ := hv
  have hx := B.exec
  have hb := B.bytes
  have hr := B.returns
  have hts := atoms_spec (ws := wsX3_leastBinding) B.pre
  have hown : s.vm.findClass RX3 = some m.cls := findClass_of_methodNamed B.named
  have hlocks := B.notSynchronized
  have hl := lv_entry ([.ref (ad 0), .int a1]) (n := 3) (Nat.le_of_ble_eq_true rfl)
  rw [lg_entry_eq]
  generalize (lg_sl ([.ref (ad 0), .int a1]) ++ List.replicate (3 - (lg_sl ([.ref (ad 0), .int a1])).length) Slot.unset).toArray = ls at hl ⊢
  have hl : lv_has ls 3 [(0, .ref (ad 0)), (1, .int a1)] := hl
  have E := sX3_leastBinding.eq_1 w a1
  refine lv_iconst (v := 0) hx hb dX3_leastBinding_0 (by decide) ?_
  refine lv_istore_n (lv' := [(2, .int 0), (0, .ref (ad 0)), (1, .int a1)]) hx hb dX3_leastBinding_1 rfl hl (by decide) rfl (fun ls hl => ?_)
  have L_2 : ∀ (n_2 : Nat) (x2_2 : Int32) (ls : Array Slot), ((0 ≤ x2_2.toInt) ∧ (x2_2.toInt ≤ 21)) → (21 - x2_2.toInt < (n_2 : Int)) → lv_has ls 3 [(2, .int x2_2), (0, .ref (ad 0)), (1, .int a1)] → sX3_leastBinding w a1 = sX3_leastBinding_2 w a1 n_2 x2_2 → W p l e (headSpec wsX3_leastBinding rmX3_leastBinding).room s m [Value.ref (ad 0), Value.int a1].toArray below meth c s.heap [] 0 0 (MQ below (vp_Si (fun r => r = sX3_leastBinding w a1)) [Value.ref (ad 0), Value.int a1].toArray s 0 0 (fun _ => False)) (F0 m 2 ls []) := by
    intro n_2
    induction n_2 with
    | zero =>
      intro x2_2 ls hinv hm
      obtain ⟨v0_2, v1_2⟩ := hinv
      exact absurd hm (by omega)
    | succ n_2 ih_2 =>
      intro x2_2 ls hinv hm_2 hl E
      obtain ⟨v0_2, v1_2⟩ := hinv
      have E := E.trans (sX3_leastBinding_2.eq_2 ..)
      refine lv_iload_n hx hb dX3_leastBinding_2 rfl (lv_at hl 0 rfl) ?_
      refine lv_bipush (v := 20) hx hb dX3_leastBinding_3 (by decide +kernel) ?_
      refine lv_icmp_gt (tgt := 25) hx hb dX3_leastBinding_5 (by decide) (fun c_1 => ?_) (fun c_1 => ?_)
      · have E := E.trans (if_pos c_1)
        have fc_1 := i_lt c_1
        rw [q_20] at fc_1
        refine lv_bipush (v := (-9)) hx hb dX3_leastBinding_25 (by decide +kernel) ?_
        exact W.iret (v := (-9)) hx hb hr (fun t ht hW => ⟨_, rfl, E.symm, ht⟩) (fun q hq => by cases hq) dX3_leastBinding_27
      · have E := E.trans (if_neg c_1)
        have fc_1 := i_nlt c_1
        rw [q_20] at fc_1
        refine lv_aload_n hx hb dX3_leastBinding_8 rfl (lv_at hl 1 rfl) ?_
        refine lv_iload_n hx hb dX3_leastBinding_9 rfl (lv_at hl 0 rfl) ?_
        refine lv_iload_n hx hb dX3_leastBinding_10 rfl (lv_at hl 2 rfl) ?_
        refine vp_callSi (va_Run.run (va_runV (As := [.int x2_2, .int a1]) (rest := []) ⟨hx, hb, hml, hown, hts⟩ (kX3_allSo l D cI cC cQ ad w x2_2 a1 hI) (cwV 2 hts gX3_leastBinding_X3_allSo rfl rfl rfl mdX3_allSo ⟨Nat.le_of_ble_eq_true rfl, Nat.le_of_ble_eq_true rfl⟩) (x3_pre hK hP) rfl rfl hl.1 rfl (lv_room (Nat.le_of_ble_eq_true rfl)) dX3_leastBinding_11 ⟨Nat.zero_le _, Nat.zero_le _⟩)) (fun rn_2 hr_2 => ?_)
        obtain ⟨rfl, hz_2⟩ := hr_2
        refine lv_if_eq (tgt := 19) hx hb dX3_leastBinding_14 (by decide) (fun c_3 => ?_) (fun c_3 => ?_)
        · have E := E.trans (if_pos c_3)
          have fc_3 := i_eq c_3
          rw [q_0] at fc_3
          refine lv_iinc (v := x2_2 + 1) (lv' := [(2, .int (x2_2 + 1)), (0, .ref (ad 0)), (1, .int a1)]) hx hb dX3_leastBinding_19 hl (k := 0) rfl rfl (by decide) rfl (fun ls hl => ?_)
          refine lv_goto (tgt := 2) hx hb dX3_leastBinding_22 (by decide) ?_
          try have := i_addr (a := x2_2) (b := 1) (n := 1) q_1 (by omega) (by omega)
          exact ih_2 (x2_2 + 1) ls ⟨by omega, by omega⟩ (by omega) (lv_sub hl [0, 1, 2] rfl) E
        · have E := E.trans (if_neg c_3)
          have fc_3 := i_ne c_3
          rw [q_0] at fc_3
          refine lv_iload_n hx hb dX3_leastBinding_17 rfl (lv_at hl 0 rfl) ?_
          exact W.iret (v := x2_2) hx hb hr (fun t ht hW => ⟨_, rfl, E.symm, ht⟩) (fun q hq => by cases hq) dX3_leastBinding_18
  have := q_0
  exact L_2 22 0 ls ⟨by omega, by omega⟩ (by omega) (lv_sub hl [0, 1, 2] rfl) E
abbrev rmX3_greatestBinding : Room := { frames := 1, cells := 0, slots := 0, locals := 24 }
set_option maxHeartbeats 4000000 in
set_option maxRecDepth 100000 in
theorem kX3_greatestBinding (l : Launch) (D : va_G) (cI cC cQ : ClassId) (ad : Nat → Nat) (w : Nat → Nat → Int32) (a1 : Int32)  (hI : R3I w)  : Met l yX3_greatestBinding wsX3_greatestBinding rmX3_greatestBinding (va_Pc [Value.ref (ad 0), Value.int a1] (fun U => va_P D vwCl (RW cI ad w) U.heap ∧ va_K D vwCl [(cI, .int), (cC, .char), (cQ, .object "LoadedForTheLane$Way")] U)) (vp_Si (fun r => r = sX3_greatestBinding w a1)) 0 0 (fun _ => False) := by
  refine Met.ofW (cc := cX3_greatestBinding) (maxL := 3) (ret := (some .int)) (by decide) rfl ?_
  intro p e s m args below meth c s₁ B hml hv
  obtain ⟨rfl, hP, hK⟩ := hv
  have hx := B.exec
  have hb := B.bytes
  have hr := B.returns
  have hts := atoms_spec (ws := wsX3_greatestBinding) B.pre
  have hown : s.vm.findClass RX3 = some m.cls := findClass_of_methodNamed B.named
  have hlocks := B.notSynchronized
  have hl := lv_entry ([.ref (ad 0), .int a1]) (n := 3) (Nat.le_of_ble_eq_true rfl)
  rw [lg_entry_eq]
  generalize (lg_sl ([.ref (ad 0), .int a1]) ++ List.replicate (3 - (lg_sl ([.ref (ad 0), .int a1])).length) Slot.unset).toArray = ls at hl ⊢
  have hl : lv_has ls 3 [(0, .ref (ad 0)), (1, .int a1)] := hl
  have E := sX3_greatestBinding.eq_1 w a1
  refine lv_bipush (v := 20) hx hb dX3_greatestBinding_0 (by decide +kernel) ?_
  refine lv_istore_n (lv' := [(2, .int 20), (0, .ref (ad 0)), (1, .int a1)]) hx hb dX3_greatestBinding_2 rfl hl (by decide) rfl (fun ls hl => ?_)
  have L_3 : ∀ (n_3 : Nat) (x2_3 : Int32) (ls : Array Slot), ((-1 ≤ x2_3.toInt) ∧ (x2_3.toInt ≤ 20)) → (x2_3.toInt + 1 < (n_3 : Int)) → lv_has ls 3 [(2, .int x2_3), (0, .ref (ad 0)), (1, .int a1)] → sX3_greatestBinding w a1 = sX3_greatestBinding_3 w a1 n_3 x2_3 → W p l e (headSpec wsX3_greatestBinding rmX3_greatestBinding).room s m [Value.ref (ad 0), Value.int a1].toArray below meth c s.heap [] 0 0 (MQ below (vp_Si (fun r => r = sX3_greatestBinding w a1)) [Value.ref (ad 0), Value.int a1].toArray s 0 0 (fun _ => False)) (F0 m 3 ls []) := by
    intro n_3
    induction n_3 with
    | zero =>
      intro x2_3 ls hinv hm
      obtain ⟨v0_3, v1_3⟩ := hinv
      exact absurd hm (by omega)
    | succ n_3 ih_3 =>
      intro x2_3 ls hinv hm_3 hl E
      obtain ⟨v0_3, v1_3⟩ := hinv
      have E := E.trans (sX3_greatestBinding_3.eq_2 ..)
      refine lv_iload_n hx hb dX3_greatestBinding_3 rfl (lv_at hl 0 rfl) ?_
      refine lv_if_lt (tgt := 24) hx hb dX3_greatestBinding_4 (by decide) (fun c_1 => ?_) (fun c_1 => ?_)
      · have E := E.trans (if_pos c_1)
        have fc_1 := i_lt c_1
        rw [q_0] at fc_1
        refine lv_bipush (v := (-9)) hx hb dX3_greatestBinding_24 (by decide +kernel) ?_
        exact W.iret (v := (-9)) hx hb hr (fun t ht hW => ⟨_, rfl, E.symm, ht⟩) (fun q hq => by cases hq) dX3_greatestBinding_26
      · have E := E.trans (if_neg c_1)
        have fc_1 := i_nlt c_1
        rw [q_0] at fc_1
        refine lv_aload_n hx hb dX3_greatestBinding_7 rfl (lv_at hl 1 rfl) ?_
        refine lv_iload_n hx hb dX3_greatestBinding_8 rfl (lv_at hl 0 rfl) ?_
        refine lv_iload_n hx hb dX3_greatestBinding_9 rfl (lv_at hl 2 rfl) ?_
        refine vp_callSi (va_Run.run (va_runV (As := [.int x2_3, .int a1]) (rest := []) ⟨hx, hb, hml, hown, hts⟩ (kX3_allSo l D cI cC cQ ad w x2_3 a1 hI) (cwV 2 hts gX3_greatestBinding_X3_allSo rfl rfl rfl mdX3_allSo ⟨Nat.le_of_ble_eq_true rfl, Nat.le_of_ble_eq_true rfl⟩) (x3_pre hK hP) rfl rfl hl.1 rfl (lv_room (Nat.le_of_ble_eq_true rfl)) dX3_greatestBinding_10 ⟨Nat.zero_le _, Nat.zero_le _⟩)) (fun rn_2 hr_2 => ?_)
        obtain ⟨rfl, hz_2⟩ := hr_2
        refine lv_if_eq (tgt := 18) hx hb dX3_greatestBinding_13 (by decide) (fun c_3 => ?_) (fun c_3 => ?_)
        · have E := E.trans (if_pos c_3)
          have fc_3 := i_eq c_3
          rw [q_0] at fc_3
          obtain ⟨xn_4, hxn_4⟩ : ∃ y : Int32, y = x2_3 + (-1) := ⟨_, rfl⟩
          have E := bns_e E hxn_4
          have fxn_4 : xn_4.toInt = x2_3.toInt + (-1) := by rw [hxn_4]; exact i_addr (a := x2_3) (b := (-1)) (n := -1) q_m1 (by omega) (by omega)
          refine lv_iinc (v := xn_4) (lv' := [(2, .int xn_4), (0, .ref (ad 0)), (1, .int a1)]) hx hb dX3_greatestBinding_18 hl (k := 0) rfl (by rw [hxn_4]; rfl) (by decide) rfl (fun ls hl => ?_)
          refine lv_goto (tgt := 3) hx hb dX3_greatestBinding_21 (by decide) ?_
          exact ih_3 xn_4 ls ⟨by omega, by omega⟩ (by omega) (lv_sub hl [0, 1, 2] rfl) E
        · have E := E.trans (if_neg c_3)
          have fc_3 := i_ne c_3
          rw [q_0] at fc_3
          refine lv_iload_n hx hb dX3_greatestBinding_16 rfl (lv_at hl 0 rfl) ?_
          exact W.iret (v := x2_3) hx hb hr (fun t ht hW => ⟨_, rfl, E.symm, ht⟩) (fun q hq => by cases hq) dX3_greatestBinding_17
  have := q_20
  exact L_3 22 20 ls ⟨by omega, by omega⟩ (by omega) (lv_sub hl [0, 1, 2] rfl) E
abbrev rmX4_nextSeed : Room := { frames := 0, cells := 0, slots := 0, locals := 0 }
set_option maxHeartbeats 4000000 in
set_option maxRecDepth 100000 in
theorem kX4_nextSeed (l : Launch)  (a1 : Int32)   : Met l yX4_nextSeed wsX4_nextSeed rmX4_nextSeed (va_Pc [Value.int a1] (fun U => True)) (vp_Si (fun r => r = sX4_nextSeed a1)) 0 0 (fun _ => False) := by
  refine Met.ofW (cc := cX4_nextSeed) (maxL := 1) (ret := (some .int)) (by decide) rfl ?_
  intro p e s m args below meth c s₁ B hml hv
  obtain ⟨rfl, -⟩ := hv
  have hx := B.exec
  have hb := B.bytes
  have hr := B.returns
  have hts := atoms_spec (ws := wsX4_nextSeed) B.pre
  have hown : s.vm.findClass RX4 = some m.cls := findClass_of_methodNamed B.named
  have hlocks := B.notSynchronized
  have hl := lv_entry ([.int a1]) (n := 1) (Nat.le_of_ble_eq_true rfl)
  rw [lg_entry_eq]
  generalize (lg_sl ([.int a1]) ++ List.replicate (1 - (lg_sl ([.int a1])).length) Slot.unset).toArray = ls at hl ⊢
  have hl : lv_has ls 1 [(0, .int a1)] := hl
  have E := sX4_nextSeed.eq_1 a1
  refine lv_iload_n hx hb dX4_nextSeed_0 rfl (lv_at hl 0 rfl) ?_
  refine lv_ldc (own := RX4) (v := 1664525) hx hb hown (hts (.constant RX4 109 (1664525)) (by decide +kernel)) dX4_nextSeed_1 ?_
  refine lv_imul hx hb dX4_nextSeed_3 ?_
  refine lv_ldc (own := RX4) (v := 1013904223) hx hb hown (hts (.constant RX4 110 (1013904223)) (by decide +kernel)) dX4_nextSeed_4 ?_
  refine lv_iadd hx hb dX4_nextSeed_6 ?_
  exact W.iret (v := (a1 * 1664525) + 1013904223) hx hb hr (fun t ht hW => ⟨_, rfl, E.symm, ht⟩) (fun q hq => by cases hq) dX4_nextSeed_7
abbrev rmX4_draw : Room := { frames := 0, cells := 0, slots := 0, locals := 0 }
set_option maxHeartbeats 4000000 in
set_option maxRecDepth 100000 in
theorem kX4_draw (l : Launch)  (a1 : Int32) (a2 : Int32)   : Met l yX4_draw wsX4_draw rmX4_draw (va_Pc [Value.int a1, Value.int a2] (fun U => True)) (vp_Si (fun r => r = sX4_draw a1 a2)) 0 0 (fun _ => False) := by
  refine Met.ofW (cc := cX4_draw) (maxL := 2) (ret := (some .int)) (by decide) rfl ?_
  intro p e s m args below meth c s₁ B hml hv
  obtain ⟨rfl, -⟩ := hv
  have hx := B.exec
  have hb := B.bytes
  have hr := B.returns
  have hts := atoms_spec (ws := wsX4_draw) B.pre
  have hown : s.vm.findClass RX4 = some m.cls := findClass_of_methodNamed B.named
  have hlocks := B.notSynchronized
  have hl := lv_entry ([.int a1, .int a2]) (n := 2) (Nat.le_of_ble_eq_true rfl)
  rw [lg_entry_eq]
  generalize (lg_sl ([.int a1, .int a2]) ++ List.replicate (2 - (lg_sl ([.int a1, .int a2])).length) Slot.unset).toArray = ls at hl ⊢
  have hl : lv_has ls 2 [(0, .int a1), (1, .int a2)] := hl
  have E := sX4_draw.eq_1 a1 a2
  refine lv_iload_n hx hb dX4_draw_0 rfl (lv_at hl 1 rfl) ?_
  refine lv_iconst (v := 1) hx hb dX4_draw_1 (by decide) ?_
  refine lv_icmp_ge (tgt := 9) hx hb dX4_draw_2 (by decide) (fun c_1 => ?_) (fun c_1 => ?_)
  · have E := E.trans (if_pos c_1)
    have fc_1 := i_le c_1
    rw [q_1] at fc_1
    refine lv_iload_n hx hb dX4_draw_9 rfl (lv_at hl 0 rfl) ?_
    refine lv_ldc (own := RX4) (v := 2147483647) hx hb hown (hts (.constant RX4 111 (2147483647)) (by decide +kernel)) dX4_draw_10 ?_
    refine lv_iand hx hb dX4_draw_12 ?_
    refine lv_sipush (v := 256) hx hb dX4_draw_13 (by decide +kernel) ?_
    refine lv_idiv hx hb dX4_draw_16 (by decide) ?_
    refine lv_iload_n hx hb dX4_draw_17 rfl (lv_at hl 1 rfl) ?_
    refine lv_irem hx hb dX4_draw_18 (i_ne0 (by omega)) ?_
    exact W.iret (v := ((a1 &&& 2147483647) / 256) - ((a1 &&& 2147483647) / 256) / a2 * a2) hx hb hr (fun t ht hW => ⟨_, rfl, E.symm, ht⟩) (fun q hq => by cases hq) dX4_draw_19
  · have E := E.trans (if_neg c_1)
    have fc_1 := i_nle c_1
    rw [q_1] at fc_1
    refine lv_iconst (v := 0) hx hb dX4_draw_5 (by decide) ?_
    refine lv_goto (tgt := 19) hx hb dX4_draw_6 (by decide) ?_
    exact W.iret (v := 0) hx hb hr (fun t ht hW => ⟨_, rfl, E.symm, ht⟩) (fun q hq => by cases hq) dX4_draw_19
abbrev rmX4_hasLayer : Room := { frames := 0, cells := 0, slots := 0, locals := 0 }
set_option maxHeartbeats 4000000 in
set_option maxRecDepth 100000 in
theorem kX4_hasLayer (l : Launch) (D : va_G) (cI cC cQ : ClassId) (ad : Nat → Nat) (w : Nat → Nat → Int32) (a1 : Int32)   : Met l yX4_hasLayer wsX4_hasLayer rmX4_hasLayer (va_Pc [Value.ref (ad 0), Value.int a1] (fun U => va_P D vwCl (WG cI cQ ad w) U.heap ∧ va_K D vwCl [(cI, .int), (cC, .char), (cQ, .object "LoadedForTheLane$Way")] U ∧ NW U)) (vp_Si (fun r => r = sX4_hasLayer w a1 ∧ (r = 0 ∨ r = 1))) 0 0 (fun _ => False) := by
  refine Met.ofW (cc := cX4_hasLayer) (maxL := 2) (ret := (some .boolean)) (by decide) rfl ?_
  intro p e s m args below meth c s₁ B hml hv
  obtain ⟨rfl, hP, hK, hN⟩ := hv
  have hx := B.exec
  have hb := B.bytes
  have hr := B.returns
  have hts := atoms_spec (ws := wsX4_hasLayer) B.pre
  have hown : s.vm.findClass RX4 = some m.cls := findClass_of_methodNamed B.named
  have hlocks := B.notSynchronized
  have hin4 : ∀ q ∈ wsX40, q ∈ wsX4_hasLayer := by decide +kernel
  have hl := lv_entry ([.ref (ad 0), .int a1]) (n := 2) (Nat.le_of_ble_eq_true rfl)
  rw [lg_entry_eq]
  generalize (lg_sl ([.ref (ad 0), .int a1]) ++ List.replicate (2 - (lg_sl ([.ref (ad 0), .int a1])).length) Slot.unset).toArray = ls at hl ⊢
  have hl : lv_has ls 2 [(0, .ref (ad 0)), (1, .int a1)] := hl
  have E := sX4_hasLayer.eq_1 w a1
  refine lv_iload_n hx hb dX4_hasLayer_0 rfl (lv_at hl 1 rfl) ?_
  refine lv_if_lt (tgt := 16) hx hb dX4_hasLayer_1 (by decide) (fun c_1 => ?_) (fun c_1 => ?_)
  · have E := E.trans (if_pos c_1)
    have fc_1 := i_lt c_1
    rw [q_0] at fc_1
    refine lv_iconst (v := 0) hx hb dX4_hasLayer_16 (by decide) ?_
    exact W.zret (ty := .boolean) (v := 0) hx hb hr (z_nar (Or.inl rfl)) (fun t ht hW => ⟨_, rfl, ⟨E.symm, (Or.inl rfl)⟩, ht⟩) (fun q hq => by cases hq) dX4_hasLayer_17
  · have E := E.trans (if_neg c_1)
    have fc_1 := i_nlt c_1
    rw [q_0] at fc_1
    refine lv_iload_n hx hb dX4_hasLayer_4 rfl (lv_at hl 1 rfl) ?_
    refine lv_aload_n hx hb dX4_hasLayer_5 rfl (lv_at hl 0 rfl) ?_
    refine g4_layers hx hb hts hin4 hown hK hP (hts (.fieldLink RX4 30 "LoadedForTheLane$Wagon" "layers" "I") (by decide +kernel)) dX4_hasLayer_6 ?_
    refine lv_icmp_ge (tgt := 16) hx hb dX4_hasLayer_9 (by decide) (fun c_2 => ?_) (fun c_2 => ?_)
    · have E := E.trans (if_pos c_2)
      have fc_2 := i_le c_2
      refine lv_iconst (v := 0) hx hb dX4_hasLayer_16 (by decide) ?_
      exact W.zret (ty := .boolean) (v := 0) hx hb hr (z_nar (Or.inl rfl)) (fun t ht hW => ⟨_, rfl, ⟨E.symm, (Or.inl rfl)⟩, ht⟩) (fun q hq => by cases hq) dX4_hasLayer_17
    · have E := E.trans (if_neg c_2)
      have fc_2 := i_nle c_2
      refine lv_iconst (v := 1) hx hb dX4_hasLayer_12 (by decide) ?_
      refine lv_goto (tgt := 17) hx hb dX4_hasLayer_13 (by decide) ?_
      exact W.zret (ty := .boolean) (v := 1) hx hb hr (z_nar (Or.inr rfl)) (fun t ht hW => ⟨_, rfl, ⟨E.symm, (Or.inr rfl)⟩, ht⟩) (fun q hq => by cases hq) dX4_hasLayer_17
abbrev rmX4_hasWay : Room := { frames := 0, cells := 0, slots := 0, locals := 0 }
set_option maxHeartbeats 4000000 in
set_option maxRecDepth 100000 in
theorem kX4_hasWay (l : Launch) (D : va_G) (cI cC cQ : ClassId) (ad : Nat → Nat) (w : Nat → Nat → Int32) (a1 : Int32)   : Met l yX4_hasWay wsX4_hasWay rmX4_hasWay (va_Pc [Value.ref (ad 0), Value.int a1] (fun U => va_P D vwCl (WG cI cQ ad w) U.heap ∧ va_K D vwCl [(cI, .int), (cC, .char), (cQ, .object "LoadedForTheLane$Way")] U ∧ NW U)) (vp_Si (fun r => r = sX4_hasWay w a1 ∧ (r = 0 ∨ r = 1))) 0 0 (fun _ => False) := by
  refine Met.ofW (cc := cX4_hasWay) (maxL := 2) (ret := (some .boolean)) (by decide) rfl ?_
  intro p e s m args below meth c s₁ B hml hv
  obtain ⟨rfl, hP, hK, hN⟩ := hv
  have hx := B.exec
  have hb := B.bytes
  have hr := B.returns
  have hts := atoms_spec (ws := wsX4_hasWay) B.pre
  have hown : s.vm.findClass RX4 = some m.cls := findClass_of_methodNamed B.named
  have hlocks := B.notSynchronized
  have hin4 : ∀ q ∈ wsX40, q ∈ wsX4_hasWay := by decide +kernel
  have hl := lv_entry ([.ref (ad 0), .int a1]) (n := 2) (Nat.le_of_ble_eq_true rfl)
  rw [lg_entry_eq]
  generalize (lg_sl ([.ref (ad 0), .int a1]) ++ List.replicate (2 - (lg_sl ([.ref (ad 0), .int a1])).length) Slot.unset).toArray = ls at hl ⊢
  have hl : lv_has ls 2 [(0, .ref (ad 0)), (1, .int a1)] := hl
  have E := sX4_hasWay.eq_1 w a1
  refine lv_iload_n hx hb dX4_hasWay_0 rfl (lv_at hl 1 rfl) ?_
  refine lv_if_lt (tgt := 17) hx hb dX4_hasWay_1 (by decide) (fun c_1 => ?_) (fun c_1 => ?_)
  · have E := E.trans (if_pos c_1)
    have fc_1 := i_lt c_1
    rw [q_0] at fc_1
    refine lv_iconst (v := 0) hx hb dX4_hasWay_17 (by decide) ?_
    exact W.zret (ty := .boolean) (v := 0) hx hb hr (z_nar (Or.inl rfl)) (fun t ht hW => ⟨_, rfl, ⟨E.symm, (Or.inl rfl)⟩, ht⟩) (fun q hq => by cases hq) dX4_hasWay_18
  · have E := E.trans (if_neg c_1)
    have fc_1 := i_nlt c_1
    rw [q_0] at fc_1
    refine lv_iload_n hx hb dX4_hasWay_4 rfl (lv_at hl 1 rfl) ?_
    refine lv_aload_n hx hb dX4_hasWay_5 rfl (lv_at hl 0 rfl) ?_
    refine g4_ways hx hb hts hin4 hown hK hP (hts (.fieldLink RX4 48 "LoadedForTheLane$Wagon" "ways" "[LLoadedForTheLane$Way;") (by decide +kernel)) dX4_hasWay_6 ?_
    refine n4_ways (v := 2) hx hb hK hP (by decide) dX4_hasWay_9 ?_
    refine lv_icmp_ge (tgt := 17) hx hb dX4_hasWay_10 (by decide) (fun c_2 => ?_) (fun c_2 => ?_)
    · have E := E.trans (if_pos c_2)
      have fc_2 := i_le c_2
      rw [q_2] at fc_2
      refine lv_iconst (v := 0) hx hb dX4_hasWay_17 (by decide) ?_
      exact W.zret (ty := .boolean) (v := 0) hx hb hr (z_nar (Or.inl rfl)) (fun t ht hW => ⟨_, rfl, ⟨E.symm, (Or.inl rfl)⟩, ht⟩) (fun q hq => by cases hq) dX4_hasWay_18
    · have E := E.trans (if_neg c_2)
      have fc_2 := i_nle c_2
      rw [q_2] at fc_2
      refine lv_iconst (v := 1) hx hb dX4_hasWay_13 (by decide) ?_
      refine lv_goto (tgt := 18) hx hb dX4_hasWay_14 (by decide) ?_
      exact W.zret (ty := .boolean) (v := 1) hx hb hr (z_nar (Or.inr rfl)) (fun t ht hW => ⟨_, rfl, ⟨E.symm, (Or.inr rfl)⟩, ht⟩) (fun q hq => by cases hq) dX4_hasWay_18
abbrev rmX4_hasPiece : Room := { frames := 1, cells := 0, slots := 0, locals := 21 }
set_option maxHeartbeats 4000000 in
set_option maxRecDepth 100000 in
theorem kX4_hasPiece (l : Launch) (D : va_G) (cI cC cQ : ClassId) (ad : Nat → Nat) (w : Nat → Nat → Int32) (a1 : Int32) (a2 : Int32)   : Met l yX4_hasPiece wsX4_hasPiece rmX4_hasPiece (va_Pc [Value.ref (ad 0), Value.int a1, Value.int a2] (fun U => va_P D vwCl (WG cI cQ ad w) U.heap ∧ va_K D vwCl [(cI, .int), (cC, .char), (cQ, .object "LoadedForTheLane$Way")] U ∧ NW U)) (vp_Si (fun r => r = sX4_hasPiece w a1 a2 ∧ (r = 0 ∨ r = 1))) 0 0 (fun _ => False) := by
  refine Met.ofW (cc := cX4_hasPiece) (maxL := 3) (ret := (some .boolean)) (by decide) rfl ?_
  intro p e s m args below meth c s₁ B hml hv
  obtain ⟨rfl, hP, hK, hN⟩ := hv
  have hx := B.exec
  have hb := B.bytes
  have hr := B.returns
  have hts := atoms_spec (ws := wsX4_hasPiece) B.pre
  have hown : s.vm.findClass RX4 = some m.cls := findClass_of_methodNamed B.named
  have hlocks := B.notSynchronized
  have hin4 : ∀ q ∈ wsX40, q ∈ wsX4_hasPiece := by decide +kernel
  have hin5 : ∀ q ∈ wsX50, q ∈ wsX4_hasPiece := by decide +kernel
  have hl := lv_entry ([.ref (ad 0), .int a1, .int a2]) (n := 3) (Nat.le_of_ble_eq_true rfl)
  rw [lg_entry_eq]
  generalize (lg_sl ([.ref (ad 0), .int a1, .int a2]) ++ List.replicate (3 - (lg_sl ([.ref (ad 0), .int a1, .int a2])).length) Slot.unset).toArray = ls at hl ⊢
  have hl : lv_has ls 3 [(0, .ref (ad 0)), (1, .int a1), (2, .int a2)] := hl
  have E := sX4_hasPiece.eq_1 w a1 a2
  refine lv_aload_n hx hb dX4_hasPiece_0 rfl (lv_at hl 0 rfl) ?_
  refine lv_iload_n hx hb dX4_hasPiece_1 rfl (lv_at hl 1 rfl) ?_
  refine vp_callSi (va_Run.run (va_runV (As := [.int a1]) (rest := []) ⟨hx, hb, hml, hown, hts⟩ (kX4_hasWay l D cI cC cQ ad w a1) (cwV 1 hts gX4_hasPiece_X4_hasWay rfl rfl rfl mdX4_hasWay ⟨Nat.le_of_ble_eq_true rfl, Nat.le_of_ble_eq_true rfl⟩) (x4_pre hK hP hN) rfl rfl hl.1 rfl (lv_room (Nat.le_of_ble_eq_true rfl)) dX4_hasPiece_2 ⟨Nat.zero_le _, Nat.zero_le _⟩)) (fun rn_1 hr_1 => ?_)
  obtain ⟨rfl, hz_1⟩ := hr_1
  refine lv_if_eq (tgt := 29) hx hb dX4_hasPiece_5 (by decide) (fun c_2 => ?_) (fun c_2 => ?_)
  · have E := E.trans (if_pos c_2)
    have fc_2 := i_eq c_2
    rw [q_0] at fc_2
    refine lv_iconst (v := 0) hx hb dX4_hasPiece_29 (by decide) ?_
    exact W.zret (ty := .boolean) (v := 0) hx hb hr (z_nar (Or.inl rfl)) (fun t ht hW => ⟨_, rfl, ⟨E.symm, (Or.inl rfl)⟩, ht⟩) (fun q hq => by cases hq) dX4_hasPiece_30
  · have E := E.trans (if_neg c_2)
    have fc_2 := i_ne c_2
    rw [q_0] at fc_2
    have gc_2 := fX4_hasWay c_2
    refine lv_iload_n hx hb dX4_hasPiece_8 rfl (lv_at hl 2 rfl) ?_
    refine lv_if_lt (tgt := 29) hx hb dX4_hasPiece_9 (by decide) (fun c_3 => ?_) (fun c_3 => ?_)
    · have E := E.trans (if_pos c_3)
      have fc_3 := i_lt c_3
      rw [q_0] at fc_3
      refine lv_iconst (v := 0) hx hb dX4_hasPiece_29 (by decide) ?_
      exact W.zret (ty := .boolean) (v := 0) hx hb hr (z_nar (Or.inl rfl)) (fun t ht hW => ⟨_, rfl, ⟨E.symm, (Or.inl rfl)⟩, ht⟩) (fun q hq => by cases hq) dX4_hasPiece_30
    · have E := E.trans (if_neg c_3)
      have fc_3 := i_nlt c_3
      rw [q_0] at fc_3
      refine lv_iload_n hx hb dX4_hasPiece_12 rfl (lv_at hl 2 rfl) ?_
      refine lv_aload_n hx hb dX4_hasPiece_13 rfl (lv_at hl 0 rfl) ?_
      refine g4_ways hx hb hts hin4 hown hK hP (hts (.fieldLink RX4 48 "LoadedForTheLane$Wagon" "ways" "[LLoadedForTheLane$Way;") (by decide +kernel)) dX4_hasPiece_14 ?_
      refine lv_iload_n hx hb dX4_hasPiece_17 rfl (lv_at hl 1 rfl) ?_
      have ix_4 : vp_in a1 2 := ix_of (by omega) (by omega)
      refine q4_ways (j := (a1.toNatClampNeg)) hx hb hK hP ix_4 rfl dX4_hasPiece_18 ?_
      have hk_4 : (a1.toNatClampNeg) < 2 := by have := ix_cl (x := a1) (by omega); omega
      refine gw_piecesn hx hb hts hin5 hown hK hP hk_4 (nf_RX4_69 hN) dX4_hasPiece_19 ?_
      refine lv_icmp_ge (tgt := 29) hx hb dX4_hasPiece_22 (by decide) (fun c_5 => ?_) (fun c_5 => ?_)
      · have E := E.trans (if_pos c_5)
        have fc_5 := i_le c_5
        refine lv_iconst (v := 0) hx hb dX4_hasPiece_29 (by decide) ?_
        exact W.zret (ty := .boolean) (v := 0) hx hb hr (z_nar (Or.inl rfl)) (fun t ht hW => ⟨_, rfl, ⟨E.symm, (Or.inl rfl)⟩, ht⟩) (fun q hq => by cases hq) dX4_hasPiece_30
      · have E := E.trans (if_neg c_5)
        have fc_5 := i_nle c_5
        refine lv_iconst (v := 1) hx hb dX4_hasPiece_25 (by decide) ?_
        refine lv_goto (tgt := 30) hx hb dX4_hasPiece_26 (by decide) ?_
        exact W.zret (ty := .boolean) (v := 1) hx hb hr (z_nar (Or.inr rfl)) (fun t ht hW => ⟨_, rfl, ⟨E.symm, (Or.inr rfl)⟩, ht⟩) (fun q hq => by cases hq) dX4_hasPiece_30
abbrev rmX4_weightOf : Room := { frames := 1, cells := 0, slots := 0, locals := 21 }
set_option maxHeartbeats 4000000 in
set_option maxRecDepth 100000 in
theorem kX4_weightOf (l : Launch) (D : va_G) (cI cC cQ : ClassId) (ad : Nat → Nat) (w : Nat → Nat → Int32) (a1 : Int32)  (h1 : 0 ≤ a1.toInt) (h2 : a1.toInt < 12) : Met l yX4_weightOf wsX4_weightOf rmX4_weightOf (va_Pc [Value.ref (ad 0), Value.int a1] (fun U => va_P D vwCl (WG cI cQ ad w) U.heap ∧ va_K D vwCl [(cI, .int), (cC, .char), (cQ, .object "LoadedForTheLane$Way")] U ∧ NW U)) (vp_Si (fun r => r = sX4_weightOf w a1)) 0 0 (fun _ => False) := by
  refine Met.ofW (cc := cX4_weightOf) (maxL := 2) (ret := (some .int)) (by decide) rfl ?_
  intro p e s m args below meth c s₁ B hml hv
  obtain ⟨rfl, hP, hK, hN⟩ := hv
  have hx := B.exec
  have hb := B.bytes
  have hr := B.returns
  have hts := atoms_spec (ws := wsX4_weightOf) B.pre
  have hown : s.vm.findClass RX4 = some m.cls := findClass_of_methodNamed B.named
  have hlocks := B.notSynchronized
  have hin4 : ∀ q ∈ wsX40, q ∈ wsX4_weightOf := by decide +kernel
  have hl := lv_entry ([.ref (ad 0), .int a1]) (n := 2) (Nat.le_of_ble_eq_true rfl)
  rw [lg_entry_eq]
  generalize (lg_sl ([.ref (ad 0), .int a1]) ++ List.replicate (2 - (lg_sl ([.ref (ad 0), .int a1])).length) Slot.unset).toArray = ls at hl ⊢
  have hl : lv_has ls 2 [(0, .ref (ad 0)), (1, .int a1)] := hl
  have E := sX4_weightOf.eq_1 w a1
  refine lv_aload_n hx hb dX4_weightOf_0 rfl (lv_at hl 0 rfl) ?_
  refine g4_kinds hx hb hts hin4 hown hK hP (hts (.fieldLink RX4 11 "LoadedForTheLane$Wagon" "kinds" "[I") (by decide +kernel)) dX4_weightOf_1 ?_
  refine lv_iload_n hx hb dX4_weightOf_4 rfl (lv_at hl 1 rfl) ?_
  have ix_1 : vp_in a1 12 := ix_of (by omega) (by omega)
  refine l4_kinds (j := (a1.toNatClampNeg)) hx hb hK hP ix_1 rfl dX4_weightOf_5 ?_
  refine lv_aload_n hx hb dX4_weightOf_6 rfl (lv_at hl 0 rfl) ?_
  refine g4_sheaves hx hb hts hin4 hown hK hP (hts (.fieldLink RX4 15 "LoadedForTheLane$Wagon" "sheaves" "[I") (by decide +kernel)) dX4_weightOf_7 ?_
  refine lv_iload_n hx hb dX4_weightOf_10 rfl (lv_at hl 1 rfl) ?_
  have ix_2 : vp_in a1 12 := ix_of (by omega) (by omega)
  refine l4_sheaves (j := (a1.toNatClampNeg)) hx hb hK hP ix_2 rfl dX4_weightOf_11 ?_
  refine vp_callSi (va_Run.run (va_runSN (As := [.int (w 0 (a1.toNatClampNeg)), .int (w 1 (a1.toNatClampNeg))]) (rest := []) ⟨hx, hb, hml, hown, hts⟩ (kX0_weight l (w 0 (a1.toNatClampNeg)) (w 1 (a1.toNatClampNeg))) ⟨va_cnB 2 hts gX4_weightOf_X0_weight_n112 rfl rfl rfl (nm_RX4_112 hN) (hts (.initialized RX0) (by decide +kernel)) mdsX0_weight ⟨Nat.le_of_ble_eq_true rfl, Nat.le_of_ble_eq_true rfl⟩, hts (.static yX0_weight) (by decide +kernel), trivial⟩ s_pre rfl rfl hl.1 rfl (lv_room (Nat.le_of_ble_eq_true rfl)) dX4_weightOf_12 ⟨Nat.zero_le _, Nat.zero_le _⟩)) (fun rn_3 hr_3 => ?_)
  subst hr_3
  exact W.iret (v := (sX0_weight (w 0 (a1.toNatClampNeg)) (w 1 (a1.toNatClampNeg)))) hx hb hr (fun t ht hW => ⟨_, rfl, E.symm, ht⟩) (fun q hq => by cases hq) dX4_weightOf_15
abbrev rmX4_strengthOf : Room := { frames := 0, cells := 0, slots := 0, locals := 0 }
set_option maxHeartbeats 4000000 in
set_option maxRecDepth 100000 in
theorem kX4_strengthOf (l : Launch) (D : va_G) (cI cC cQ : ClassId) (ad : Nat → Nat) (w : Nat → Nat → Int32) (a1 : Int32)  (h1 : 0 ≤ a1.toInt) (h2 : a1.toInt < 12) : Met l yX4_strengthOf wsX4_strengthOf rmX4_strengthOf (va_Pc [Value.ref (ad 0), Value.int a1] (fun U => va_P D vwCl (WG cI cQ ad w) U.heap ∧ va_K D vwCl [(cI, .int), (cC, .char), (cQ, .object "LoadedForTheLane$Way")] U ∧ NW U)) (vp_Si (fun r => r = sX4_strengthOf w a1)) 0 0 (fun _ => False) := by
  refine Met.ofW (cc := cX4_strengthOf) (maxL := 2) (ret := (some .int)) (by decide) rfl ?_
  intro p e s m args below meth c s₁ B hml hv
  obtain ⟨rfl, hP, hK, hN⟩ := hv
  have hx := B.exec
  have hb := B.bytes
  have hr := B.returns
  have hts := atoms_spec (ws := wsX4_strengthOf) B.pre
  have hown : s.vm.findClass RX4 = some m.cls := findClass_of_methodNamed B.named
  have hlocks := B.notSynchronized
  have hin4 : ∀ q ∈ wsX40, q ∈ wsX4_strengthOf := by decide +kernel
  have hl := lv_entry ([.ref (ad 0), .int a1]) (n := 2) (Nat.le_of_ble_eq_true rfl)
  rw [lg_entry_eq]
  generalize (lg_sl ([.ref (ad 0), .int a1]) ++ List.replicate (2 - (lg_sl ([.ref (ad 0), .int a1])).length) Slot.unset).toArray = ls at hl ⊢
  have hl : lv_has ls 2 [(0, .ref (ad 0)), (1, .int a1)] := hl
  have E := sX4_strengthOf.eq_1 w a1
  refine lv_aload_n hx hb dX4_strengthOf_0 rfl (lv_at hl 0 rfl) ?_
  refine g4_bindings hx hb hts hin4 hown hK hP (hts (.fieldLink RX4 24 "LoadedForTheLane$Wagon" "bindings" "[I") (by decide +kernel)) dX4_strengthOf_1 ?_
  refine lv_iload_n hx hb dX4_strengthOf_4 rfl (lv_at hl 1 rfl) ?_
  have ix_1 : vp_in a1 12 := ix_of (by omega) (by omega)
  refine l4_bindings (j := (a1.toNatClampNeg)) hx hb hK hP ix_1 rfl dX4_strengthOf_5 ?_
  refine lv_bipush (v := 15) hx hb dX4_strengthOf_6 (by decide +kernel) ?_
  refine lv_aload_n hx hb dX4_strengthOf_8 rfl (lv_at hl 0 rfl) ?_
  refine g4_settings hx hb hts hin4 hown hK hP (hts (.fieldLink RX4 42 "LoadedForTheLane$Wagon" "settings" "[I") (by decide +kernel)) dX4_strengthOf_9 ?_
  refine lv_iconst (v := 0) hx hb dX4_strengthOf_12 (by decide) ?_
  have ix_2 : vp_in 0 4 := by unfold vp_in; decide
  refine l4_settings (j := 0) hx hb hK hP ix_2 (by decide) dX4_strengthOf_13 ?_
  refine lv_imul hx hb dX4_strengthOf_14 ?_
  refine lv_iadd hx hb dX4_strengthOf_15 ?_
  exact W.iret (v := (w 4 (a1.toNatClampNeg)) + (15 * (w 7 0))) hx hb hr (fun t ht hW => ⟨_, rfl, E.symm, ht⟩) (fun q hq => by cases hq) dX4_strengthOf_16
abbrev rmX4_height : Room := { frames := 1, cells := 0, slots := 0, locals := 20 }
set_option maxHeartbeats 4000000 in
set_option maxRecDepth 100000 in
theorem kX4_height (l : Launch) (D : va_G) (cI cC cQ : ClassId) (ad : Nat → Nat) (w : Nat → Nat → Int32)  (hI : R4I w)  : Met l yX4_height wsX4_height rmX4_height (va_Pc [Value.ref (ad 0)] (fun U => va_P D vwCl (WG cI cQ ad w) U.heap ∧ va_K D vwCl [(cI, .int), (cC, .char), (cQ, .object "LoadedForTheLane$Way")] U ∧ NW U)) (vp_Si (fun r => r = sX4_height w)) 0 0 (fun _ => False) := by
  refine Met.ofW (cc := cX4_height) (maxL := 3) (ret := (some .int)) (by decide) rfl ?_
  intro p e s m args below meth c s₁ B hml hv
  obtain ⟨rfl, hP, hK, hN⟩ := hv
  have hx := B.exec
  have hb := B.bytes
  have hr := B.returns
  have hts := atoms_spec (ws := wsX4_height) B.pre
  have hown : s.vm.findClass RX4 = some m.cls := findClass_of_methodNamed B.named
  have hlocks := B.notSynchronized
  have hin4 : ∀ q ∈ wsX40, q ∈ wsX4_height := by decide +kernel
  have hl := lv_entry ([.ref (ad 0)]) (n := 3) (Nat.le_of_ble_eq_true rfl)
  rw [lg_entry_eq]
  generalize (lg_sl ([.ref (ad 0)]) ++ List.replicate (3 - (lg_sl ([.ref (ad 0)])).length) Slot.unset).toArray = ls at hl ⊢
  have hl : lv_has ls 3 [(0, .ref (ad 0))] := hl
  have E := sX4_height.eq_1 w
  refine lv_iconst (v := 0) hx hb dX4_height_0 (by decide) ?_
  refine lv_istore_n (lv' := [(1, .int 0), (0, .ref (ad 0))]) hx hb dX4_height_1 rfl hl (by decide) rfl (fun ls hl => ?_)
  refine lv_iconst (v := 0) hx hb dX4_height_2 (by decide) ?_
  refine lv_istore_n (lv' := [(2, .int 0), (1, .int 0), (0, .ref (ad 0))]) hx hb dX4_height_3 rfl hl (by decide) rfl (fun ls hl => ?_)
  have L_4 : ∀ (n_4 : Nat) (x1_4 : Int32) (x2_4 : Int32) (ls : Array Slot), ((0 ≤ x2_4.toInt) ∧ (x2_4.toInt ≤ 12)) → (12 - x2_4.toInt < (n_4 : Int)) → lv_has ls 3 [(2, .int x2_4), (1, .int x1_4), (0, .ref (ad 0))] → sX4_height w = sX4_height_4 w n_4 x1_4 x2_4 → W p l e (headSpec wsX4_height rmX4_height).room s m [Value.ref (ad 0)].toArray below meth c s.heap [] 0 0 (MQ below (vp_Si (fun r => r = sX4_height w)) [Value.ref (ad 0)].toArray s 0 0 (fun _ => False)) (F0 m 4 ls []) := by
    intro n_4
    induction n_4 with
    | zero =>
      intro x1_4 x2_4 ls hinv hm
      obtain ⟨v0_4, v1_4⟩ := hinv
      exact absurd hm (by omega)
    | succ n_4 ih_4 =>
      intro x1_4 x2_4 ls hinv hm_4 hl E
      obtain ⟨v0_4, v1_4⟩ := hinv
      have E := E.trans (sX4_height_4.eq_2 ..)
      refine lv_iload_n hx hb dX4_height_4 rfl (lv_at hl 0 rfl) ?_
      refine lv_aload_n hx hb dX4_height_5 rfl (lv_at hl 2 rfl) ?_
      refine g4_layers hx hb hts hin4 hown hK hP (hts (.fieldLink RX4 30 "LoadedForTheLane$Wagon" "layers" "I") (by decide +kernel)) dX4_height_6 ?_
      have f_1 := R4I_layers hI
      refine lv_icmp_ge (tgt := 30) hx hb dX4_height_9 (by decide) (fun c_2 => ?_) (fun c_2 => ?_)
      · have E := E.trans (if_pos c_2)
        have fc_2 := i_le c_2
        refine lv_iload_n hx hb dX4_height_30 rfl (lv_at hl 1 rfl) ?_
        exact W.iret (v := x1_4) hx hb hr (fun t ht hW => ⟨_, rfl, E.symm, ht⟩) (fun q hq => by cases hq) dX4_height_31
      · have E := E.trans (if_neg c_2)
        have fc_2 := i_nle c_2
        refine lv_iload_n hx hb dX4_height_12 rfl (lv_at hl 1 rfl) ?_
        refine lv_aload_n hx hb dX4_height_13 rfl (lv_at hl 2 rfl) ?_
        refine g4_kinds hx hb hts hin4 hown hK hP (hts (.fieldLink RX4 11 "LoadedForTheLane$Wagon" "kinds" "[I") (by decide +kernel)) dX4_height_14 ?_
        refine lv_iload_n hx hb dX4_height_17 rfl (lv_at hl 0 rfl) ?_
        have ix_3 : vp_in x2_4 12 := ix_of (by omega) (by omega)
        refine l4_kinds (j := (x2_4.toNatClampNeg)) hx hb hK hP ix_3 rfl dX4_height_18 ?_
        refine vp_callSi (va_Run.run (va_runSN (As := [.int (w 0 (x2_4.toNatClampNeg))]) (rest := [.int x1_4]) ⟨hx, hb, hml, hown, hts⟩ (kX0_thickness l (w 0 (x2_4.toNatClampNeg))) ⟨va_cnB 1 hts gX4_height_X0_thickness_n115 rfl rfl rfl (nm_RX4_115 hN) (hts (.initialized RX0) (by decide +kernel)) mdsX0_thickness ⟨Nat.le_of_ble_eq_true rfl, Nat.le_of_ble_eq_true rfl⟩, hts (.static yX0_thickness) (by decide +kernel), trivial⟩ s_pre rfl rfl hl.1 rfl (lv_room (Nat.le_of_ble_eq_true rfl)) dX4_height_19 ⟨Nat.zero_le _, Nat.zero_le _⟩)) (fun rn_4 hr_4 => ?_)
        subst hr_4
        refine lv_iadd hx hb dX4_height_22 ?_
        refine lv_istore_n (lv' := [(1, .int (x1_4 + (sX0_thickness (w 0 (x2_4.toNatClampNeg))))), (2, .int x2_4), (0, .ref (ad 0))]) hx hb dX4_height_23 rfl hl (by decide) rfl (fun ls hl => ?_)
        refine lv_iinc (v := x2_4 + 1) (lv' := [(2, .int (x2_4 + 1)), (1, .int (x1_4 + (sX0_thickness (w 0 (x2_4.toNatClampNeg))))), (0, .ref (ad 0))]) hx hb dX4_height_24 hl (k := 1) rfl rfl (by decide) rfl (fun ls hl => ?_)
        refine lv_goto (tgt := 4) hx hb dX4_height_27 (by decide) ?_
        try have := i_addr (a := x2_4) (b := 1) (n := 1) q_1 (by omega) (by omega)
        exact ih_4 (x1_4 + (sX0_thickness (w 0 (x2_4.toNatClampNeg)))) (x2_4 + 1) ls ⟨by omega, by omega⟩ (by omega) (lv_sub hl [0, 1, 2] rfl) E
  have := q_0
  exact L_4 13 0 0 ls ⟨by omega, by omega⟩ (by omega) (lv_sub hl [0, 1, 2] rfl) E
abbrev rmX4_layerFarthestOut : Room := { frames := 0, cells := 0, slots := 0, locals := 0 }
set_option maxHeartbeats 4000000 in
set_option maxRecDepth 100000 in
theorem kX4_layerFarthestOut (l : Launch) (D : va_G) (cI cC cQ : ClassId) (ad : Nat → Nat) (w : Nat → Nat → Int32)  (hI : R4I w)  : Met l yX4_layerFarthestOut wsX4_layerFarthestOut rmX4_layerFarthestOut (va_Pc [Value.ref (ad 0)] (fun U => va_P D vwCl (WG cI cQ ad w) U.heap ∧ va_K D vwCl [(cI, .int), (cC, .char), (cQ, .object "LoadedForTheLane$Way")] U ∧ NW U)) (vp_Si (fun r => r = sX4_layerFarthestOut w)) 0 0 (fun _ => False) := by
  refine Met.ofW (cc := cX4_layerFarthestOut) (maxL := 3) (ret := (some .int)) (by decide) rfl ?_
  intro p e s m args below meth c s₁ B hml hv
  obtain ⟨rfl, hP, hK, hN⟩ := hv
  have hx := B.exec
  have hb := B.bytes
  have hr := B.returns
  have hts := atoms_spec (ws := wsX4_layerFarthestOut) B.pre
  have hown : s.vm.findClass RX4 = some m.cls := findClass_of_methodNamed B.named
  have hlocks := B.notSynchronized
  have hin4 : ∀ q ∈ wsX40, q ∈ wsX4_layerFarthestOut := by decide +kernel
  have hl := lv_entry ([.ref (ad 0)]) (n := 3) (Nat.le_of_ble_eq_true rfl)
  rw [lg_entry_eq]
  generalize (lg_sl ([.ref (ad 0)]) ++ List.replicate (3 - (lg_sl ([.ref (ad 0)])).length) Slot.unset).toArray = ls at hl ⊢
  have hl : lv_has ls 3 [(0, .ref (ad 0))] := hl
  have E := sX4_layerFarthestOut.eq_1 w
  refine lv_iconst (v := (-1)) hx hb dX4_layerFarthestOut_0 (by decide) ?_
  refine lv_istore_n (lv' := [(1, .int (-1)), (0, .ref (ad 0))]) hx hb dX4_layerFarthestOut_1 rfl hl (by decide) rfl (fun ls hl => ?_)
  refine lv_iconst (v := 0) hx hb dX4_layerFarthestOut_2 (by decide) ?_
  refine lv_istore_n (lv' := [(2, .int 0), (1, .int (-1)), (0, .ref (ad 0))]) hx hb dX4_layerFarthestOut_3 rfl hl (by decide) rfl (fun ls hl => ?_)
  have L_4 : ∀ (n_4 : Nat) (x1_4 : Int32) (x2_4 : Int32) (ls : Array Slot), ((0 ≤ x2_4.toInt) ∧ (x2_4.toInt ≤ 12) ∧ (-1 ≤ x1_4.toInt) ∧ (x1_4.toInt < 12)) → (12 - x2_4.toInt < (n_4 : Int)) → lv_has ls 3 [(2, .int x2_4), (1, .int x1_4), (0, .ref (ad 0))] → sX4_layerFarthestOut w = sX4_layerFarthestOut_4 w n_4 x1_4 x2_4 → W p l e (headSpec wsX4_layerFarthestOut rmX4_layerFarthestOut).room s m [Value.ref (ad 0)].toArray below meth c s.heap [] 0 0 (MQ below (vp_Si (fun r => r = sX4_layerFarthestOut w)) [Value.ref (ad 0)].toArray s 0 0 (fun _ => False)) (F0 m 4 ls []) := by
    intro n_4
    induction n_4 with
    | zero =>
      intro x1_4 x2_4 ls hinv hm
      obtain ⟨v0_4, v1_4, v2_4, v3_4⟩ := hinv
      exact absurd hm (by omega)
    | succ n_4 ih_4 =>
      intro x1_4 x2_4 ls hinv hm_4 hl E
      obtain ⟨v0_4, v1_4, v2_4, v3_4⟩ := hinv
      have E := E.trans (sX4_layerFarthestOut_4.eq_2 ..)
      refine lv_iload_n hx hb dX4_layerFarthestOut_4 rfl (lv_at hl 0 rfl) ?_
      refine lv_aload_n hx hb dX4_layerFarthestOut_5 rfl (lv_at hl 2 rfl) ?_
      refine g4_layers hx hb hts hin4 hown hK hP (hts (.fieldLink RX4 30 "LoadedForTheLane$Wagon" "layers" "I") (by decide +kernel)) dX4_layerFarthestOut_6 ?_
      have f_1 := R4I_layers hI
      refine lv_icmp_ge (tgt := 39) hx hb dX4_layerFarthestOut_9 (by decide) (fun c_2 => ?_) (fun c_2 => ?_)
      · have E := E.trans (if_pos c_2)
        have fc_2 := i_le c_2
        refine lv_iload_n hx hb dX4_layerFarthestOut_39 rfl (lv_at hl 1 rfl) ?_
        exact W.iret (v := x1_4) hx hb hr (fun t ht hW => ⟨_, rfl, E.symm, ht⟩) (fun q hq => by cases hq) dX4_layerFarthestOut_40
      · have E := E.trans (if_neg c_2)
        have fc_2 := i_nle c_2
        refine lv_iload_n hx hb dX4_layerFarthestOut_12 rfl (lv_at hl 1 rfl) ?_
        refine lv_if_lt (tgt := 31) hx hb dX4_layerFarthestOut_13 (by decide) (fun c_3 => ?_) (fun c_3 => ?_)
        · have E := E.trans (if_pos c_3)
          have fc_3 := i_lt c_3
          rw [q_0] at fc_3
          refine lv_iload_n hx hb dX4_layerFarthestOut_31 rfl (lv_at hl 0 rfl) ?_
          refine lv_istore_n (lv' := [(1, .int x2_4), (2, .int x2_4), (0, .ref (ad 0))]) hx hb dX4_layerFarthestOut_32 rfl hl (by decide) rfl (fun ls hl => ?_)
          refine lv_iinc (v := x2_4 + 1) (lv' := [(2, .int (x2_4 + 1)), (1, .int x2_4), (0, .ref (ad 0))]) hx hb dX4_layerFarthestOut_33 hl (k := 1) rfl rfl (by decide) rfl (fun ls hl => ?_)
          refine lv_goto (tgt := 4) hx hb dX4_layerFarthestOut_36 (by decide) ?_
          try have := i_addr (a := x2_4) (b := 1) (n := 1) q_1 (by omega) (by omega)
          exact ih_4 x2_4 (x2_4 + 1) ls ⟨by omega, by omega, by omega, by omega⟩ (by omega) (lv_sub hl [0, 1, 2] rfl) E
        · have E := E.trans (if_neg c_3)
          have fc_3 := i_nlt c_3
          rw [q_0] at fc_3
          refine lv_aload_n hx hb dX4_layerFarthestOut_16 rfl (lv_at hl 2 rfl) ?_
          refine g4_outs hx hb hts hin4 hown hK hP (hts (.fieldLink RX4 18 "LoadedForTheLane$Wagon" "outs" "[I") (by decide +kernel)) dX4_layerFarthestOut_17 ?_
          refine lv_iload_n hx hb dX4_layerFarthestOut_20 rfl (lv_at hl 0 rfl) ?_
          have ix_4 : vp_in x2_4 12 := ix_of (by omega) (by omega)
          refine l4_outs (j := (x2_4.toNatClampNeg)) hx hb hK hP ix_4 rfl dX4_layerFarthestOut_21 ?_
          refine lv_aload_n hx hb dX4_layerFarthestOut_22 rfl (lv_at hl 2 rfl) ?_
          refine g4_outs hx hb hts hin4 hown hK hP (hts (.fieldLink RX4 18 "LoadedForTheLane$Wagon" "outs" "[I") (by decide +kernel)) dX4_layerFarthestOut_23 ?_
          refine lv_iload_n hx hb dX4_layerFarthestOut_26 rfl (lv_at hl 1 rfl) ?_
          have ix_5 : vp_in x1_4 12 := ix_of (by omega) (by omega)
          refine l4_outs (j := (x1_4.toNatClampNeg)) hx hb hK hP ix_5 rfl dX4_layerFarthestOut_27 ?_
          refine lv_icmp_le (tgt := 33) hx hb dX4_layerFarthestOut_28 (by decide) (fun c_6 => ?_) (fun c_6 => ?_)
          · have E := E.trans (if_pos c_6)
            have fc_6 := i_le c_6
            refine lv_iinc (v := x2_4 + 1) (lv' := [(2, .int (x2_4 + 1)), (1, .int x1_4), (0, .ref (ad 0))]) hx hb dX4_layerFarthestOut_33 hl (k := 0) rfl rfl (by decide) rfl (fun ls hl => ?_)
            refine lv_goto (tgt := 4) hx hb dX4_layerFarthestOut_36 (by decide) ?_
            try have := i_addr (a := x2_4) (b := 1) (n := 1) q_1 (by omega) (by omega)
            exact ih_4 x1_4 (x2_4 + 1) ls ⟨by omega, by omega, by omega, by omega⟩ (by omega) (lv_sub hl [0, 1, 2] rfl) E
          · have E := E.trans (if_neg c_6)
            have fc_6 := i_nle c_6
            refine lv_iload_n hx hb dX4_layerFarthestOut_31 rfl (lv_at hl 0 rfl) ?_
            refine lv_istore_n (lv' := [(1, .int x2_4), (2, .int x2_4), (0, .ref (ad 0))]) hx hb dX4_layerFarthestOut_32 rfl hl (by decide) rfl (fun ls hl => ?_)
            refine lv_iinc (v := x2_4 + 1) (lv' := [(2, .int (x2_4 + 1)), (1, .int x2_4), (0, .ref (ad 0))]) hx hb dX4_layerFarthestOut_33 hl (k := 1) rfl rfl (by decide) rfl (fun ls hl => ?_)
            refine lv_goto (tgt := 4) hx hb dX4_layerFarthestOut_36 (by decide) ?_
            try have := i_addr (a := x2_4) (b := 1) (n := 1) q_1 (by omega) (by omega)
            exact ih_4 x2_4 (x2_4 + 1) ls ⟨by omega, by omega, by omega, by omega⟩ (by omega) (lv_sub hl [0, 1, 2] rfl) E
  have := q_m1
  have := q_0
  exact L_4 13 ((-1)) 0 ls ⟨by omega, by omega, by omega, by omega⟩ (by omega) (lv_sub hl [0, 1, 2] rfl) E
abbrev rmX4_width : Room := { frames := 1, cells := 0, slots := 0, locals := 22 }
set_option maxHeartbeats 4000000 in
set_option maxRecDepth 100000 in
theorem kX4_width (l : Launch) (D : va_G) (cI cC cQ : ClassId) (ad : Nat → Nat) (w : Nat → Nat → Int32)  (hI : R4I w)  : Met l yX4_width wsX4_width rmX4_width (va_Pc [Value.ref (ad 0)] (fun U => va_P D vwCl (WG cI cQ ad w) U.heap ∧ va_K D vwCl [(cI, .int), (cC, .char), (cQ, .object "LoadedForTheLane$Way")] U ∧ NW U)) (vp_Si (fun r => r = sX4_width w)) 0 0 (fun _ => False) := by
  refine Met.ofW (cc := cX4_width) (maxL := 2) (ret := (some .int)) (by decide) rfl ?_
  intro p e s m args below meth c s₁ B hml hv
  obtain ⟨rfl, hP, hK, hN⟩ := hv
  have hx := B.exec
  have hb := B.bytes
  have hr := B.returns
  have hts := atoms_spec (ws := wsX4_width) B.pre
  have hown : s.vm.findClass RX4 = some m.cls := findClass_of_methodNamed B.named
  have hlocks := B.notSynchronized
  have hin4 : ∀ q ∈ wsX40, q ∈ wsX4_width := by decide +kernel
  have hl := lv_entry ([.ref (ad 0)]) (n := 2) (Nat.le_of_ble_eq_true rfl)
  rw [lg_entry_eq]
  generalize (lg_sl ([.ref (ad 0)]) ++ List.replicate (2 - (lg_sl ([.ref (ad 0)])).length) Slot.unset).toArray = ls at hl ⊢
  have hl : lv_has ls 2 [(0, .ref (ad 0))] := hl
  have E := sX4_width.eq_1 w
  refine lv_aload_n hx hb dX4_width_0 rfl (lv_at hl 0 rfl) ?_
  refine vp_callSi (va_Run.run (va_runV (As := []) (rest := []) ⟨hx, hb, hml, hown, hts⟩ (kX4_layerFarthestOut l D cI cC cQ ad w hI) (cwV 0 hts gX4_width_X4_layerFarthestOut rfl rfl rfl mdX4_layerFarthestOut ⟨Nat.le_of_ble_eq_true rfl, Nat.le_of_ble_eq_true rfl⟩) (x4_pre hK hP hN) rfl rfl hl.1 rfl (lv_room (Nat.le_of_ble_eq_true rfl)) dX4_width_1 ⟨Nat.zero_le _, Nat.zero_le _⟩)) (fun rn_1 hr_1 => ?_)
  subst hr_1
  have rf_1 := rX4_layerFarthestOut hI
  refine lv_istore_n (lv' := [(1, .int (sX4_layerFarthestOut w)), (0, .ref (ad 0))]) hx hb dX4_width_4 rfl hl (by decide) rfl (fun ls hl => ?_)
  refine lv_iload_n hx hb dX4_width_5 rfl (lv_at hl 0 rfl) ?_
  refine lv_if_ge (tgt := 14) hx hb dX4_width_6 (by decide) (fun c_2 => ?_) (fun c_2 => ?_)
  · have E := E.trans (if_pos c_2)
    have fc_2 := i_le c_2
    rw [q_0] at fc_2
    refine lv_bipush (v := 96) hx hb dX4_width_14 (by decide +kernel) ?_
    refine lv_iconst (v := 2) hx hb dX4_width_16 (by decide) ?_
    refine lv_aload_n hx hb dX4_width_17 rfl (lv_at hl 1 rfl) ?_
    refine g4_outs hx hb hts hin4 hown hK hP (hts (.fieldLink RX4 18 "LoadedForTheLane$Wagon" "outs" "[I") (by decide +kernel)) dX4_width_18 ?_
    refine lv_iload_n hx hb dX4_width_21 rfl (lv_at hl 0 rfl) ?_
    have ix_3 : vp_in (sX4_layerFarthestOut w) 12 := ix_of (by omega) (by omega)
    refine l4_outs (j := ((sX4_layerFarthestOut w).toNatClampNeg)) hx hb hK hP ix_3 rfl dX4_width_22 ?_
    refine lv_imul hx hb dX4_width_23 ?_
    refine lv_iadd hx hb dX4_width_24 ?_
    exact W.iret (v := 96 + (2 * (w 2 ((sX4_layerFarthestOut w).toNatClampNeg)))) hx hb hr (fun t ht hW => ⟨_, rfl, E.symm, ht⟩) (fun q hq => by cases hq) dX4_width_25
  · have E := E.trans (if_neg c_2)
    have fc_2 := i_nle c_2
    rw [q_0] at fc_2
    refine lv_bipush (v := 96) hx hb dX4_width_9 (by decide +kernel) ?_
    refine lv_goto (tgt := 25) hx hb dX4_width_11 (by decide) ?_
    exact W.iret (v := 96) hx hb hr (fun t ht hW => ⟨_, rfl, E.symm, ht⟩) (fun q hq => by cases hq) dX4_width_25
abbrev rmX4_allWeight : Room := { frames := 0, cells := 0, slots := 0, locals := 0 }
set_option maxHeartbeats 4000000 in
set_option maxRecDepth 100000 in
theorem kX4_allWeight (l : Launch) (D : va_G) (cI cC cQ : ClassId) (ad : Nat → Nat) (w : Nat → Nat → Int32)   : Met l yX4_allWeight wsX4_allWeight rmX4_allWeight (va_Pc [Value.ref (ad 0)] (fun U => va_P D vwCl (WG cI cQ ad w) U.heap ∧ va_K D vwCl [(cI, .int), (cC, .char), (cQ, .object "LoadedForTheLane$Way")] U ∧ NW U)) (vp_Si (fun r => r = sX4_allWeight w)) 0 0 (fun _ => False) := by
  refine Met.ofW (cc := cX4_allWeight) (maxL := 1) (ret := (some .int)) (by decide) rfl ?_
  intro p e s m args below meth c s₁ B hml hv
  obtain ⟨rfl, hP, hK, hN⟩ := hv
  have hx := B.exec
  have hb := B.bytes
  have hr := B.returns
  have hts := atoms_spec (ws := wsX4_allWeight) B.pre
  have hown : s.vm.findClass RX4 = some m.cls := findClass_of_methodNamed B.named
  have hlocks := B.notSynchronized
  have hin4 : ∀ q ∈ wsX40, q ∈ wsX4_allWeight := by decide +kernel
  have hl := lv_entry ([.ref (ad 0)]) (n := 1) (Nat.le_of_ble_eq_true rfl)
  rw [lg_entry_eq]
  generalize (lg_sl ([.ref (ad 0)]) ++ List.replicate (1 - (lg_sl ([.ref (ad 0)])).length) Slot.unset).toArray = ls at hl ⊢
  have hl : lv_has ls 1 [(0, .ref (ad 0))] := hl
  have E := sX4_allWeight.eq_1 w
  refine lv_aload_n hx hb dX4_allWeight_0 rfl (lv_at hl 0 rfl) ?_
  refine g4_layers hx hb hts hin4 hown hK hP (hts (.fieldLink RX4 30 "LoadedForTheLane$Wagon" "layers" "I") (by decide +kernel)) dX4_allWeight_1 ?_
  refine lv_if_ne (tgt := 11) hx hb dX4_allWeight_4 (by decide) (fun c_1 => ?_) (fun c_1 => ?_)
  · have E := E.trans (if_neg c_1)
    have fc_1 := i_ne c_1
    rw [q_0] at fc_1
    refine lv_aload_n hx hb dX4_allWeight_11 rfl (lv_at hl 0 rfl) ?_
    refine g4_loads hx hb hts hin4 hown hK hP (hts (.fieldLink RX4 27 "LoadedForTheLane$Wagon" "loads" "[I") (by decide +kernel)) dX4_allWeight_12 ?_
    refine lv_iconst (v := 0) hx hb dX4_allWeight_15 (by decide) ?_
    have ix_2 : vp_in 0 12 := by unfold vp_in; decide
    refine l4_loads (j := 0) hx hb hK hP ix_2 (by decide) dX4_allWeight_16 ?_
    exact W.iret (v := w 5 0) hx hb hr (fun t ht hW => ⟨_, rfl, E.symm, ht⟩) (fun q hq => by cases hq) dX4_allWeight_17
  · have E := E.trans (if_pos c_1)
    have fc_1 := i_eq c_1
    rw [q_0] at fc_1
    refine lv_iconst (v := 0) hx hb dX4_allWeight_7 (by decide) ?_
    refine lv_goto (tgt := 17) hx hb dX4_allWeight_8 (by decide) ?_
    exact W.iret (v := 0) hx hb hr (fun t ht hW => ⟨_, rfl, E.symm, ht⟩) (fun q hq => by cases hq) dX4_allWeight_17
abbrev rmX4_allSheaves : Room := { frames := 0, cells := 0, slots := 0, locals := 0 }
set_option maxHeartbeats 4000000 in
set_option maxRecDepth 100000 in
theorem kX4_allSheaves (l : Launch) (D : va_G) (cI cC cQ : ClassId) (ad : Nat → Nat) (w : Nat → Nat → Int32)  (hI : R4I w)  : Met l yX4_allSheaves wsX4_allSheaves rmX4_allSheaves (va_Pc [Value.ref (ad 0)] (fun U => va_P D vwCl (WG cI cQ ad w) U.heap ∧ va_K D vwCl [(cI, .int), (cC, .char), (cQ, .object "LoadedForTheLane$Way")] U ∧ NW U)) (vp_Si (fun r => r = sX4_allSheaves w)) 0 0 (fun _ => False) := by
  refine Met.ofW (cc := cX4_allSheaves) (maxL := 3) (ret := (some .int)) (by decide) rfl ?_
  intro p e s m args below meth c s₁ B hml hv
  obtain ⟨rfl, hP, hK, hN⟩ := hv
  have hx := B.exec
  have hb := B.bytes
  have hr := B.returns
  have hts := atoms_spec (ws := wsX4_allSheaves) B.pre
  have hown : s.vm.findClass RX4 = some m.cls := findClass_of_methodNamed B.named
  have hlocks := B.notSynchronized
  have hin4 : ∀ q ∈ wsX40, q ∈ wsX4_allSheaves := by decide +kernel
  have hl := lv_entry ([.ref (ad 0)]) (n := 3) (Nat.le_of_ble_eq_true rfl)
  rw [lg_entry_eq]
  generalize (lg_sl ([.ref (ad 0)]) ++ List.replicate (3 - (lg_sl ([.ref (ad 0)])).length) Slot.unset).toArray = ls at hl ⊢
  have hl : lv_has ls 3 [(0, .ref (ad 0))] := hl
  have E := sX4_allSheaves.eq_1 w
  refine lv_iconst (v := 0) hx hb dX4_allSheaves_0 (by decide) ?_
  refine lv_istore_n (lv' := [(1, .int 0), (0, .ref (ad 0))]) hx hb dX4_allSheaves_1 rfl hl (by decide) rfl (fun ls hl => ?_)
  refine lv_iconst (v := 0) hx hb dX4_allSheaves_2 (by decide) ?_
  refine lv_istore_n (lv' := [(2, .int 0), (1, .int 0), (0, .ref (ad 0))]) hx hb dX4_allSheaves_3 rfl hl (by decide) rfl (fun ls hl => ?_)
  have L_4 : ∀ (n_4 : Nat) (x1_4 : Int32) (x2_4 : Int32) (ls : Array Slot), ((0 ≤ x2_4.toInt) ∧ (x2_4.toInt ≤ 12)) → (12 - x2_4.toInt < (n_4 : Int)) → lv_has ls 3 [(2, .int x2_4), (1, .int x1_4), (0, .ref (ad 0))] → sX4_allSheaves w = sX4_allSheaves_4 w n_4 x1_4 x2_4 → W p l e (headSpec wsX4_allSheaves rmX4_allSheaves).room s m [Value.ref (ad 0)].toArray below meth c s.heap [] 0 0 (MQ below (vp_Si (fun r => r = sX4_allSheaves w)) [Value.ref (ad 0)].toArray s 0 0 (fun _ => False)) (F0 m 4 ls []) := by
    intro n_4
    induction n_4 with
    | zero =>
      intro x1_4 x2_4 ls hinv hm
      obtain ⟨v0_4, v1_4⟩ := hinv
      exact absurd hm (by omega)
    | succ n_4 ih_4 =>
      intro x1_4 x2_4 ls hinv hm_4 hl E
      obtain ⟨v0_4, v1_4⟩ := hinv
      have E := E.trans (sX4_allSheaves_4.eq_2 ..)
      refine lv_iload_n hx hb dX4_allSheaves_4 rfl (lv_at hl 0 rfl) ?_
      refine lv_aload_n hx hb dX4_allSheaves_5 rfl (lv_at hl 2 rfl) ?_
      refine g4_layers hx hb hts hin4 hown hK hP (hts (.fieldLink RX4 30 "LoadedForTheLane$Wagon" "layers" "I") (by decide +kernel)) dX4_allSheaves_6 ?_
      have f_1 := R4I_layers hI
      refine lv_icmp_ge (tgt := 27) hx hb dX4_allSheaves_9 (by decide) (fun c_2 => ?_) (fun c_2 => ?_)
      · have E := E.trans (if_pos c_2)
        have fc_2 := i_le c_2
        refine lv_iload_n hx hb dX4_allSheaves_27 rfl (lv_at hl 1 rfl) ?_
        exact W.iret (v := x1_4) hx hb hr (fun t ht hW => ⟨_, rfl, E.symm, ht⟩) (fun q hq => by cases hq) dX4_allSheaves_28
      · have E := E.trans (if_neg c_2)
        have fc_2 := i_nle c_2
        refine lv_iload_n hx hb dX4_allSheaves_12 rfl (lv_at hl 1 rfl) ?_
        refine lv_aload_n hx hb dX4_allSheaves_13 rfl (lv_at hl 2 rfl) ?_
        refine g4_sheaves hx hb hts hin4 hown hK hP (hts (.fieldLink RX4 15 "LoadedForTheLane$Wagon" "sheaves" "[I") (by decide +kernel)) dX4_allSheaves_14 ?_
        refine lv_iload_n hx hb dX4_allSheaves_17 rfl (lv_at hl 0 rfl) ?_
        have ix_3 : vp_in x2_4 12 := ix_of (by omega) (by omega)
        refine l4_sheaves (j := (x2_4.toNatClampNeg)) hx hb hK hP ix_3 rfl dX4_allSheaves_18 ?_
        refine lv_iadd hx hb dX4_allSheaves_19 ?_
        refine lv_istore_n (lv' := [(1, .int (x1_4 + (w 1 (x2_4.toNatClampNeg)))), (2, .int x2_4), (0, .ref (ad 0))]) hx hb dX4_allSheaves_20 rfl hl (by decide) rfl (fun ls hl => ?_)
        refine lv_iinc (v := x2_4 + 1) (lv' := [(2, .int (x2_4 + 1)), (1, .int (x1_4 + (w 1 (x2_4.toNatClampNeg)))), (0, .ref (ad 0))]) hx hb dX4_allSheaves_21 hl (k := 1) rfl rfl (by decide) rfl (fun ls hl => ?_)
        refine lv_goto (tgt := 4) hx hb dX4_allSheaves_24 (by decide) ?_
        try have := i_addr (a := x2_4) (b := 1) (n := 1) q_1 (by omega) (by omega)
        exact ih_4 (x1_4 + (w 1 (x2_4.toNatClampNeg))) (x2_4 + 1) ls ⟨by omega, by omega⟩ (by omega) (lv_sub hl [0, 1, 2] rfl) E
  have := q_0
  exact L_4 13 0 0 ls ⟨by omega, by omega⟩ (by omega) (lv_sub hl [0, 1, 2] rfl) E
abbrev rmX4_shiftOf : Room := { frames := 1, cells := 0, slots := 0, locals := 14 }
set_option maxHeartbeats 4000000 in
set_option maxRecDepth 100000 in
theorem kX4_shiftOf (l : Launch) (D : va_G) (cI cC cQ : ClassId) (ad : Nat → Nat) (w : Nat → Nat → Int32) (a1 : Int32) (a2 : Int32) (a3 : Int32)  (h1 : 0 ≤ a1.toInt) (h2 : a1.toInt < 2) (h3 : 0 ≤ a2.toInt) (h4 : a2.toInt < 6) (h5 : 0 ≤ a3.toInt) (h6 : a3.toInt < 12) : Met l yX4_shiftOf wsX4_shiftOf rmX4_shiftOf (va_Pc [Value.ref (ad 0), Value.int a1, Value.int a2, Value.int a3] (fun U => va_P D vwCl (WG cI cQ ad w) U.heap ∧ va_K D vwCl [(cI, .int), (cC, .char), (cQ, .object "LoadedForTheLane$Way")] U ∧ NW U)) (vp_Si (fun r => r = sX4_shiftOf w a1 a2 a3)) 0 0 (fun _ => False) := by
  refine Met.ofW (cc := cX4_shiftOf) (maxL := 6) (ret := (some .int)) (by decide) rfl ?_
  intro p e s m args below meth c s₁ B hml hv
  obtain ⟨rfl, hP, hK, hN⟩ := hv
  have hx := B.exec
  have hb := B.bytes
  have hr := B.returns
  have hts := atoms_spec (ws := wsX4_shiftOf) B.pre
  have hown : s.vm.findClass RX4 = some m.cls := findClass_of_methodNamed B.named
  have hlocks := B.notSynchronized
  have hin4 : ∀ q ∈ wsX40, q ∈ wsX4_shiftOf := by decide +kernel
  have hin5 : ∀ q ∈ wsX50, q ∈ wsX4_shiftOf := by decide +kernel
  have hl := lv_entry ([.ref (ad 0), .int a1, .int a2, .int a3]) (n := 6) (Nat.le_of_ble_eq_true rfl)
  rw [lg_entry_eq]
  generalize (lg_sl ([.ref (ad 0), .int a1, .int a2, .int a3]) ++ List.replicate (6 - (lg_sl ([.ref (ad 0), .int a1, .int a2, .int a3])).length) Slot.unset).toArray = ls at hl ⊢
  have hl : lv_has ls 6 [(0, .ref (ad 0)), (1, .int a1), (2, .int a2), (3, .int a3)] := hl
  have E := sX4_shiftOf.eq_1 w a1 a2 a3
  refine lv_aload_n hx hb dX4_shiftOf_0 rfl (lv_at hl 0 rfl) ?_
  refine g4_ways hx hb hts hin4 hown hK hP (hts (.fieldLink RX4 48 "LoadedForTheLane$Wagon" "ways" "[LLoadedForTheLane$Way;") (by decide +kernel)) dX4_shiftOf_1 ?_
  refine lv_iload_n hx hb dX4_shiftOf_4 rfl (lv_at hl 1 rfl) ?_
  have ix_1 : vp_in a1 2 := ix_of (by omega) (by omega)
  refine q4_ways (j := (a1.toNatClampNeg)) hx hb hK hP ix_1 rfl dX4_shiftOf_5 ?_
  have hk_1 : (a1.toNatClampNeg) < 2 := by have := ix_cl (x := a1) (by omega); omega
  refine gw_figuresn hx hb hts hin5 hown hK hP hk_1 (nf_RX4_122 hN) dX4_shiftOf_6 ?_
  refine lv_iload_n hx hb dX4_shiftOf_9 rfl (lv_at hl 2 rfl) ?_
  have ix_2 : vp_in a2 6 := ix_of (by omega) (by omega)
  refine lw_figures (j := (a2.toNatClampNeg)) hx hb hK hP hk_1 ix_2 rfl dX4_shiftOf_10 ?_
  refine lv_istore (lv' := [(4, .int (w (11 + 4 * (a1.toNatClampNeg)) (a2.toNatClampNeg))), (0, .ref (ad 0)), (1, .int a1), (2, .int a2), (3, .int a3)]) hx hb dX4_shiftOf_11 hl (by decide) rfl (fun ls hl => ?_)
  refine lv_aload_n hx hb dX4_shiftOf_13 rfl (lv_at hl 1 rfl) ?_
  refine g4_loads hx hb hts hin4 hown hK hP (hts (.fieldLink RX4 27 "LoadedForTheLane$Wagon" "loads" "[I") (by decide +kernel)) dX4_shiftOf_14 ?_
  refine lv_iload_n hx hb dX4_shiftOf_17 rfl (lv_at hl 4 rfl) ?_
  have ix_3 : vp_in a3 12 := ix_of (by omega) (by omega)
  refine l4_loads (j := (a3.toNatClampNeg)) hx hb hK hP ix_3 rfl dX4_shiftOf_18 ?_
  refine lv_istore (lv' := [(5, .int (w 5 (a3.toNatClampNeg))), (4, .int (w (11 + 4 * (a1.toNatClampNeg)) (a2.toNatClampNeg))), (0, .ref (ad 0)), (1, .int a1), (2, .int a2), (3, .int a3)]) hx hb dX4_shiftOf_19 hl (by decide) rfl (fun ls hl => ?_)
  refine lv_aload_n hx hb dX4_shiftOf_21 rfl (lv_at hl 2 rfl) ?_
  refine g4_ways hx hb hts hin4 hown hK hP (hts (.fieldLink RX4 48 "LoadedForTheLane$Wagon" "ways" "[LLoadedForTheLane$Way;") (by decide +kernel)) dX4_shiftOf_22 ?_
  refine lv_iload_n hx hb dX4_shiftOf_25 rfl (lv_at hl 3 rfl) ?_
  have ix_4 : vp_in a1 2 := ix_of (by omega) (by omega)
  refine q4_ways (j := (a1.toNatClampNeg)) hx hb hK hP ix_4 rfl dX4_shiftOf_26 ?_
  have hk_4 : (a1.toNatClampNeg) < 2 := by have := ix_cl (x := a1) (by omega); omega
  refine gw_kindsn hx hb hts hin5 hown hK hP hk_4 (nf_RX4_125 hN) dX4_shiftOf_27 ?_
  refine lv_iload_n hx hb dX4_shiftOf_30 rfl (lv_at hl 4 rfl) ?_
  have ix_5 : vp_in a2 6 := ix_of (by omega) (by omega)
  refine lw_kinds (j := (a2.toNatClampNeg)) hx hb hK hP hk_4 ix_5 rfl dX4_shiftOf_31 ?_
  by_cases c_6 : (w (10 + 4 * (a1.toNatClampNeg)) (a2.toNatClampNeg)) = 0
  · have E := E.trans (if_pos c_6)
    refine lv_tableIn (off := 32) (tgt := 64) hx hb dX4_shiftOf_32 (by rw [c_6]; decide) (by rw [c_6]; decide) (by rw [c_6]; rfl) (by decide) ?_
    have fc_6 := i_eq c_6
    rw [q_0] at fc_6
    refine lv_iload hx hb dX4_shiftOf_64 (lv_at hl 0 rfl) ?_
    refine lv_iload hx hb dX4_shiftOf_66 (lv_at hl 1 rfl) ?_
    refine lv_bipush (v := 10) hx hb dX4_shiftOf_68 (by decide +kernel) ?_
    refine lv_isub hx hb dX4_shiftOf_70 ?_
    refine lv_aload_n hx hb dX4_shiftOf_71 rfl (lv_at hl 2 rfl) ?_
    refine g4_leans hx hb hts hin4 hown hK hP (hts (.fieldLink RX4 21 "LoadedForTheLane$Wagon" "leans" "[I") (by decide +kernel)) dX4_shiftOf_72 ?_
    refine lv_iload_n hx hb dX4_shiftOf_75 rfl (lv_at hl 5 rfl) ?_
    have ix_7 : vp_in a3 12 := ix_of (by omega) (by omega)
    refine l4_leans (j := (a3.toNatClampNeg)) hx hb hK hP ix_7 rfl dX4_shiftOf_76 ?_
    refine lv_iadd hx hb dX4_shiftOf_77 ?_
    refine va_mabs hx hb (hml.trans hl.1.symm) hown (hts (.methodLink RX4 78 Lib.Math.abs.name) (by decide +kernel)) (hts (.static Lib.Math.abs.name) (by decide +kernel)) (hts (.initialized "java/lang/Math") (by decide +kernel)) (hts (.code Lib.Math.abs.name Lib.Math.abs.code 1 (some .int)) (by decide +kernel)) (Nat.le_of_ble_eq_true rfl) (Nat.le_of_ble_eq_true rfl) (Nat.zero_le _) (Nat.zero_le _) dX4_shiftOf_78 ?_
    refine lv_imul hx hb dX4_shiftOf_81 ?_
    refine lv_bipush (v := 40) hx hb dX4_shiftOf_82 (by decide +kernel) ?_
    refine lv_idiv hx hb dX4_shiftOf_84 (by decide) ?_
    exact W.iret (v := ((w 5 (a3.toNatClampNeg)) * (if 0 ≤ ((w (11 + 4 * (a1.toNatClampNeg)) (a2.toNatClampNeg)) - 10) + (w 3 (a3.toNatClampNeg)) then ((w (11 + 4 * (a1.toNatClampNeg)) (a2.toNatClampNeg)) - 10) + (w 3 (a3.toNatClampNeg)) else 0 - (((w (11 + 4 * (a1.toNatClampNeg)) (a2.toNatClampNeg)) - 10) + (w 3 (a3.toNatClampNeg))))) / 40) hx hb hr (fun t ht hW => ⟨_, rfl, E.symm, ht⟩) (fun q hq => by cases hq) dX4_shiftOf_85
  have E := E.trans (if_neg c_6)
  have fc_6 := i_ne c_6
  rw [q_0] at fc_6
  by_cases c_8 : (w (10 + 4 * (a1.toNatClampNeg)) (a2.toNatClampNeg)) = 1
  · have E := E.trans (if_pos c_8)
    refine lv_tableIn (off := 54) (tgt := 86) hx hb dX4_shiftOf_32 (by rw [c_8]; decide) (by rw [c_8]; decide) (by rw [c_8]; rfl) (by decide) ?_
    have fc_8 := i_eq c_8
    rw [q_1] at fc_8
    refine lv_iload hx hb dX4_shiftOf_86 (lv_at hl 0 rfl) ?_
    refine lv_iload hx hb dX4_shiftOf_88 (lv_at hl 1 rfl) ?_
    refine lv_imul hx hb dX4_shiftOf_90 ?_
    refine lv_bipush (v := 60) hx hb dX4_shiftOf_91 (by decide +kernel) ?_
    refine lv_idiv hx hb dX4_shiftOf_93 (by decide) ?_
    exact W.iret (v := ((w 5 (a3.toNatClampNeg)) * (w (11 + 4 * (a1.toNatClampNeg)) (a2.toNatClampNeg))) / 60) hx hb hr (fun t ht hW => ⟨_, rfl, E.symm, ht⟩) (fun q hq => by cases hq) dX4_shiftOf_94
  have E := E.trans (if_neg c_8)
  have fc_8 := i_ne c_8
  rw [q_1] at fc_8
  by_cases c_9 : (w (10 + 4 * (a1.toNatClampNeg)) (a2.toNatClampNeg)) = 2
  · have E := E.trans (if_pos c_9)
    refine lv_tableIn (off := 63) (tgt := 95) hx hb dX4_shiftOf_32 (by rw [c_9]; decide) (by rw [c_9]; decide) (by rw [c_9]; rfl) (by decide) ?_
    have fc_9 := i_eq c_9
    rw [q_2] at fc_9
    refine lv_iload hx hb dX4_shiftOf_95 (lv_at hl 0 rfl) ?_
    refine lv_iload hx hb dX4_shiftOf_97 (lv_at hl 1 rfl) ?_
    refine lv_imul hx hb dX4_shiftOf_99 ?_
    refine lv_bipush (v := 60) hx hb dX4_shiftOf_100 (by decide +kernel) ?_
    refine lv_idiv hx hb dX4_shiftOf_102 (by decide) ?_
    refine lv_iload_n hx hb dX4_shiftOf_103 rfl (lv_at hl 5 rfl) ?_
    refine lv_iconst (v := 1) hx hb dX4_shiftOf_104 (by decide) ?_
    refine lv_iadd hx hb dX4_shiftOf_105 ?_
    refine lv_imul hx hb dX4_shiftOf_106 ?_
    refine lv_iconst (v := 3) hx hb dX4_shiftOf_107 (by decide) ?_
    refine lv_idiv hx hb dX4_shiftOf_108 (by decide) ?_
    exact W.iret (v := ((((w 5 (a3.toNatClampNeg)) * (w (11 + 4 * (a1.toNatClampNeg)) (a2.toNatClampNeg))) / 60) * (a3 + 1)) / 3) hx hb hr (fun t ht hW => ⟨_, rfl, E.symm, ht⟩) (fun q hq => by cases hq) dX4_shiftOf_109
  have E := E.trans (if_neg c_9)
  have fc_9 := i_ne c_9
  rw [q_2] at fc_9
  by_cases c_10 : (w (10 + 4 * (a1.toNatClampNeg)) (a2.toNatClampNeg)) = 3
  · have E := E.trans (if_pos c_10)
    refine lv_tableIn (off := 78) (tgt := 110) hx hb dX4_shiftOf_32 (by rw [c_10]; decide) (by rw [c_10]; decide) (by rw [c_10]; rfl) (by decide) ?_
    have fc_10 := i_eq c_10
    rw [q_3] at fc_10
    refine lv_iload hx hb dX4_shiftOf_110 (lv_at hl 0 rfl) ?_
    refine lv_iload hx hb dX4_shiftOf_112 (lv_at hl 1 rfl) ?_
    refine lv_aload_n hx hb dX4_shiftOf_114 rfl (lv_at hl 2 rfl) ?_
    refine g4_outs hx hb hts hin4 hown hK hP (hts (.fieldLink RX4 18 "LoadedForTheLane$Wagon" "outs" "[I") (by decide +kernel)) dX4_shiftOf_115 ?_
    refine lv_iload_n hx hb dX4_shiftOf_118 rfl (lv_at hl 5 rfl) ?_
    have ix_11 : vp_in a3 12 := ix_of (by omega) (by omega)
    refine l4_outs (j := (a3.toNatClampNeg)) hx hb hK hP ix_11 rfl dX4_shiftOf_119 ?_
    refine lv_iadd hx hb dX4_shiftOf_120 ?_
    refine lv_imul hx hb dX4_shiftOf_121 ?_
    refine lv_bipush (v := 50) hx hb dX4_shiftOf_122 (by decide +kernel) ?_
    refine lv_idiv hx hb dX4_shiftOf_124 (by decide) ?_
    exact W.iret (v := ((w 5 (a3.toNatClampNeg)) * ((w (11 + 4 * (a1.toNatClampNeg)) (a2.toNatClampNeg)) + (w 2 (a3.toNatClampNeg)))) / 50) hx hb hr (fun t ht hW => ⟨_, rfl, E.symm, ht⟩) (fun q hq => by cases hq) dX4_shiftOf_125
  have E := E.trans (if_neg c_10)
  have fc_10 := i_ne c_10
  rw [q_3] at fc_10
  refine lv_tableOut (tgt := 126) hx hb dX4_shiftOf_32 (by omega) (by decide) ?_
  refine lv_iconst (v := 0) hx hb dX4_shiftOf_126 (by decide) ?_
  exact W.iret (v := 0) hx hb hr (fun t ht hW => ⟨_, rfl, E.symm, ht⟩) (fun q hq => by cases hq) dX4_shiftOf_127
abbrev rmX4_slipsAt : Room := { frames := 2, cells := 0, slots := 0, locals := 43 }
set_option maxHeartbeats 4000000 in
set_option maxRecDepth 100000 in
theorem kX4_slipsAt (l : Launch) (D : va_G) (cI cC cQ : ClassId) (ad : Nat → Nat) (w : Nat → Nat → Int32) (a1 : Int32) (a2 : Int32) (a3 : Int32)  (hI : R4I w) (h1 : 0 ≤ a1.toInt) (h2 : a1.toInt < 2) (h3 : 0 ≤ a2.toInt) (h4 : a2.toInt < 6) (h5 : 0 ≤ a3.toInt) (h6 : a3.toInt < 12) : Met l yX4_slipsAt wsX4_slipsAt rmX4_slipsAt (va_Pc [Value.ref (ad 0), Value.int a1, Value.int a2, Value.int a3] (fun U => va_P D vwCl (WG cI cQ ad w) U.heap ∧ va_K D vwCl [(cI, .int), (cC, .char), (cQ, .object "LoadedForTheLane$Way")] U ∧ NW U)) (vp_Si (fun r => r = sX4_slipsAt w a1 a2 a3 ∧ (r = 0 ∨ r = 1))) 0 0 (fun _ => False) := by
  refine Met.ofW (cc := cX4_slipsAt) (maxL := 5) (ret := (some .boolean)) (by decide) rfl ?_
  intro p e s m args below meth c s₁ B hml hv
  obtain ⟨rfl, hP, hK, hN⟩ := hv
  have hx := B.exec
  have hb := B.bytes
  have hr := B.returns
  have hts := atoms_spec (ws := wsX4_slipsAt) B.pre
  have hown : s.vm.findClass RX4 = some m.cls := findClass_of_methodNamed B.named
  have hlocks := B.notSynchronized
  have hin4 : ∀ q ∈ wsX40, q ∈ wsX4_slipsAt := by decide +kernel
  have hin5 : ∀ q ∈ wsX50, q ∈ wsX4_slipsAt := by decide +kernel
  have hl := lv_entry ([.ref (ad 0), .int a1, .int a2, .int a3]) (n := 5) (Nat.le_of_ble_eq_true rfl)
  rw [lg_entry_eq]
  generalize (lg_sl ([.ref (ad 0), .int a1, .int a2, .int a3]) ++ List.replicate (5 - (lg_sl ([.ref (ad 0), .int a1, .int a2, .int a3])).length) Slot.unset).toArray = ls at hl ⊢
  have hl : lv_has ls 5 [(0, .ref (ad 0)), (1, .int a1), (2, .int a2), (3, .int a3)] := hl
  have E := sX4_slipsAt.eq_1 w a1 a2 a3
  refine lv_aload_n hx hb dX4_slipsAt_0 rfl (lv_at hl 0 rfl) ?_
  refine g4_ways hx hb hts hin4 hown hK hP (hts (.fieldLink RX4 48 "LoadedForTheLane$Wagon" "ways" "[LLoadedForTheLane$Way;") (by decide +kernel)) dX4_slipsAt_1 ?_
  refine lv_iload_n hx hb dX4_slipsAt_4 rfl (lv_at hl 1 rfl) ?_
  have ix_1 : vp_in a1 2 := ix_of (by omega) (by omega)
  refine q4_ways (j := (a1.toNatClampNeg)) hx hb hK hP ix_1 rfl dX4_slipsAt_5 ?_
  have hk_1 : (a1.toNatClampNeg) < 2 := by have := ix_cl (x := a1) (by omega); omega
  refine gw_figuresn hx hb hts hin5 hown hK hP hk_1 (nf_RX4_122 hN) dX4_slipsAt_6 ?_
  refine lv_iload_n hx hb dX4_slipsAt_9 rfl (lv_at hl 2 rfl) ?_
  have ix_2 : vp_in a2 6 := ix_of (by omega) (by omega)
  refine lw_figures (j := (a2.toNatClampNeg)) hx hb hK hP hk_1 ix_2 rfl dX4_slipsAt_10 ?_
  refine lv_istore (lv' := [(4, .int (w (11 + 4 * (a1.toNatClampNeg)) (a2.toNatClampNeg))), (0, .ref (ad 0)), (1, .int a1), (2, .int a2), (3, .int a3)]) hx hb dX4_slipsAt_11 hl (by decide) rfl (fun ls hl => ?_)
  refine lv_aload_n hx hb dX4_slipsAt_13 rfl (lv_at hl 1 rfl) ?_
  refine g4_ways hx hb hts hin4 hown hK hP (hts (.fieldLink RX4 48 "LoadedForTheLane$Wagon" "ways" "[LLoadedForTheLane$Way;") (by decide +kernel)) dX4_slipsAt_14 ?_
  refine lv_iload_n hx hb dX4_slipsAt_17 rfl (lv_at hl 2 rfl) ?_
  have ix_3 : vp_in a1 2 := ix_of (by omega) (by omega)
  refine q4_ways (j := (a1.toNatClampNeg)) hx hb hK hP ix_3 rfl dX4_slipsAt_18 ?_
  have hk_3 : (a1.toNatClampNeg) < 2 := by have := ix_cl (x := a1) (by omega); omega
  refine gw_kindsn hx hb hts hin5 hown hK hP hk_3 (nf_RX4_125 hN) dX4_slipsAt_19 ?_
  refine lv_iload_n hx hb dX4_slipsAt_22 rfl (lv_at hl 3 rfl) ?_
  have ix_4 : vp_in a2 6 := ix_of (by omega) (by omega)
  refine lw_kinds (j := (a2.toNatClampNeg)) hx hb hK hP hk_3 ix_4 rfl dX4_slipsAt_23 ?_
  by_cases c_5 : (w (10 + 4 * (a1.toNatClampNeg)) (a2.toNatClampNeg)) = 4
  · have E := E.trans (if_pos c_5)
    refine lv_lookup (off := 28) (tgt := 52) hx hb dX4_slipsAt_24 (by decide) (by rw [c_5]; decide) (by decide) ?_
    have fc_5 := i_eq c_5
    rw [q_4] at fc_5
    refine lv_iload_n hx hb dX4_slipsAt_52 rfl (lv_at hl 4 rfl) ?_
    refine lv_aload_n hx hb dX4_slipsAt_53 rfl (lv_at hl 1 rfl) ?_
    refine g4_layers hx hb hts hin4 hown hK hP (hts (.fieldLink RX4 30 "LoadedForTheLane$Wagon" "layers" "I") (by decide +kernel)) dX4_slipsAt_54 ?_
    have f_6 := R4I_layers hI
    refine lv_iconst (v := 1) hx hb dX4_slipsAt_57 (by decide) ?_
    refine lv_isub hx hb dX4_slipsAt_58 ?_
    try have := i_subr (a := w 6 0) (b := 1) (n := 1) q_1 (by omega) (by omega)
    refine lv_icmp_ne (tgt := 80) hx hb dX4_slipsAt_59 (by decide) (fun c_7 => ?_) (fun c_7 => ?_)
    · have E := E.trans (if_neg c_7)
      have fc_7 := i_ne c_7
      refine lv_iconst (v := 0) hx hb dX4_slipsAt_80 (by decide) ?_
      exact W.zret (ty := .boolean) (v := 0) hx hb hr (z_nar (Or.inl rfl)) (fun t ht hW => ⟨_, rfl, ⟨E.symm, (Or.inl rfl)⟩, ht⟩) (fun q hq => by cases hq) dX4_slipsAt_81
    · have E := E.trans (if_pos c_7)
      have fc_7 := i_eq c_7
      refine lv_aload_n hx hb dX4_slipsAt_62 rfl (lv_at hl 1 rfl) ?_
      refine vp_callSi (va_Run.run (va_runV (As := []) (rest := []) ⟨hx, hb, hml, hown, hts⟩ (kX4_height l D cI cC cQ ad w hI) (cwV 0 hts gX4_slipsAt_X4_height rfl rfl rfl mdX4_height ⟨Nat.le_of_ble_eq_true rfl, Nat.le_of_ble_eq_true rfl⟩) (x4_pre hK hP hN) rfl rfl hl.1 rfl (lv_room (Nat.le_of_ble_eq_true rfl)) dX4_slipsAt_63 ⟨Nat.zero_le _, Nat.zero_le _⟩)) (fun rn_8 hr_8 => ?_)
      subst hr_8
      refine lv_bipush (v := 40) hx hb dX4_slipsAt_66 (by decide +kernel) ?_
      refine lv_iconst (v := 4) hx hb dX4_slipsAt_68 (by decide) ?_
      refine lv_iload hx hb dX4_slipsAt_69 (lv_at hl 0 rfl) ?_
      refine lv_imul hx hb dX4_slipsAt_71 ?_
      refine lv_iadd hx hb dX4_slipsAt_72 ?_
      try have := i_mull (a := 4) (b := w (11 + 4 * (a1.toNatClampNeg)) (a2.toNatClampNeg)) (n := 4) q_4 (by omega) (by omega)
      try have := i_addl (a := 40) (b := 4 * (w (11 + 4 * (a1.toNatClampNeg)) (a2.toNatClampNeg))) (n := 40) q_40 (by omega) (by omega)
      refine lv_icmp_le (tgt := 80) hx hb dX4_slipsAt_73 (by decide) (fun c_9 => ?_) (fun c_9 => ?_)
      · have E := E.trans (if_pos c_9)
        have fc_9 := i_le c_9
        refine lv_iconst (v := 0) hx hb dX4_slipsAt_80 (by decide) ?_
        exact W.zret (ty := .boolean) (v := 0) hx hb hr (z_nar (Or.inl rfl)) (fun t ht hW => ⟨_, rfl, ⟨E.symm, (Or.inl rfl)⟩, ht⟩) (fun q hq => by cases hq) dX4_slipsAt_81
      · have E := E.trans (if_neg c_9)
        have fc_9 := i_nle c_9
        refine lv_iconst (v := 1) hx hb dX4_slipsAt_76 (by decide) ?_
        refine lv_goto (tgt := 81) hx hb dX4_slipsAt_77 (by decide) ?_
        exact W.zret (ty := .boolean) (v := 1) hx hb hr (z_nar (Or.inr rfl)) (fun t ht hW => ⟨_, rfl, ⟨E.symm, (Or.inr rfl)⟩, ht⟩) (fun q hq => by cases hq) dX4_slipsAt_81
  have E := E.trans (if_neg c_5)
  have fc_5 := i_ne c_5
  rw [q_4] at fc_5
  by_cases c_10 : (w (10 + 4 * (a1.toNatClampNeg)) (a2.toNatClampNeg)) = 5
  · have E := E.trans (if_pos c_10)
    refine lv_lookup (off := 58) (tgt := 82) hx hb dX4_slipsAt_24 (by decide) (by rw [c_10]; decide) (by decide) ?_
    have fc_10 := i_eq c_10
    rw [q_5] at fc_10
    refine lv_iload_n hx hb dX4_slipsAt_82 rfl (lv_at hl 4 rfl) ?_
    refine lv_aload_n hx hb dX4_slipsAt_83 rfl (lv_at hl 1 rfl) ?_
    refine vp_callSi (va_Run.run (va_runV (As := []) (rest := [.int a3]) ⟨hx, hb, hml, hown, hts⟩ (kX4_layerFarthestOut l D cI cC cQ ad w hI) (cwV 0 hts gX4_slipsAt_X4_layerFarthestOut rfl rfl rfl mdX4_layerFarthestOut ⟨Nat.le_of_ble_eq_true rfl, Nat.le_of_ble_eq_true rfl⟩) (x4_pre hK hP hN) rfl rfl hl.1 rfl (lv_room (Nat.le_of_ble_eq_true rfl)) dX4_slipsAt_84 ⟨Nat.zero_le _, Nat.zero_le _⟩)) (fun rn_11 hr_11 => ?_)
    subst hr_11
    have rf_11 := rX4_layerFarthestOut hI
    refine lv_icmp_ne (tgt := 106) hx hb dX4_slipsAt_87 (by decide) (fun c_12 => ?_) (fun c_12 => ?_)
    · have E := E.trans (if_neg c_12)
      have fc_12 := i_ne c_12
      refine lv_iconst (v := 0) hx hb dX4_slipsAt_106 (by decide) ?_
      exact W.zret (ty := .boolean) (v := 0) hx hb hr (z_nar (Or.inl rfl)) (fun t ht hW => ⟨_, rfl, ⟨E.symm, (Or.inl rfl)⟩, ht⟩) (fun q hq => by cases hq) dX4_slipsAt_107
    · have E := E.trans (if_pos c_12)
      have fc_12 := i_eq c_12
      refine lv_aload_n hx hb dX4_slipsAt_90 rfl (lv_at hl 1 rfl) ?_
      refine vp_callSi (va_Run.run (va_runV (As := []) (rest := []) ⟨hx, hb, hml, hown, hts⟩ (kX4_width l D cI cC cQ ad w hI) (cwV 0 hts gX4_slipsAt_X4_width rfl rfl rfl mdX4_width ⟨Nat.le_of_ble_eq_true rfl, Nat.le_of_ble_eq_true rfl⟩) (x4_pre hK hP hN) rfl rfl hl.1 rfl (lv_room (Nat.le_of_ble_eq_true rfl)) dX4_slipsAt_91 ⟨Nat.zero_le _, Nat.zero_le _⟩)) (fun rn_13 hr_13 => ?_)
      subst hr_13
      refine lv_bipush (v := 90) hx hb dX4_slipsAt_94 (by decide +kernel) ?_
      refine lv_iload hx hb dX4_slipsAt_96 (lv_at hl 0 rfl) ?_
      refine lv_iadd hx hb dX4_slipsAt_98 ?_
      try have := i_addl (a := 90) (b := w (11 + 4 * (a1.toNatClampNeg)) (a2.toNatClampNeg)) (n := 90) q_90 (by omega) (by omega)
      refine lv_icmp_le (tgt := 106) hx hb dX4_slipsAt_99 (by decide) (fun c_14 => ?_) (fun c_14 => ?_)
      · have E := E.trans (if_pos c_14)
        have fc_14 := i_le c_14
        refine lv_iconst (v := 0) hx hb dX4_slipsAt_106 (by decide) ?_
        exact W.zret (ty := .boolean) (v := 0) hx hb hr (z_nar (Or.inl rfl)) (fun t ht hW => ⟨_, rfl, ⟨E.symm, (Or.inl rfl)⟩, ht⟩) (fun q hq => by cases hq) dX4_slipsAt_107
      · have E := E.trans (if_neg c_14)
        have fc_14 := i_nle c_14
        refine lv_iconst (v := 1) hx hb dX4_slipsAt_102 (by decide) ?_
        refine lv_goto (tgt := 107) hx hb dX4_slipsAt_103 (by decide) ?_
        exact W.zret (ty := .boolean) (v := 1) hx hb hr (z_nar (Or.inr rfl)) (fun t ht hW => ⟨_, rfl, ⟨E.symm, (Or.inr rfl)⟩, ht⟩) (fun q hq => by cases hq) dX4_slipsAt_107
  have E := E.trans (if_neg c_10)
  have fc_10 := i_ne c_10
  rw [q_5] at fc_10
  refine lv_lookup (off := 84) (tgt := 108) hx hb dX4_slipsAt_24 (by decide) ((lv_osw c_5 rfl).trans ((lv_osw c_10 rfl).trans rfl)) (by decide) ?_
  refine lv_aload_n hx hb dX4_slipsAt_108 rfl (lv_at hl 1 rfl) ?_
  refine lv_iload_n hx hb dX4_slipsAt_109 rfl (lv_at hl 2 rfl) ?_
  refine lv_iload_n hx hb dX4_slipsAt_110 rfl (lv_at hl 3 rfl) ?_
  refine lv_iload_n hx hb dX4_slipsAt_111 rfl (lv_at hl 4 rfl) ?_
  refine vp_callSi (va_Run.run (va_runV (As := [.int a1, .int a2, .int a3]) (rest := []) ⟨hx, hb, hml, hown, hts⟩ (kX4_shiftOf l D cI cC cQ ad w a1 a2 a3 (by omega) (by omega) (by omega) (by omega) (by omega) (by omega)) (cwV 3 hts gX4_slipsAt_X4_shiftOf rfl rfl rfl mdX4_shiftOf ⟨Nat.le_of_ble_eq_true rfl, Nat.le_of_ble_eq_true rfl⟩) (x4_pre hK hP hN) rfl rfl hl.1 rfl (lv_room (Nat.le_of_ble_eq_true rfl)) dX4_slipsAt_112 ⟨Nat.zero_le _, Nat.zero_le _⟩)) (fun rn_15 hr_15 => ?_)
  subst hr_15
  refine lv_aload_n hx hb dX4_slipsAt_115 rfl (lv_at hl 1 rfl) ?_
  refine lv_iload_n hx hb dX4_slipsAt_116 rfl (lv_at hl 4 rfl) ?_
  refine vp_callSi (va_Run.run (va_runV (As := [.int a3]) (rest := [.int (sX4_shiftOf w a1 a2 a3)]) ⟨hx, hb, hml, hown, hts⟩ (kX4_strengthOf l D cI cC cQ ad w a3 (by omega) (by omega)) (cwV 1 hts gX4_slipsAt_X4_strengthOf rfl rfl rfl mdX4_strengthOf ⟨Nat.le_of_ble_eq_true rfl, Nat.le_of_ble_eq_true rfl⟩) (x4_pre hK hP hN) rfl rfl hl.1 rfl (lv_room (Nat.le_of_ble_eq_true rfl)) dX4_slipsAt_117 ⟨Nat.zero_le _, Nat.zero_le _⟩)) (fun rn_16 hr_16 => ?_)
  subst hr_16
  refine lv_icmp_le (tgt := 127) hx hb dX4_slipsAt_120 (by decide) (fun c_17 => ?_) (fun c_17 => ?_)
  · have E := E.trans (if_pos c_17)
    have fc_17 := i_le c_17
    refine lv_iconst (v := 0) hx hb dX4_slipsAt_127 (by decide) ?_
    exact W.zret (ty := .boolean) (v := 0) hx hb hr (z_nar (Or.inl rfl)) (fun t ht hW => ⟨_, rfl, ⟨E.symm, (Or.inl rfl)⟩, ht⟩) (fun q hq => by cases hq) dX4_slipsAt_128
  · have E := E.trans (if_neg c_17)
    have fc_17 := i_nle c_17
    refine lv_iconst (v := 1) hx hb dX4_slipsAt_123 (by decide) ?_
    refine lv_goto (tgt := 128) hx hb dX4_slipsAt_124 (by decide) ?_
    exact W.zret (ty := .boolean) (v := 1) hx hb hr (z_nar (Or.inr rfl)) (fun t ht hW => ⟨_, rfl, ⟨E.symm, (Or.inr rfl)⟩, ht⟩) (fun q hq => by cases hq) dX4_slipsAt_128
abbrev rmX4_layerOfSlip : Room := { frames := 3, cells := 0, slots := 0, locals := 67 }
set_option maxHeartbeats 4000000 in
set_option maxRecDepth 100000 in
theorem kX4_layerOfSlip (l : Launch) (D : va_G) (cI cC cQ : ClassId) (ad : Nat → Nat) (w : Nat → Nat → Int32) (a1 : Int32) (a2 : Int32)  (hI : R4I w) (h1 : 0 ≤ a1.toInt) (h2 : a1.toInt < 2) (h3 : 0 ≤ a2.toInt) (h4 : a2.toInt < 6) : Met l yX4_layerOfSlip wsX4_layerOfSlip rmX4_layerOfSlip (va_Pc [Value.ref (ad 0), Value.int a1, Value.int a2] (fun U => va_P D vwCl (WG cI cQ ad w) U.heap ∧ va_K D vwCl [(cI, .int), (cC, .char), (cQ, .object "LoadedForTheLane$Way")] U ∧ NW U)) (vp_Si (fun r => r = sX4_layerOfSlip w a1 a2)) 0 0 (fun _ => False) := by
  refine Met.ofW (cc := cX4_layerOfSlip) (maxL := 4) (ret := (some .int)) (by decide) rfl ?_
  intro p e s m args below meth c s₁ B hml hv
  obtain ⟨rfl, hP, hK, hN⟩ := hv
  have hx := B.exec
  have hb := B.bytes
  have hr := B.returns
  have hts := atoms_spec (ws := wsX4_layerOfSlip) B.pre
  have hown : s.vm.findClass RX4 = some m.cls := findClass_of_methodNamed B.named
  have hlocks := B.notSynchronized
  have hin4 : ∀ q ∈ wsX40, q ∈ wsX4_layerOfSlip := by decide +kernel
  have hl := lv_entry ([.ref (ad 0), .int a1, .int a2]) (n := 4) (Nat.le_of_ble_eq_true rfl)
  rw [lg_entry_eq]
  generalize (lg_sl ([.ref (ad 0), .int a1, .int a2]) ++ List.replicate (4 - (lg_sl ([.ref (ad 0), .int a1, .int a2])).length) Slot.unset).toArray = ls at hl ⊢
  have hl : lv_has ls 4 [(0, .ref (ad 0)), (1, .int a1), (2, .int a2)] := hl
  have E := sX4_layerOfSlip.eq_1 w a1 a2
  refine lv_iconst (v := 0) hx hb dX4_layerOfSlip_0 (by decide) ?_
  refine lv_istore_n (lv' := [(3, .int 0), (0, .ref (ad 0)), (1, .int a1), (2, .int a2)]) hx hb dX4_layerOfSlip_1 rfl hl (by decide) rfl (fun ls hl => ?_)
  have L_2 : ∀ (n_2 : Nat) (x3_2 : Int32) (ls : Array Slot), ((0 ≤ x3_2.toInt) ∧ (x3_2.toInt ≤ 12)) → (12 - x3_2.toInt < (n_2 : Int)) → lv_has ls 4 [(3, .int x3_2), (0, .ref (ad 0)), (1, .int a1), (2, .int a2)] → sX4_layerOfSlip w a1 a2 = sX4_layerOfSlip_2 w a1 a2 n_2 x3_2 → W p l e (headSpec wsX4_layerOfSlip rmX4_layerOfSlip).room s m [Value.ref (ad 0), Value.int a1, Value.int a2].toArray below meth c s.heap [] 0 0 (MQ below (vp_Si (fun r => r = sX4_layerOfSlip w a1 a2)) [Value.ref (ad 0), Value.int a1, Value.int a2].toArray s 0 0 (fun _ => False)) (F0 m 2 ls []) := by
    intro n_2
    induction n_2 with
    | zero =>
      intro x3_2 ls hinv hm
      obtain ⟨v0_2, v1_2⟩ := hinv
      exact absurd hm (by omega)
    | succ n_2 ih_2 =>
      intro x3_2 ls hinv hm_2 hl E
      obtain ⟨v0_2, v1_2⟩ := hinv
      have E := E.trans (sX4_layerOfSlip_2.eq_2 ..)
      refine lv_iload_n hx hb dX4_layerOfSlip_2 rfl (lv_at hl 0 rfl) ?_
      refine lv_aload_n hx hb dX4_layerOfSlip_3 rfl (lv_at hl 1 rfl) ?_
      refine g4_layers hx hb hts hin4 hown hK hP (hts (.fieldLink RX4 30 "LoadedForTheLane$Wagon" "layers" "I") (by decide +kernel)) dX4_layerOfSlip_4 ?_
      have f_1 := R4I_layers hI
      refine lv_icmp_ge (tgt := 28) hx hb dX4_layerOfSlip_7 (by decide) (fun c_2 => ?_) (fun c_2 => ?_)
      · have E := E.trans (if_pos c_2)
        have fc_2 := i_le c_2
        refine lv_iconst (v := (-1)) hx hb dX4_layerOfSlip_28 (by decide) ?_
        exact W.iret (v := (-1)) hx hb hr (fun t ht hW => ⟨_, rfl, E.symm, ht⟩) (fun q hq => by cases hq) dX4_layerOfSlip_29
      · have E := E.trans (if_neg c_2)
        have fc_2 := i_nle c_2
        refine lv_aload_n hx hb dX4_layerOfSlip_10 rfl (lv_at hl 1 rfl) ?_
        refine lv_iload_n hx hb dX4_layerOfSlip_11 rfl (lv_at hl 2 rfl) ?_
        refine lv_iload_n hx hb dX4_layerOfSlip_12 rfl (lv_at hl 3 rfl) ?_
        refine lv_iload_n hx hb dX4_layerOfSlip_13 rfl (lv_at hl 0 rfl) ?_
        refine vp_callSi (va_Run.run (va_runV (As := [.int a1, .int a2, .int x3_2]) (rest := []) ⟨hx, hb, hml, hown, hts⟩ (kX4_slipsAt l D cI cC cQ ad w a1 a2 x3_2 hI (by omega) (by omega) (by omega) (by omega) (by omega) (by omega)) (cwV 3 hts gX4_layerOfSlip_X4_slipsAt rfl rfl rfl mdX4_slipsAt ⟨Nat.le_of_ble_eq_true rfl, Nat.le_of_ble_eq_true rfl⟩) (x4_pre hK hP hN) rfl rfl hl.1 rfl (lv_room (Nat.le_of_ble_eq_true rfl)) dX4_layerOfSlip_14 ⟨Nat.zero_le _, Nat.zero_le _⟩)) (fun rn_3 hr_3 => ?_)
        obtain ⟨rfl, hz_3⟩ := hr_3
        refine lv_if_eq (tgt := 22) hx hb dX4_layerOfSlip_17 (by decide) (fun c_4 => ?_) (fun c_4 => ?_)
        · have E := E.trans (if_pos c_4)
          have fc_4 := i_eq c_4
          rw [q_0] at fc_4
          refine lv_iinc (v := x3_2 + 1) (lv' := [(3, .int (x3_2 + 1)), (0, .ref (ad 0)), (1, .int a1), (2, .int a2)]) hx hb dX4_layerOfSlip_22 hl (k := 0) rfl rfl (by decide) rfl (fun ls hl => ?_)
          refine lv_goto (tgt := 2) hx hb dX4_layerOfSlip_25 (by decide) ?_
          try have := i_addr (a := x3_2) (b := 1) (n := 1) q_1 (by omega) (by omega)
          exact ih_2 (x3_2 + 1) ls ⟨by omega, by omega⟩ (by omega) (lv_sub hl [0, 1, 2, 3] rfl) E
        · have E := E.trans (if_neg c_4)
          have fc_4 := i_ne c_4
          rw [q_0] at fc_4
          refine lv_iload_n hx hb dX4_layerOfSlip_20 rfl (lv_at hl 0 rfl) ?_
          exact W.iret (v := x3_2) hx hb hr (fun t ht hW => ⟨_, rfl, E.symm, ht⟩) (fun q hq => by cases hq) dX4_layerOfSlip_21
  have := q_0
  exact L_2 13 0 ls ⟨by omega, by omega⟩ (by omega) (lv_sub hl [0, 1, 2, 3] rfl) E
abbrev rmX4_pieceOfSlip : Room := { frames := 4, cells := 0, slots := 0, locals := 90 }
set_option maxHeartbeats 4000000 in
set_option maxRecDepth 100000 in
theorem kX4_pieceOfSlip (l : Launch) (D : va_G) (cI cC cQ : ClassId) (ad : Nat → Nat) (w : Nat → Nat → Int32) (a1 : Int32)  (hI : R4I w) (h1 : 0 ≤ a1.toInt) (h2 : a1.toInt < 2) : Met l yX4_pieceOfSlip wsX4_pieceOfSlip rmX4_pieceOfSlip (va_Pc [Value.ref (ad 0), Value.int a1] (fun U => va_P D vwCl (WG cI cQ ad w) U.heap ∧ va_K D vwCl [(cI, .int), (cC, .char), (cQ, .object "LoadedForTheLane$Way")] U ∧ NW U)) (vp_Si (fun r => r = sX4_pieceOfSlip w a1)) 0 0 (fun _ => False) := by
  refine Met.ofW (cc := cX4_pieceOfSlip) (maxL := 3) (ret := (some .int)) (by decide) rfl ?_
  intro p e s m args below meth c s₁ B hml hv
  obtain ⟨rfl, hP, hK, hN⟩ := hv
  have hx := B.exec
  have hb := B.bytes
  have hr := B.returns
  have hts := atoms_spec (ws := wsX4_pieceOfSlip) B.pre
  have hown : s.vm.findClass RX4 = some m.cls := findClass_of_methodNamed B.named
  have hlocks := B.notSynchronized
  have hin4 : ∀ q ∈ wsX40, q ∈ wsX4_pieceOfSlip := by decide +kernel
  have hin5 : ∀ q ∈ wsX50, q ∈ wsX4_pieceOfSlip := by decide +kernel
  have hl := lv_entry ([.ref (ad 0), .int a1]) (n := 3) (Nat.le_of_ble_eq_true rfl)
  rw [lg_entry_eq]
  generalize (lg_sl ([.ref (ad 0), .int a1]) ++ List.replicate (3 - (lg_sl ([.ref (ad 0), .int a1])).length) Slot.unset).toArray = ls at hl ⊢
  have hl : lv_has ls 3 [(0, .ref (ad 0)), (1, .int a1)] := hl
  have E := sX4_pieceOfSlip.eq_1 w a1
  refine lv_iconst (v := 0) hx hb dX4_pieceOfSlip_0 (by decide) ?_
  refine lv_istore_n (lv' := [(2, .int 0), (0, .ref (ad 0)), (1, .int a1)]) hx hb dX4_pieceOfSlip_1 rfl hl (by decide) rfl (fun ls hl => ?_)
  have L_2 : ∀ (n_2 : Nat) (x2_2 : Int32) (ls : Array Slot), ((0 ≤ x2_2.toInt) ∧ (x2_2.toInt ≤ 6)) → (6 - x2_2.toInt < (n_2 : Int)) → lv_has ls 3 [(2, .int x2_2), (0, .ref (ad 0)), (1, .int a1)] → sX4_pieceOfSlip w a1 = sX4_pieceOfSlip_2 w a1 n_2 x2_2 → W p l e (headSpec wsX4_pieceOfSlip rmX4_pieceOfSlip).room s m [Value.ref (ad 0), Value.int a1].toArray below meth c s.heap [] 0 0 (MQ below (vp_Si (fun r => r = sX4_pieceOfSlip w a1)) [Value.ref (ad 0), Value.int a1].toArray s 0 0 (fun _ => False)) (F0 m 2 ls []) := by
    intro n_2
    induction n_2 with
    | zero =>
      intro x2_2 ls hinv hm
      obtain ⟨v0_2, v1_2⟩ := hinv
      exact absurd hm (by omega)
    | succ n_2 ih_2 =>
      intro x2_2 ls hinv hm_2 hl E
      obtain ⟨v0_2, v1_2⟩ := hinv
      have E := E.trans (sX4_pieceOfSlip_2.eq_2 ..)
      refine lv_iload_n hx hb dX4_pieceOfSlip_2 rfl (lv_at hl 0 rfl) ?_
      refine lv_aload_n hx hb dX4_pieceOfSlip_3 rfl (lv_at hl 1 rfl) ?_
      refine g4_ways hx hb hts hin4 hown hK hP (hts (.fieldLink RX4 48 "LoadedForTheLane$Wagon" "ways" "[LLoadedForTheLane$Way;") (by decide +kernel)) dX4_pieceOfSlip_4 ?_
      refine lv_iload_n hx hb dX4_pieceOfSlip_7 rfl (lv_at hl 2 rfl) ?_
      have ix_1 : vp_in a1 2 := ix_of (by omega) (by omega)
      refine q4_ways (j := (a1.toNatClampNeg)) hx hb hK hP ix_1 rfl dX4_pieceOfSlip_8 ?_
      have hk_1 : (a1.toNatClampNeg) < 2 := by have := ix_cl (x := a1) (by omega); omega
      refine gw_piecesn hx hb hts hin5 hown hK hP hk_1 (nf_RX4_69 hN) dX4_pieceOfSlip_9 ?_
      have f_2 := R4I_pieces hI hk_1
      refine lv_icmp_ge (tgt := 32) hx hb dX4_pieceOfSlip_12 (by decide) (fun c_3 => ?_) (fun c_3 => ?_)
      · have E := E.trans (if_pos c_3)
        have fc_3 := i_le c_3
        refine lv_iconst (v := (-1)) hx hb dX4_pieceOfSlip_32 (by decide) ?_
        exact W.iret (v := (-1)) hx hb hr (fun t ht hW => ⟨_, rfl, E.symm, ht⟩) (fun q hq => by cases hq) dX4_pieceOfSlip_33
      · have E := E.trans (if_neg c_3)
        have fc_3 := i_nle c_3
        refine lv_aload_n hx hb dX4_pieceOfSlip_15 rfl (lv_at hl 1 rfl) ?_
        refine lv_iload_n hx hb dX4_pieceOfSlip_16 rfl (lv_at hl 2 rfl) ?_
        refine lv_iload_n hx hb dX4_pieceOfSlip_17 rfl (lv_at hl 0 rfl) ?_
        refine vp_callSi (va_Run.run (va_runV (As := [.int a1, .int x2_2]) (rest := []) ⟨hx, hb, hml, hown, hts⟩ (kX4_layerOfSlip l D cI cC cQ ad w a1 x2_2 hI (by omega) (by omega) (by omega) (by omega)) (cwV 2 hts gX4_pieceOfSlip_X4_layerOfSlip rfl rfl rfl mdX4_layerOfSlip ⟨Nat.le_of_ble_eq_true rfl, Nat.le_of_ble_eq_true rfl⟩) (x4_pre hK hP hN) rfl rfl hl.1 rfl (lv_room (Nat.le_of_ble_eq_true rfl)) dX4_pieceOfSlip_18 ⟨Nat.zero_le _, Nat.zero_le _⟩)) (fun rn_4 hr_4 => ?_)
        subst hr_4
        refine lv_if_lt (tgt := 26) hx hb dX4_pieceOfSlip_21 (by decide) (fun c_5 => ?_) (fun c_5 => ?_)
        · have E := E.trans (if_pos c_5)
          have fc_5 := i_lt c_5
          rw [q_0] at fc_5
          refine lv_iinc (v := x2_2 + 1) (lv' := [(2, .int (x2_2 + 1)), (0, .ref (ad 0)), (1, .int a1)]) hx hb dX4_pieceOfSlip_26 hl (k := 0) rfl rfl (by decide) rfl (fun ls hl => ?_)
          refine lv_goto (tgt := 2) hx hb dX4_pieceOfSlip_29 (by decide) ?_
          try have := i_addr (a := x2_2) (b := 1) (n := 1) q_1 (by omega) (by omega)
          exact ih_2 (x2_2 + 1) ls ⟨by omega, by omega⟩ (by omega) (lv_sub hl [0, 1, 2] rfl) E
        · have E := E.trans (if_neg c_5)
          have fc_5 := i_nlt c_5
          rw [q_0] at fc_5
          refine lv_iload_n hx hb dX4_pieceOfSlip_24 rfl (lv_at hl 0 rfl) ?_
          exact W.iret (v := x2_2) hx hb hr (fun t ht hW => ⟨_, rfl, E.symm, ht⟩) (fun q hq => by cases hq) dX4_pieceOfSlip_25
  have := q_0
  exact L_2 7 0 ls ⟨by omega, by omega⟩ (by omega) (lv_sub hl [0, 1, 2] rfl) E
abbrev rmX4_holds : Room := { frames := 5, cells := 0, slots := 0, locals := 112 }
set_option maxHeartbeats 4000000 in
set_option maxRecDepth 100000 in
theorem kX4_holds (l : Launch) (D : va_G) (cI cC cQ : ClassId) (ad : Nat → Nat) (w : Nat → Nat → Int32) (a1 : Int32)  (hI : R4I w) (h1 : 0 ≤ a1.toInt) (h2 : a1.toInt < 2) : Met l yX4_holds wsX4_holds rmX4_holds (va_Pc [Value.ref (ad 0), Value.int a1] (fun U => va_P D vwCl (WG cI cQ ad w) U.heap ∧ va_K D vwCl [(cI, .int), (cC, .char), (cQ, .object "LoadedForTheLane$Way")] U ∧ NW U)) (vp_Si (fun r => r = sX4_holds w a1 ∧ (r = 0 ∨ r = 1))) 0 0 (fun _ => False) := by
  refine Met.ofW (cc := cX4_holds) (maxL := 2) (ret := (some .boolean)) (by decide) rfl ?_
  intro p e s m args below meth c s₁ B hml hv
  obtain ⟨rfl, hP, hK, hN⟩ := hv
  have hx := B.exec
  have hb := B.bytes
  have hr := B.returns
  have hts := atoms_spec (ws := wsX4_holds) B.pre
  have hown : s.vm.findClass RX4 = some m.cls := findClass_of_methodNamed B.named
  have hlocks := B.notSynchronized
  have hl := lv_entry ([.ref (ad 0), .int a1]) (n := 2) (Nat.le_of_ble_eq_true rfl)
  rw [lg_entry_eq]
  generalize (lg_sl ([.ref (ad 0), .int a1]) ++ List.replicate (2 - (lg_sl ([.ref (ad 0), .int a1])).length) Slot.unset).toArray = ls at hl ⊢
  have hl : lv_has ls 2 [(0, .ref (ad 0)), (1, .int a1)] := hl
  have E := sX4_holds.eq_1 w a1
  refine lv_aload_n hx hb dX4_holds_0 rfl (lv_at hl 0 rfl) ?_
  refine lv_iload_n hx hb dX4_holds_1 rfl (lv_at hl 1 rfl) ?_
  refine vp_callSi (va_Run.run (va_runV (As := [.int a1]) (rest := []) ⟨hx, hb, hml, hown, hts⟩ (kX4_pieceOfSlip l D cI cC cQ ad w a1 hI (by omega) (by omega)) (cwV 1 hts gX4_holds_X4_pieceOfSlip rfl rfl rfl mdX4_pieceOfSlip ⟨Nat.le_of_ble_eq_true rfl, Nat.le_of_ble_eq_true rfl⟩) (x4_pre hK hP hN) rfl rfl hl.1 rfl (lv_room (Nat.le_of_ble_eq_true rfl)) dX4_holds_2 ⟨Nat.zero_le _, Nat.zero_le _⟩)) (fun rn_1 hr_1 => ?_)
  subst hr_1
  have rf_1 := rX4_pieceOfSlip w a1
  have rg_1 := R4I_pieces hI (k := a1.toNatClampNeg) (by have := ix_cl (x := a1) (by omega); omega)
  refine lv_if_ge (tgt := 12) hx hb dX4_holds_5 (by decide) (fun c_2 => ?_) (fun c_2 => ?_)
  · have E := E.trans (if_pos c_2)
    have fc_2 := i_le c_2
    rw [q_0] at fc_2
    refine lv_iconst (v := 0) hx hb dX4_holds_12 (by decide) ?_
    exact W.zret (ty := .boolean) (v := 0) hx hb hr (z_nar (Or.inl rfl)) (fun t ht hW => ⟨_, rfl, ⟨E.symm, (Or.inl rfl)⟩, ht⟩) (fun q hq => by cases hq) dX4_holds_13
  · have E := E.trans (if_neg c_2)
    have fc_2 := i_nle c_2
    rw [q_0] at fc_2
    refine lv_iconst (v := 1) hx hb dX4_holds_8 (by decide) ?_
    refine lv_goto (tgt := 13) hx hb dX4_holds_9 (by decide) ?_
    exact W.zret (ty := .boolean) (v := 1) hx hb hr (z_nar (Or.inr rfl)) (fun t ht hW => ⟨_, rfl, ⟨E.symm, (Or.inr rfl)⟩, ht⟩) (fun q hq => by cases hq) dX4_holds_13
abbrev rmX4_marginAt : Room := { frames := 2, cells := 0, slots := 0, locals := 39 }
set_option maxHeartbeats 4000000 in
set_option maxRecDepth 100000 in
theorem kX4_marginAt (l : Launch) (D : va_G) (cI cC cQ : ClassId) (ad : Nat → Nat) (w : Nat → Nat → Int32) (a1 : Int32) (a2 : Int32)  (hI : R4I w) (h1 : 0 ≤ a1.toInt) (h2 : a1.toInt < 2) (h3 : 0 ≤ a2.toInt) (h4 : a2.toInt < 6) : Met l yX4_marginAt wsX4_marginAt rmX4_marginAt (va_Pc [Value.ref (ad 0), Value.int a1, Value.int a2] (fun U => va_P D vwCl (WG cI cQ ad w) U.heap ∧ va_K D vwCl [(cI, .int), (cC, .char), (cQ, .object "LoadedForTheLane$Way")] U ∧ NW U)) (vp_Si (fun r => r = sX4_marginAt w a1 a2)) 0 0 (fun _ => False) := by
  refine Met.ofW (cc := cX4_marginAt) (maxL := 5) (ret := (some .int)) (by decide) rfl ?_
  intro p e s m args below meth c s₁ B hml hv
  obtain ⟨rfl, hP, hK, hN⟩ := hv
  have hx := B.exec
  have hb := B.bytes
  have hr := B.returns
  have hts := atoms_spec (ws := wsX4_marginAt) B.pre
  have hown : s.vm.findClass RX4 = some m.cls := findClass_of_methodNamed B.named
  have hlocks := B.notSynchronized
  have hin4 : ∀ q ∈ wsX40, q ∈ wsX4_marginAt := by decide +kernel
  have hl := lv_entry ([.ref (ad 0), .int a1, .int a2]) (n := 5) (Nat.le_of_ble_eq_true rfl)
  rw [lg_entry_eq]
  generalize (lg_sl ([.ref (ad 0), .int a1, .int a2]) ++ List.replicate (5 - (lg_sl ([.ref (ad 0), .int a1, .int a2])).length) Slot.unset).toArray = ls at hl ⊢
  have hl : lv_has ls 5 [(0, .ref (ad 0)), (1, .int a1), (2, .int a2)] := hl
  have E := sX4_marginAt.eq_1 w a1 a2
  refine lv_sipush (v := 9999) hx hb dX4_marginAt_0 (by decide +kernel) ?_
  refine lv_istore_n (lv' := [(3, .int 9999), (0, .ref (ad 0)), (1, .int a1), (2, .int a2)]) hx hb dX4_marginAt_3 rfl hl (by decide) rfl (fun ls hl => ?_)
  refine lv_iconst (v := 0) hx hb dX4_marginAt_4 (by decide) ?_
  refine lv_istore (lv' := [(4, .int 0), (3, .int 9999), (0, .ref (ad 0)), (1, .int a1), (2, .int a2)]) hx hb dX4_marginAt_5 hl (by decide) rfl (fun ls hl => ?_)
  have L_7 : ∀ (n_7 : Nat) (x3_7 : Int32) (x4_7 : Int32) (ls : Array Slot), ((0 ≤ x4_7.toInt) ∧ (x4_7.toInt ≤ 12)) → (12 - x4_7.toInt < (n_7 : Int)) → lv_has ls 5 [(4, .int x4_7), (3, .int x3_7), (0, .ref (ad 0)), (1, .int a1), (2, .int a2)] → sX4_marginAt w a1 a2 = sX4_marginAt_7 w a1 a2 n_7 x3_7 x4_7 → W p l e (headSpec wsX4_marginAt rmX4_marginAt).room s m [Value.ref (ad 0), Value.int a1, Value.int a2].toArray below meth c s.heap [] 0 0 (MQ below (vp_Si (fun r => r = sX4_marginAt w a1 a2)) [Value.ref (ad 0), Value.int a1, Value.int a2].toArray s 0 0 (fun _ => False)) (F0 m 7 ls []) := by
    intro n_7
    induction n_7 with
    | zero =>
      intro x3_7 x4_7 ls hinv hm
      obtain ⟨v0_7, v1_7⟩ := hinv
      exact absurd hm (by omega)
    | succ n_7 ih_7 =>
      intro x3_7 x4_7 ls hinv hm_7 hl E
      obtain ⟨v0_7, v1_7⟩ := hinv
      have E := E.trans (sX4_marginAt_7.eq_2 ..)
      refine lv_iload hx hb dX4_marginAt_7 (lv_at hl 0 rfl) ?_
      refine lv_aload_n hx hb dX4_marginAt_9 rfl (lv_at hl 2 rfl) ?_
      refine g4_layers hx hb hts hin4 hown hK hP (hts (.fieldLink RX4 30 "LoadedForTheLane$Wagon" "layers" "I") (by decide +kernel)) dX4_marginAt_10 ?_
      have f_1 := R4I_layers hI
      refine lv_icmp_ge (tgt := 42) hx hb dX4_marginAt_13 (by decide) (fun c_2 => ?_) (fun c_2 => ?_)
      · have E := E.trans (if_pos c_2)
        have fc_2 := i_le c_2
        refine lv_iload_n hx hb dX4_marginAt_42 rfl (lv_at hl 1 rfl) ?_
        exact W.iret (v := x3_7) hx hb hr (fun t ht hW => ⟨_, rfl, E.symm, ht⟩) (fun q hq => by cases hq) dX4_marginAt_43
      · have E := E.trans (if_neg c_2)
        have fc_2 := i_nle c_2
        refine lv_iload_n hx hb dX4_marginAt_16 rfl (lv_at hl 1 rfl) ?_
        refine lv_aload_n hx hb dX4_marginAt_17 rfl (lv_at hl 2 rfl) ?_
        refine lv_iload hx hb dX4_marginAt_18 (lv_at hl 0 rfl) ?_
        refine vp_callSi (va_Run.run (va_runV (As := [.int x4_7]) (rest := [.int x3_7]) ⟨hx, hb, hml, hown, hts⟩ (kX4_strengthOf l D cI cC cQ ad w x4_7 (by omega) (by omega)) (cwV 1 hts gX4_marginAt_X4_strengthOf rfl rfl rfl mdX4_strengthOf ⟨Nat.le_of_ble_eq_true rfl, Nat.le_of_ble_eq_true rfl⟩) (x4_pre hK hP hN) rfl rfl hl.1 rfl (lv_room (Nat.le_of_ble_eq_true rfl)) dX4_marginAt_20 ⟨Nat.zero_le _, Nat.zero_le _⟩)) (fun rn_3 hr_3 => ?_)
        subst hr_3
        refine lv_aload_n hx hb dX4_marginAt_23 rfl (lv_at hl 2 rfl) ?_
        refine lv_iload_n hx hb dX4_marginAt_24 rfl (lv_at hl 3 rfl) ?_
        refine lv_iload_n hx hb dX4_marginAt_25 rfl (lv_at hl 4 rfl) ?_
        refine lv_iload hx hb dX4_marginAt_26 (lv_at hl 0 rfl) ?_
        refine vp_callSi (va_Run.run (va_runV (As := [.int a1, .int a2, .int x4_7]) (rest := [.int (sX4_strengthOf w x4_7), .int x3_7]) ⟨hx, hb, hml, hown, hts⟩ (kX4_shiftOf l D cI cC cQ ad w a1 a2 x4_7 (by omega) (by omega) (by omega) (by omega) (by omega) (by omega)) (cwV 3 hts gX4_marginAt_X4_shiftOf rfl rfl rfl mdX4_shiftOf ⟨Nat.le_of_ble_eq_true rfl, Nat.le_of_ble_eq_true rfl⟩) (x4_pre hK hP hN) rfl rfl hl.1 rfl (lv_room (Nat.le_of_ble_eq_true rfl)) dX4_marginAt_28 ⟨Nat.zero_le _, Nat.zero_le _⟩)) (fun rn_4 hr_4 => ?_)
        subst hr_4
        refine lv_isub hx hb dX4_marginAt_31 ?_
        refine va_mmin hx hb (hml.trans hl.1.symm) hown (hts (.methodLink RX4 97 Lib.Math.min.name) (by decide +kernel)) (hts (.static Lib.Math.min.name) (by decide +kernel)) (hts (.initialized "java/lang/Math") (by decide +kernel)) (hts (.code Lib.Math.min.name Lib.Math.min.code 2 (some .int)) (by decide +kernel)) (Nat.le_of_ble_eq_true rfl) (Nat.le_of_ble_eq_true rfl) (Nat.zero_le _) (Nat.zero_le _) dX4_marginAt_32 ?_
        have hmm_32 := i_min_le (x := x3_7) (y := (sX4_strengthOf w x4_7) - (sX4_shiftOf w a1 a2 x4_7))
        refine lv_istore_n (lv' := [(3, .int (if (sX4_strengthOf w x4_7) - (sX4_shiftOf w a1 a2 x4_7) < x3_7 then (sX4_strengthOf w x4_7) - (sX4_shiftOf w a1 a2 x4_7) else x3_7)), (4, .int x4_7), (0, .ref (ad 0)), (1, .int a1), (2, .int a2)]) hx hb dX4_marginAt_35 rfl hl (by decide) rfl (fun ls hl => ?_)
        refine lv_iinc (v := x4_7 + 1) (lv' := [(4, .int (x4_7 + 1)), (3, .int (if (sX4_strengthOf w x4_7) - (sX4_shiftOf w a1 a2 x4_7) < x3_7 then (sX4_strengthOf w x4_7) - (sX4_shiftOf w a1 a2 x4_7) else x3_7)), (0, .ref (ad 0)), (1, .int a1), (2, .int a2)]) hx hb dX4_marginAt_36 hl (k := 1) rfl rfl (by decide) rfl (fun ls hl => ?_)
        refine lv_goto (tgt := 7) hx hb dX4_marginAt_39 (by decide) ?_
        try have := i_addr (a := x4_7) (b := 1) (n := 1) q_1 (by omega) (by omega)
        exact ih_7 ((if (sX4_strengthOf w x4_7) - (sX4_shiftOf w a1 a2 x4_7) < x3_7 then (sX4_strengthOf w x4_7) - (sX4_shiftOf w a1 a2 x4_7) else x3_7)) (x4_7 + 1) ls ⟨by omega, by omega⟩ (by omega) (lv_sub hl [0, 1, 2, 3, 4] rfl) E
  have := q_0
  exact L_7 13 9999 0 ls ⟨by omega, by omega⟩ (by omega) (lv_sub hl [0, 1, 2, 3, 4] rfl) E
abbrev rmX4_leastMargin : Room := { frames := 3, cells := 0, slots := 0, locals := 63 }
set_option maxHeartbeats 4000000 in
set_option maxRecDepth 100000 in
theorem kX4_leastMargin (l : Launch) (D : va_G) (cI cC cQ : ClassId) (ad : Nat → Nat) (w : Nat → Nat → Int32) (a1 : Int32)  (hI : R4I w) (h1 : 0 ≤ a1.toInt) (h2 : a1.toInt < 2) : Met l yX4_leastMargin wsX4_leastMargin rmX4_leastMargin (va_Pc [Value.ref (ad 0), Value.int a1] (fun U => va_P D vwCl (WG cI cQ ad w) U.heap ∧ va_K D vwCl [(cI, .int), (cC, .char), (cQ, .object "LoadedForTheLane$Way")] U ∧ NW U)) (vp_Si (fun r => r = sX4_leastMargin w a1)) 0 0 (fun _ => False) := by
  refine Met.ofW (cc := cX4_leastMargin) (maxL := 4) (ret := (some .int)) (by decide) rfl ?_
  intro p e s m args below meth c s₁ B hml hv
  obtain ⟨rfl, hP, hK, hN⟩ := hv
  have hx := B.exec
  have hb := B.bytes
  have hr := B.returns
  have hts := atoms_spec (ws := wsX4_leastMargin) B.pre
  have hown : s.vm.findClass RX4 = some m.cls := findClass_of_methodNamed B.named
  have hlocks := B.notSynchronized
  have hin4 : ∀ q ∈ wsX40, q ∈ wsX4_leastMargin := by decide +kernel
  have hin5 : ∀ q ∈ wsX50, q ∈ wsX4_leastMargin := by decide +kernel
  have hl := lv_entry ([.ref (ad 0), .int a1]) (n := 4) (Nat.le_of_ble_eq_true rfl)
  rw [lg_entry_eq]
  generalize (lg_sl ([.ref (ad 0), .int a1]) ++ List.replicate (4 - (lg_sl ([.ref (ad 0), .int a1])).length) Slot.unset).toArray = ls at hl ⊢
  have hl : lv_has ls 4 [(0, .ref (ad 0)), (1, .int a1)] := hl
  have E := sX4_leastMargin.eq_1 w a1
  refine lv_sipush (v := 9999) hx hb dX4_leastMargin_0 (by decide +kernel) ?_
  refine lv_istore_n (lv' := [(2, .int 9999), (0, .ref (ad 0)), (1, .int a1)]) hx hb dX4_leastMargin_3 rfl hl (by decide) rfl (fun ls hl => ?_)
  refine lv_iconst (v := 0) hx hb dX4_leastMargin_4 (by decide) ?_
  refine lv_istore_n (lv' := [(3, .int 0), (2, .int 9999), (0, .ref (ad 0)), (1, .int a1)]) hx hb dX4_leastMargin_5 rfl hl (by decide) rfl (fun ls hl => ?_)
  have L_6 : ∀ (n_6 : Nat) (x2_6 : Int32) (x3_6 : Int32) (ls : Array Slot), ((0 ≤ x3_6.toInt) ∧ (x3_6.toInt ≤ 6)) → (6 - x3_6.toInt < (n_6 : Int)) → lv_has ls 4 [(3, .int x3_6), (2, .int x2_6), (0, .ref (ad 0)), (1, .int a1)] → sX4_leastMargin w a1 = sX4_leastMargin_6 w a1 n_6 x2_6 x3_6 → W p l e (headSpec wsX4_leastMargin rmX4_leastMargin).room s m [Value.ref (ad 0), Value.int a1].toArray below meth c s.heap [] 0 0 (MQ below (vp_Si (fun r => r = sX4_leastMargin w a1)) [Value.ref (ad 0), Value.int a1].toArray s 0 0 (fun _ => False)) (F0 m 6 ls []) := by
    intro n_6
    induction n_6 with
    | zero =>
      intro x2_6 x3_6 ls hinv hm
      obtain ⟨v0_6, v1_6⟩ := hinv
      exact absurd hm (by omega)
    | succ n_6 ih_6 =>
      intro x2_6 x3_6 ls hinv hm_6 hl E
      obtain ⟨v0_6, v1_6⟩ := hinv
      have E := E.trans (sX4_leastMargin_6.eq_2 ..)
      refine lv_iload_n hx hb dX4_leastMargin_6 rfl (lv_at hl 0 rfl) ?_
      refine lv_aload_n hx hb dX4_leastMargin_7 rfl (lv_at hl 2 rfl) ?_
      refine g4_ways hx hb hts hin4 hown hK hP (hts (.fieldLink RX4 48 "LoadedForTheLane$Wagon" "ways" "[LLoadedForTheLane$Way;") (by decide +kernel)) dX4_leastMargin_8 ?_
      refine lv_iload_n hx hb dX4_leastMargin_11 rfl (lv_at hl 3 rfl) ?_
      have ix_1 : vp_in a1 2 := ix_of (by omega) (by omega)
      refine q4_ways (j := (a1.toNatClampNeg)) hx hb hK hP ix_1 rfl dX4_leastMargin_12 ?_
      have hk_1 : (a1.toNatClampNeg) < 2 := by have := ix_cl (x := a1) (by omega); omega
      refine gw_piecesn hx hb hts hin5 hown hK hP hk_1 (nf_RX4_69 hN) dX4_leastMargin_13 ?_
      have f_2 := R4I_pieces hI hk_1
      refine lv_icmp_ge (tgt := 51) hx hb dX4_leastMargin_16 (by decide) (fun c_3 => ?_) (fun c_3 => ?_)
      · have E := E.trans (if_pos c_3)
        have fc_3 := i_le c_3
        refine lv_iload_n hx hb dX4_leastMargin_51 rfl (lv_at hl 1 rfl) ?_
        exact W.iret (v := x2_6) hx hb hr (fun t ht hW => ⟨_, rfl, E.symm, ht⟩) (fun q hq => by cases hq) dX4_leastMargin_52
      · have E := E.trans (if_neg c_3)
        have fc_3 := i_nle c_3
        refine lv_aload_n hx hb dX4_leastMargin_19 rfl (lv_at hl 2 rfl) ?_
        refine g4_ways hx hb hts hin4 hown hK hP (hts (.fieldLink RX4 48 "LoadedForTheLane$Wagon" "ways" "[LLoadedForTheLane$Way;") (by decide +kernel)) dX4_leastMargin_20 ?_
        refine lv_iload_n hx hb dX4_leastMargin_23 rfl (lv_at hl 3 rfl) ?_
        have ix_4 : vp_in a1 2 := ix_of (by omega) (by omega)
        refine q4_ways (j := (a1.toNatClampNeg)) hx hb hK hP ix_4 rfl dX4_leastMargin_24 ?_
        have hk_4 : (a1.toNatClampNeg) < 2 := by have := ix_cl (x := a1) (by omega); omega
        refine gw_kindsn hx hb hts hin5 hown hK hP hk_4 (nf_RX4_125 hN) dX4_leastMargin_25 ?_
        refine lv_iload_n hx hb dX4_leastMargin_28 rfl (lv_at hl 0 rfl) ?_
        have ix_5 : vp_in x3_6 6 := ix_of (by omega) (by omega)
        refine lw_kinds (j := (x3_6.toNatClampNeg)) hx hb hK hP hk_4 ix_5 rfl dX4_leastMargin_29 ?_
        refine lv_iconst (v := 4) hx hb dX4_leastMargin_30 (by decide) ?_
        refine lv_icmp_ge (tgt := 45) hx hb dX4_leastMargin_31 (by decide) (fun c_6 => ?_) (fun c_6 => ?_)
        · have E := E.trans (if_pos c_6)
          have fc_6 := i_le c_6
          rw [q_4] at fc_6
          refine lv_iinc (v := x3_6 + 1) (lv' := [(3, .int (x3_6 + 1)), (2, .int x2_6), (0, .ref (ad 0)), (1, .int a1)]) hx hb dX4_leastMargin_45 hl (k := 0) rfl rfl (by decide) rfl (fun ls hl => ?_)
          refine lv_goto (tgt := 6) hx hb dX4_leastMargin_48 (by decide) ?_
          try have := i_addr (a := x3_6) (b := 1) (n := 1) q_1 (by omega) (by omega)
          exact ih_6 x2_6 (x3_6 + 1) ls ⟨by omega, by omega⟩ (by omega) (lv_sub hl [0, 1, 2, 3] rfl) E
        · have E := E.trans (if_neg c_6)
          have fc_6 := i_nle c_6
          rw [q_4] at fc_6
          refine lv_iload_n hx hb dX4_leastMargin_34 rfl (lv_at hl 1 rfl) ?_
          refine lv_aload_n hx hb dX4_leastMargin_35 rfl (lv_at hl 2 rfl) ?_
          refine lv_iload_n hx hb dX4_leastMargin_36 rfl (lv_at hl 3 rfl) ?_
          refine lv_iload_n hx hb dX4_leastMargin_37 rfl (lv_at hl 0 rfl) ?_
          refine vp_callSi (va_Run.run (va_runV (As := [.int a1, .int x3_6]) (rest := [.int x2_6]) ⟨hx, hb, hml, hown, hts⟩ (kX4_marginAt l D cI cC cQ ad w a1 x3_6 hI (by omega) (by omega) (by omega) (by omega)) (cwV 2 hts gX4_leastMargin_X4_marginAt rfl rfl rfl mdX4_marginAt ⟨Nat.le_of_ble_eq_true rfl, Nat.le_of_ble_eq_true rfl⟩) (x4_pre hK hP hN) rfl rfl hl.1 rfl (lv_room (Nat.le_of_ble_eq_true rfl)) dX4_leastMargin_38 ⟨Nat.zero_le _, Nat.zero_le _⟩)) (fun rn_7 hr_7 => ?_)
          subst hr_7
          refine va_mmin hx hb (hml.trans hl.1.symm) hown (hts (.methodLink RX4 97 Lib.Math.min.name) (by decide +kernel)) (hts (.static Lib.Math.min.name) (by decide +kernel)) (hts (.initialized "java/lang/Math") (by decide +kernel)) (hts (.code Lib.Math.min.name Lib.Math.min.code 2 (some .int)) (by decide +kernel)) (Nat.le_of_ble_eq_true rfl) (Nat.le_of_ble_eq_true rfl) (Nat.zero_le _) (Nat.zero_le _) dX4_leastMargin_41 ?_
          have hmm_41 := i_min_le (x := x2_6) (y := (sX4_marginAt w a1 x3_6))
          refine lv_istore_n (lv' := [(2, .int (if (sX4_marginAt w a1 x3_6) < x2_6 then (sX4_marginAt w a1 x3_6) else x2_6)), (3, .int x3_6), (0, .ref (ad 0)), (1, .int a1)]) hx hb dX4_leastMargin_44 rfl hl (by decide) rfl (fun ls hl => ?_)
          refine lv_iinc (v := x3_6 + 1) (lv' := [(3, .int (x3_6 + 1)), (2, .int (if (sX4_marginAt w a1 x3_6) < x2_6 then (sX4_marginAt w a1 x3_6) else x2_6)), (0, .ref (ad 0)), (1, .int a1)]) hx hb dX4_leastMargin_45 hl (k := 1) rfl rfl (by decide) rfl (fun ls hl => ?_)
          refine lv_goto (tgt := 6) hx hb dX4_leastMargin_48 (by decide) ?_
          try have := i_addr (a := x3_6) (b := 1) (n := 1) q_1 (by omega) (by omega)
          exact ih_6 ((if (sX4_marginAt w a1 x3_6) < x2_6 then (sX4_marginAt w a1 x3_6) else x2_6)) (x3_6 + 1) ls ⟨by omega, by omega⟩ (by omega) (lv_sub hl [0, 1, 2, 3] rfl) E
  have := q_0
  exact L_6 7 9999 0 ls ⟨by omega, by omega⟩ (by omega) (lv_sub hl [0, 1, 2, 3] rfl) E
abbrev rmX4_pitchingMinutes : Room := { frames := 1, cells := 0, slots := 0, locals := 22 }
set_option maxHeartbeats 4000000 in
set_option maxRecDepth 100000 in
theorem kX4_pitchingMinutes (l : Launch) (D : va_G) (cI cC cQ : ClassId) (ad : Nat → Nat) (w : Nat → Nat → Int32) (a1 : Int32)  (hI : R4I w)  : Met l yX4_pitchingMinutes wsX4_pitchingMinutes rmX4_pitchingMinutes (va_Pc [Value.ref (ad 0), Value.int a1] (fun U => va_P D vwCl (WG cI cQ ad w) U.heap ∧ va_K D vwCl [(cI, .int), (cC, .char), (cQ, .object "LoadedForTheLane$Way")] U ∧ NW U)) (vp_Si (fun r => r = sX4_pitchingMinutes w a1)) 0 0 (fun _ => False) := by
  refine Met.ofW (cc := cX4_pitchingMinutes) (maxL := 2) (ret := (some .int)) (by decide) rfl ?_
  intro p e s m args below meth c s₁ B hml hv
  obtain ⟨rfl, hP, hK, hN⟩ := hv
  have hx := B.exec
  have hb := B.bytes
  have hr := B.returns
  have hts := atoms_spec (ws := wsX4_pitchingMinutes) B.pre
  have hown : s.vm.findClass RX4 = some m.cls := findClass_of_methodNamed B.named
  have hlocks := B.notSynchronized
  have hl := lv_entry ([.ref (ad 0), .int a1]) (n := 2) (Nat.le_of_ble_eq_true rfl)
  rw [lg_entry_eq]
  generalize (lg_sl ([.ref (ad 0), .int a1]) ++ List.replicate (2 - (lg_sl ([.ref (ad 0), .int a1])).length) Slot.unset).toArray = ls at hl ⊢
  have hl : lv_has ls 2 [(0, .ref (ad 0)), (1, .int a1)] := hl
  have E := sX4_pitchingMinutes.eq_1 w a1
  refine lv_iload_n hx hb dX4_pitchingMinutes_0 rfl (lv_at hl 1 rfl) ?_
  refine lv_iconst (v := 1) hx hb dX4_pitchingMinutes_1 (by decide) ?_
  refine lv_icmp_ge (tgt := 9) hx hb dX4_pitchingMinutes_2 (by decide) (fun c_1 => ?_) (fun c_1 => ?_)
  · have E := E.trans (if_pos c_1)
    have fc_1 := i_le c_1
    rw [q_1] at fc_1
    refine lv_aload_n hx hb dX4_pitchingMinutes_9 rfl (lv_at hl 0 rfl) ?_
    refine vp_callSi (va_Run.run (va_runV (As := []) (rest := []) ⟨hx, hb, hml, hown, hts⟩ (kX4_allSheaves l D cI cC cQ ad w hI) (cwV 0 hts gX4_pitchingMinutes_X4_allSheaves rfl rfl rfl mdX4_allSheaves ⟨Nat.le_of_ble_eq_true rfl, Nat.le_of_ble_eq_true rfl⟩) (x4_pre hK hP hN) rfl rfl hl.1 rfl (lv_room (Nat.le_of_ble_eq_true rfl)) dX4_pitchingMinutes_10 ⟨Nat.zero_le _, Nat.zero_le _⟩)) (fun rn_2 hr_2 => ?_)
    subst hr_2
    refine lv_iload_n hx hb dX4_pitchingMinutes_13 rfl (lv_at hl 1 rfl) ?_
    refine lv_iadd hx hb dX4_pitchingMinutes_14 ?_
    refine lv_iconst (v := 1) hx hb dX4_pitchingMinutes_15 (by decide) ?_
    refine lv_isub hx hb dX4_pitchingMinutes_16 ?_
    refine lv_iload_n hx hb dX4_pitchingMinutes_17 rfl (lv_at hl 1 rfl) ?_
    refine lv_idiv hx hb dX4_pitchingMinutes_18 (i_ne0 (by omega)) ?_
    exact W.iret (v := (((sX4_allSheaves w) + a1) - 1) / a1) hx hb hr (fun t ht hW => ⟨_, rfl, E.symm, ht⟩) (fun q hq => by cases hq) dX4_pitchingMinutes_19
  · have E := E.trans (if_neg c_1)
    have fc_1 := i_nle c_1
    rw [q_1] at fc_1
    refine lv_iconst (v := 0) hx hb dX4_pitchingMinutes_5 (by decide) ?_
    refine lv_goto (tgt := 19) hx hb dX4_pitchingMinutes_6 (by decide) ?_
    exact W.iret (v := 0) hx hb hr (fun t ht hW => ⟨_, rfl, E.symm, ht⟩) (fun q hq => by cases hq) dX4_pitchingMinutes_19
abbrev rmX4_firstBack : Room := { frames := 0, cells := 0, slots := 0, locals := 0 }
set_option maxHeartbeats 4000000 in
set_option maxRecDepth 100000 in
theorem kX4_firstBack (l : Launch) (D : va_G) (cI cC cQ : ClassId) (ad : Nat → Nat) (w : Nat → Nat → Int32) (a1 : Int32)   : Met l yX4_firstBack wsX4_firstBack rmX4_firstBack (va_Pc [Value.ref (ad 0), Value.int a1] (fun U => va_P D vwCl (WG cI cQ ad w) U.heap ∧ va_K D vwCl [(cI, .int), (cC, .char), (cQ, .object "LoadedForTheLane$Way")] U ∧ NW U)) (vp_Si (fun r => r = sX4_firstBack w a1)) 0 0 (fun _ => False) := by
  refine Met.ofW (cc := cX4_firstBack) (maxL := 4) (ret := (some .int)) (by decide) rfl ?_
  intro p e s m args below meth c s₁ B hml hv
  obtain ⟨rfl, hP, hK, hN⟩ := hv
  have hx := B.exec
  have hb := B.bytes
  have hr := B.returns
  have hts := atoms_spec (ws := wsX4_firstBack) B.pre
  have hown : s.vm.findClass RX4 = some m.cls := findClass_of_methodNamed B.named
  have hlocks := B.notSynchronized
  have hin4 : ∀ q ∈ wsX40, q ∈ wsX4_firstBack := by decide +kernel
  have hl := lv_entry ([.ref (ad 0), .int a1]) (n := 4) (Nat.le_of_ble_eq_true rfl)
  rw [lg_entry_eq]
  generalize (lg_sl ([.ref (ad 0), .int a1]) ++ List.replicate (4 - (lg_sl ([.ref (ad 0), .int a1])).length) Slot.unset).toArray = ls at hl ⊢
  have hl : lv_has ls 4 [(0, .ref (ad 0)), (1, .int a1)] := hl
  have E := sX4_firstBack.eq_1 w a1
  refine lv_iconst (v := 0) hx hb dX4_firstBack_0 (by decide) ?_
  refine lv_istore_n (lv' := [(2, .int 0), (0, .ref (ad 0)), (1, .int a1)]) hx hb dX4_firstBack_1 rfl hl (by decide) rfl (fun ls hl => ?_)
  refine lv_iconst (v := 1) hx hb dX4_firstBack_2 (by decide) ?_
  refine lv_istore_n (lv' := [(3, .int 1), (2, .int 0), (0, .ref (ad 0)), (1, .int a1)]) hx hb dX4_firstBack_3 rfl hl (by decide) rfl (fun ls hl => ?_)
  have L_4 : ∀ (n_4 : Nat) (x2_4 : Int32) (x3_4 : Int32) (ls : Array Slot), ((1 ≤ x3_4.toInt) ∧ (x3_4.toInt ≤ 4) ∧ (0 ≤ x2_4.toInt) ∧ (x2_4.toInt < 4)) → (4 - x3_4.toInt < (n_4 : Int)) → lv_has ls 4 [(3, .int x3_4), (2, .int x2_4), (0, .ref (ad 0)), (1, .int a1)] → sX4_firstBack w a1 = sX4_firstBack_4 w a1 n_4 x2_4 x3_4 → W p l e (headSpec wsX4_firstBack rmX4_firstBack).room s m [Value.ref (ad 0), Value.int a1].toArray below meth c s.heap [] 0 0 (MQ below (vp_Si (fun r => r = sX4_firstBack w a1)) [Value.ref (ad 0), Value.int a1].toArray s 0 0 (fun _ => False)) (F0 m 4 ls []) := by
    intro n_4
    induction n_4 with
    | zero =>
      intro x2_4 x3_4 ls hinv hm
      obtain ⟨v0_4, v1_4, v2_4, v3_4⟩ := hinv
      exact absurd hm (by omega)
    | succ n_4 ih_4 =>
      intro x2_4 x3_4 ls hinv hm_4 hl E
      obtain ⟨v0_4, v1_4, v2_4, v3_4⟩ := hinv
      have E := E.trans (sX4_firstBack_4.eq_2 ..)
      refine lv_iload_n hx hb dX4_firstBack_4 rfl (lv_at hl 0 rfl) ?_
      refine lv_iload_n hx hb dX4_firstBack_5 rfl (lv_at hl 3 rfl) ?_
      refine lv_icmp_ge (tgt := 41) hx hb dX4_firstBack_6 (by decide) (fun c_1 => ?_) (fun c_1 => ?_)
      · have E := E.trans (if_pos c_1)
        have fc_1 := i_le c_1
        refine lv_iload_n hx hb dX4_firstBack_41 rfl (lv_at hl 1 rfl) ?_
        exact W.iret (v := x2_4) hx hb hr (fun t ht hW => ⟨_, rfl, E.symm, ht⟩) (fun q hq => by cases hq) dX4_firstBack_42
      · have E := E.trans (if_neg c_1)
        have fc_1 := i_nle c_1
        refine lv_iload_n hx hb dX4_firstBack_9 rfl (lv_at hl 0 rfl) ?_
        refine lv_aload_n hx hb dX4_firstBack_10 rfl (lv_at hl 2 rfl) ?_
        refine g4_backAt hx hb hts hin4 hown hK hP (hts (.fieldLink RX4 52 "LoadedForTheLane$Wagon" "backAt" "[I") (by decide +kernel)) dX4_firstBack_11 ?_
        refine n4_backAt (v := 4) hx hb hK hP (by decide) dX4_firstBack_14 ?_
        refine lv_icmp_ge (tgt := 41) hx hb dX4_firstBack_15 (by decide) (fun c_2 => ?_) (fun c_2 => ?_)
        · have E := E.trans (if_pos c_2)
          have fc_2 := i_le c_2
          rw [q_4] at fc_2
          refine lv_iload_n hx hb dX4_firstBack_41 rfl (lv_at hl 1 rfl) ?_
          exact W.iret (v := x2_4) hx hb hr (fun t ht hW => ⟨_, rfl, E.symm, ht⟩) (fun q hq => by cases hq) dX4_firstBack_42
        · have E := E.trans (if_neg c_2)
          have fc_2 := i_nle c_2
          rw [q_4] at fc_2
          refine lv_aload_n hx hb dX4_firstBack_18 rfl (lv_at hl 2 rfl) ?_
          refine g4_backAt hx hb hts hin4 hown hK hP (hts (.fieldLink RX4 52 "LoadedForTheLane$Wagon" "backAt" "[I") (by decide +kernel)) dX4_firstBack_19 ?_
          refine lv_iload_n hx hb dX4_firstBack_22 rfl (lv_at hl 0 rfl) ?_
          have ix_3 : vp_in x3_4 4 := ix_of (by omega) (by omega)
          refine l4_backAt (j := (x3_4.toNatClampNeg)) hx hb hK hP ix_3 rfl dX4_firstBack_23 ?_
          refine lv_aload_n hx hb dX4_firstBack_24 rfl (lv_at hl 2 rfl) ?_
          refine g4_backAt hx hb hts hin4 hown hK hP (hts (.fieldLink RX4 52 "LoadedForTheLane$Wagon" "backAt" "[I") (by decide +kernel)) dX4_firstBack_25 ?_
          refine lv_iload_n hx hb dX4_firstBack_28 rfl (lv_at hl 1 rfl) ?_
          have ix_4 : vp_in x2_4 4 := ix_of (by omega) (by omega)
          refine l4_backAt (j := (x2_4.toNatClampNeg)) hx hb hK hP ix_4 rfl dX4_firstBack_29 ?_
          refine lv_icmp_ge (tgt := 35) hx hb dX4_firstBack_30 (by decide) (fun c_5 => ?_) (fun c_5 => ?_)
          · have E := E.trans (if_pos c_5)
            have fc_5 := i_le c_5
            refine lv_iinc (v := x3_4 + 1) (lv' := [(3, .int (x3_4 + 1)), (2, .int x2_4), (0, .ref (ad 0)), (1, .int a1)]) hx hb dX4_firstBack_35 hl (k := 0) rfl rfl (by decide) rfl (fun ls hl => ?_)
            refine lv_goto (tgt := 4) hx hb dX4_firstBack_38 (by decide) ?_
            try have := i_addr (a := x3_4) (b := 1) (n := 1) q_1 (by omega) (by omega)
            exact ih_4 x2_4 (x3_4 + 1) ls ⟨by omega, by omega, by omega, by omega⟩ (by omega) (lv_sub hl [0, 1, 2, 3] rfl) E
          · have E := E.trans (if_neg c_5)
            have fc_5 := i_nle c_5
            refine lv_iload_n hx hb dX4_firstBack_33 rfl (lv_at hl 0 rfl) ?_
            refine lv_istore_n (lv' := [(2, .int x3_4), (3, .int x3_4), (0, .ref (ad 0)), (1, .int a1)]) hx hb dX4_firstBack_34 rfl hl (by decide) rfl (fun ls hl => ?_)
            refine lv_iinc (v := x3_4 + 1) (lv' := [(3, .int (x3_4 + 1)), (2, .int x3_4), (0, .ref (ad 0)), (1, .int a1)]) hx hb dX4_firstBack_35 hl (k := 1) rfl rfl (by decide) rfl (fun ls hl => ?_)
            refine lv_goto (tgt := 4) hx hb dX4_firstBack_38 (by decide) ?_
            try have := i_addr (a := x3_4) (b := 1) (n := 1) q_1 (by omega) (by omega)
            exact ih_4 x3_4 (x3_4 + 1) ls ⟨by omega, by omega, by omega, by omega⟩ (by omega) (lv_sub hl [0, 1, 2, 3] rfl) E
  have := q_0
  have := q_1
  exact L_4 4 0 1 ls ⟨by omega, by omega, by omega, by omega⟩ (by omega) (lv_sub hl [0, 1, 2, 3] rfl) E
