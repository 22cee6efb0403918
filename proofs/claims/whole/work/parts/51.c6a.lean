abbrev rmX1_isDigit : Room := { frames := 0, cells := 0, slots := 0, locals := 0 }
set_option maxHeartbeats 4000000 in
set_option maxRecDepth 100000 in
theorem kX1_isDigit (l : Launch)  (a1 : Int32)   : Met l yX1_isDigit wsX1_isDigit rmX1_isDigit (va_Pc [Value.int a1] (fun U => True)) (vp_Si (fun r => r = sX1_isDigit a1 ∧ (r = 0 ∨ r = 1))) 0 0 (fun _ => False) := by
  refine Met.ofW (cc := cX1_isDigit) (maxL := 1) (ret := (some .boolean)) (by decide) rfl ?_
  intro p e s m args below meth c s₁ B hml hv
  obtain ⟨rfl, -⟩ := hv
  have hx := B.exec
  have hb := B.bytes
  have hr := B.returns
  have hts := atoms_spec (ws := wsX1_isDigit) B.pre
  have hown : s.vm.findClass RX1 = some m.cls := findClass_of_methodNamed B.named
  have hlocks := B.notSynchronized
  have hl := lv_entry ([.int a1]) (n := 1) (Nat.le_of_ble_eq_true rfl)
  rw [lg_entry_eq]
  generalize (lg_sl ([.int a1]) ++ List.replicate (1 - (lg_sl ([.int a1])).length) Slot.unset).toArray = ls at hl ⊢
  have hl : lv_has ls 1 [(0, .int a1)] := hl
  have E := sX1_isDigit.eq_1 a1
  refine lv_iload_n hx hb dX1_isDigit_0 rfl (lv_at hl 0 rfl) ?_
  refine lv_bipush (v := 48) hx hb dX1_isDigit_1 (by decide +kernel) ?_
  refine lv_icmp_lt (tgt := 16) hx hb dX1_isDigit_3 (by decide) (fun c_1 => ?_) (fun c_1 => ?_)
  · have E := E.trans (if_pos c_1)
    have fc_1 := i_lt c_1
    rw [q_48] at fc_1
    refine lv_iconst (v := 0) hx hb dX1_isDigit_16 (by decide) ?_
    exact W.zret (ty := .boolean) (v := 0) hx hb hr (z_nar (Or.inl rfl)) (fun t ht hW => ⟨_, rfl, ⟨E.symm, (Or.inl rfl)⟩, ht⟩) (fun q hq => by cases hq) dX1_isDigit_17
  · have E := E.trans (if_neg c_1)
    have fc_1 := i_nlt c_1
    rw [q_48] at fc_1
    refine lv_iload_n hx hb dX1_isDigit_6 rfl (lv_at hl 0 rfl) ?_
    refine lv_bipush (v := 57) hx hb dX1_isDigit_7 (by decide +kernel) ?_
    refine lv_icmp_gt (tgt := 16) hx hb dX1_isDigit_9 (by decide) (fun c_2 => ?_) (fun c_2 => ?_)
    · have E := E.trans (if_pos c_2)
      have fc_2 := i_lt c_2
      rw [q_57] at fc_2
      refine lv_iconst (v := 0) hx hb dX1_isDigit_16 (by decide) ?_
      exact W.zret (ty := .boolean) (v := 0) hx hb hr (z_nar (Or.inl rfl)) (fun t ht hW => ⟨_, rfl, ⟨E.symm, (Or.inl rfl)⟩, ht⟩) (fun q hq => by cases hq) dX1_isDigit_17
    · have E := E.trans (if_neg c_2)
      have fc_2 := i_nlt c_2
      rw [q_57] at fc_2
      refine lv_iconst (v := 1) hx hb dX1_isDigit_12 (by decide) ?_
      refine lv_goto (tgt := 17) hx hb dX1_isDigit_13 (by decide) ?_
      exact W.zret (ty := .boolean) (v := 1) hx hb hr (z_nar (Or.inr rfl)) (fun t ht hW => ⟨_, rfl, ⟨E.symm, (Or.inr rfl)⟩, ht⟩) (fun q hq => by cases hq) dX1_isDigit_17
abbrev rmX1_add : Room := { frames := 0, cells := 0, slots := 0, locals := 0 }
set_option maxHeartbeats 4000000 in
set_option maxRecDepth 100000 in
theorem kX1_add (l : Launch) (D : va_G) (cI cC cQ : ClassId) (ad : Nat → Nat) (w : Nat → Nat → Int32) (a1 : Int32) (hd : LWD ad) (hI : R1I w)  : Met l yX1_add wsX1_add rmX1_add (va_Pc [Value.ref (ad 0), Value.int a1] (fun U => va_P D vwCl (LW cC ad w) U.heap ∧ va_K D vwCl [(cI, .int), (cC, .char), (cQ, .object "LoadedForTheLane$Way")] U)) (va_Qv (fun u => u = sX1_add w a1 ∧ R1I u) (fun u t => va_P D vwCl (LW cC ad u) t.heap) (LWA ad)) 0 0 (LWA ad) := by
  refine Met.ofW (cc := cX1_add) (maxL := 2) (ret := none) (by decide) rfl ?_
  intro p e s m args below meth c s₁ B hml hv
  obtain ⟨rfl, hP, hK⟩ := hv
  have hx := B.exec
  have hb := B.bytes
  have hr := B.returns
  have hts := atoms_spec (ws := wsX1_add) B.pre
  have hown : s.vm.findClass RX1 = some m.cls := findClass_of_methodNamed B.named
  have hlocks := B.notSynchronized
  have hin1 : ∀ q ∈ wsX10, q ∈ wsX1_add := by decide +kernel
  have hl := lv_entry ([.ref (ad 0), .int a1]) (n := 2) (Nat.le_of_ble_eq_true rfl)
  rw [lg_entry_eq]
  generalize (lg_sl ([.ref (ad 0), .int a1]) ++ List.replicate (2 - (lg_sl ([.ref (ad 0), .int a1])).length) Slot.unset).toArray = ls at hl ⊢
  have hl : lv_has ls 2 [(0, .ref (ad 0)), (1, .int a1)] := hl
  suffices hgo : ∀ (H : Heap) (locs : List Loc), va_P D vwCl (LW cC ad w) H → va_S (LWA ad) s.heap H locs → W p l e (headSpec wsX1_add rmX1_add).room s m [Value.ref (ad 0), Value.int a1].toArray below meth c H locs 0 0 (MQ below (va_Qv (fun u => u = sX1_add w a1 ∧ R1I u) (fun u t => va_P D vwCl (LW cC ad u) t.heap) (LWA ad)) [Value.ref (ad 0), Value.int a1].toArray s 0 0 (LWA ad)) (F0 m 0 ls []) from hgo s.heap [] hP va_S.rf
  intro H locs hP hS
  have E := sX1_add.eq_1 w a1
  refine lv_aload_n hx hb dX1_add_0 rfl (lv_at hl 0 rfl) ?_
  refine g1_size hx hb hts hin1 hown hK hP (hts (.fieldLink RX1 15 "LoadedForTheLane$Letters" "size" "I") (by decide +kernel)) dX1_add_1 ?_
  have f_1 := R1I_size hI
  refine lv_aload_n hx hb dX1_add_4 rfl (lv_at hl 0 rfl) ?_
  refine g1_signs hx hb hts hin1 hown hK hP (hts (.fieldLink RX1 9 "LoadedForTheLane$Letters" "signs" "[C") (by decide +kernel)) dX1_add_5 ?_
  refine n1_signs (v := 96) hx hb hK hP (by decide) dX1_add_8 ?_
  refine lv_icmp_ge (tgt := 32) hx hb dX1_add_9 (by decide) (fun c_2 => ?_) (fun c_2 => ?_)
  · have E := E.trans (if_pos c_2)
    have fc_2 := i_le c_2
    rw [q_96] at fc_2
    exact W.vret hx hb hr (fun t ht hW => ⟨⟨w, rfl, ⟨E.symm, hI⟩, by show va_P _ _ _ t.heap; rw [ht]; exact hP⟩, hS.F ht⟩) hS.2.2 dX1_add_32
  · have E := E.trans (if_neg c_2)
    have fc_2 := i_nle c_2
    rw [q_96] at fc_2
    refine lv_aload_n hx hb dX1_add_12 rfl (lv_at hl 0 rfl) ?_
    refine g1_signs hx hb hts hin1 hown hK hP (hts (.fieldLink RX1 9 "LoadedForTheLane$Letters" "signs" "[C") (by decide +kernel)) dX1_add_13 ?_
    refine lv_aload_n hx hb dX1_add_16 rfl (lv_at hl 0 rfl) ?_
    refine g1_size hx hb hts hin1 hown hK hP (hts (.fieldLink RX1 15 "LoadedForTheLane$Letters" "size" "I") (by decide +kernel)) dX1_add_17 ?_
    have f_3 := R1I_size hI
    refine lv_iload_n hx hb dX1_add_20 rfl (lv_at hl 1 rfl) ?_
    have ix_4 : vp_in (w 1 0) 96 := ix_of (by omega) (by omega)
    refine a1_signs (j := ((w 1 0).toNatClampNeg)) hx hb hK hP (LWDa hd) hS ix_4 rfl dX1_add_21 (fun H locs hP hS => ?_)
    obtain ⟨wn_4, hwn_4⟩ : ∃ x, x = st w 0 ((w 1 0).toNatClampNeg) (vp_nar .char a1) := ⟨_, rfl⟩
    rw [← hwn_4] at hP
    have E := bns_e E hwn_4
    have ft4_size : (wn_4 1 0).toInt = (w 1 0).toInt := by rw [hwn_4]; rfl
    have hI_4 : R1I wn_4 := by rw [hwn_4]; exact R1I_arr hI
    refine lv_aload_n hx hb dX1_add_22 rfl (lv_at hl 0 rfl) ?_
    refine lv_dup hx hb dX1_add_23 rfl ?_
    refine g1_size hx hb hts hin1 hown hK hP (hts (.fieldLink RX1 15 "LoadedForTheLane$Letters" "size" "I") (by decide +kernel)) dX1_add_24 ?_
    have f_5 := R1I_size hI_4
    refine lv_iconst (v := 1) hx hb dX1_add_27 (by decide) ?_
    refine lv_iadd hx hb dX1_add_28 ?_
    refine p1_size hx hb hts hin1 hown hK hP (LWDa hd) hS (hts (.fieldLink RX1 15 "LoadedForTheLane$Letters" "size" "I") (by decide +kernel)) dX1_add_29 (fun H locs hP hS => ?_)
    obtain ⟨wn_6, hwn_6⟩ : ∃ x, x = st wn_4 1 0 ((wn_4 1 0) + 1) := ⟨_, rfl⟩
    rw [← hwn_6] at hP
    have E := bns_e E hwn_6
    have ft6_size : (wn_6 1 0).toInt = ((wn_4 1 0) + 1).toInt := by rw [hwn_6]; rfl
    have := i_addr (a := wn_4 1 0) (b := 1) (n := 1) q_1 (by omega) (by omega)
    have := i_addr (a := wn_4 1 0) (b := 1) (n := 1) q_1 (by omega) (by omega)
    have hI_6 : R1I wn_6 := by rw [hwn_6]; exact R1I_put hI_4 (by omega) (by omega)
    exact W.vret hx hb hr (fun t ht hW => ⟨⟨wn_6, rfl, ⟨E.symm, hI_6⟩, by show va_P _ _ _ t.heap; rw [ht]; exact hP⟩, hS.F ht⟩) hS.2.2 dX1_add_32
abbrev rmX1_clear : Room := { frames := 0, cells := 0, slots := 0, locals := 0 }
set_option maxHeartbeats 4000000 in
set_option maxRecDepth 100000 in
theorem kX1_clear (l : Launch) (D : va_G) (cI cC cQ : ClassId) (ad : Nat → Nat) (w : Nat → Nat → Int32) (hd : LWD ad) (hI : R1I w)  : Met l yX1_clear wsX1_clear rmX1_clear (va_Pc [Value.ref (ad 0)] (fun U => va_P D vwCl (LW cC ad w) U.heap ∧ va_K D vwCl [(cI, .int), (cC, .char), (cQ, .object "LoadedForTheLane$Way")] U)) (va_Qv (fun u => u = sX1_clear w ∧ R1I u) (fun u t => va_P D vwCl (LW cC ad u) t.heap) (LWA ad)) 0 0 (LWA ad) := by
  refine Met.ofW (cc := cX1_clear) (maxL := 1) (ret := none) (by decide) rfl ?_
  intro p e s m args below meth c s₁ B hml hv
  obtain ⟨rfl, hP, hK⟩ := hv
  have hx := B.exec
  have hb := B.bytes
  have hr := B.returns
  have hts := atoms_spec (ws := wsX1_clear) B.pre
  have hown : s.vm.findClass RX1 = some m.cls := findClass_of_methodNamed B.named
  have hlocks := B.notSynchronized
  have hin1 : ∀ q ∈ wsX10, q ∈ wsX1_clear := by decide +kernel
  have hl := lv_entry ([.ref (ad 0)]) (n := 1) (Nat.le_of_ble_eq_true rfl)
  rw [lg_entry_eq]
  generalize (lg_sl ([.ref (ad 0)]) ++ List.replicate (1 - (lg_sl ([.ref (ad 0)])).length) Slot.unset).toArray = ls at hl ⊢
  have hl : lv_has ls 1 [(0, .ref (ad 0))] := hl
  suffices hgo : ∀ (H : Heap) (locs : List Loc), va_P D vwCl (LW cC ad w) H → va_S (LWA ad) s.heap H locs → W p l e (headSpec wsX1_clear rmX1_clear).room s m [Value.ref (ad 0)].toArray below meth c H locs 0 0 (MQ below (va_Qv (fun u => u = sX1_clear w ∧ R1I u) (fun u t => va_P D vwCl (LW cC ad u) t.heap) (LWA ad)) [Value.ref (ad 0)].toArray s 0 0 (LWA ad)) (F0 m 0 ls []) from hgo s.heap [] hP va_S.rf
  intro H locs hP hS
  have E := sX1_clear.eq_1 w
  refine lv_aload_n hx hb dX1_clear_0 rfl (lv_at hl 0 rfl) ?_
  refine lv_iconst (v := 0) hx hb dX1_clear_1 (by decide) ?_
  refine p1_size hx hb hts hin1 hown hK hP (LWDa hd) hS (hts (.fieldLink RX1 15 "LoadedForTheLane$Letters" "size" "I") (by decide +kernel)) dX1_clear_2 (fun H locs hP hS => ?_)
  obtain ⟨wn_1, hwn_1⟩ : ∃ x, x = st w 1 0 0 := ⟨_, rfl⟩
  rw [← hwn_1] at hP
  have E := bns_e E hwn_1
  have := q_0
  have hI_1 : R1I wn_1 := by rw [hwn_1]; exact R1I_put hI (by omega) (by omega)
  exact W.vret hx hb hr (fun t ht hW => ⟨⟨wn_1, rfl, ⟨E.symm, hI_1⟩, by show va_P _ _ _ t.heap; rw [ht]; exact hP⟩, hS.F ht⟩) hS.2.2 dX1_clear_5
abbrev rmX1_at : Room := { frames := 0, cells := 0, slots := 0, locals := 0 }
set_option maxHeartbeats 4000000 in
set_option maxRecDepth 100000 in
theorem kX1_at (l : Launch) (D : va_G) (cI cC cQ : ClassId) (ad : Nat → Nat) (w : Nat → Nat → Int32) (a1 : Int32)  (hI : R1I w)  : Met l yX1_at wsX1_at rmX1_at (va_Pc [Value.ref (ad 0), Value.int a1] (fun U => va_P D vwCl (LW cC ad w) U.heap ∧ va_K D vwCl [(cI, .int), (cC, .char), (cQ, .object "LoadedForTheLane$Way")] U)) (vp_Si (fun r => r = sX1_at w a1 ∧ 0 ≤ r.toInt ∧ r.toInt < 65536)) 0 0 (fun _ => False) := by
  refine Met.ofW (cc := cX1_at) (maxL := 2) (ret := (some .char)) (by decide) rfl ?_
  intro p e s m args below meth c s₁ B hml hv
  obtain ⟨rfl, hP, hK⟩ := hv
  have hx := B.exec
  have hb := B.bytes
  have hr := B.returns
  have hts := atoms_spec (ws := wsX1_at) B.pre
  have hown : s.vm.findClass RX1 = some m.cls := findClass_of_methodNamed B.named
  have hlocks := B.notSynchronized
  have hin1 : ∀ q ∈ wsX10, q ∈ wsX1_at := by decide +kernel
  have hl := lv_entry ([.ref (ad 0), .int a1]) (n := 2) (Nat.le_of_ble_eq_true rfl)
  rw [lg_entry_eq]
  generalize (lg_sl ([.ref (ad 0), .int a1]) ++ List.replicate (2 - (lg_sl ([.ref (ad 0), .int a1])).length) Slot.unset).toArray = ls at hl ⊢
  have hl : lv_has ls 2 [(0, .ref (ad 0)), (1, .int a1)] := hl
  have E := sX1_at.eq_1 w a1
  refine lv_iload_n hx hb dX1_at_0 rfl (lv_at hl 1 rfl) ?_
  refine lv_if_lt (tgt := 21) hx hb dX1_at_1 (by decide) (fun c_1 => ?_) (fun c_1 => ?_)
  · have E := E.trans (if_pos c_1)
    have fc_1 := i_lt c_1
    rw [q_0] at fc_1
    refine lv_iconst (v := 0) hx hb dX1_at_21 (by decide) ?_
    exact W.zret (ty := .char) (v := 0) hx hb hr (c_nar ⟨by decide, by decide⟩) (fun t ht hW => ⟨_, rfl, ⟨E.symm, ⟨by decide, by decide⟩⟩, ht⟩) (fun q hq => by cases hq) dX1_at_22
  · have E := E.trans (if_neg c_1)
    have fc_1 := i_nlt c_1
    rw [q_0] at fc_1
    refine lv_iload_n hx hb dX1_at_4 rfl (lv_at hl 1 rfl) ?_
    refine lv_aload_n hx hb dX1_at_5 rfl (lv_at hl 0 rfl) ?_
    refine g1_size hx hb hts hin1 hown hK hP (hts (.fieldLink RX1 15 "LoadedForTheLane$Letters" "size" "I") (by decide +kernel)) dX1_at_6 ?_
    have f_2 := R1I_size hI
    refine lv_icmp_ge (tgt := 21) hx hb dX1_at_9 (by decide) (fun c_3 => ?_) (fun c_3 => ?_)
    · have E := E.trans (if_pos c_3)
      have fc_3 := i_le c_3
      refine lv_iconst (v := 0) hx hb dX1_at_21 (by decide) ?_
      exact W.zret (ty := .char) (v := 0) hx hb hr (c_nar ⟨by decide, by decide⟩) (fun t ht hW => ⟨_, rfl, ⟨E.symm, ⟨by decide, by decide⟩⟩, ht⟩) (fun q hq => by cases hq) dX1_at_22
    · have E := E.trans (if_neg c_3)
      have fc_3 := i_nle c_3
      refine lv_aload_n hx hb dX1_at_12 rfl (lv_at hl 0 rfl) ?_
      refine g1_signs hx hb hts hin1 hown hK hP (hts (.fieldLink RX1 9 "LoadedForTheLane$Letters" "signs" "[C") (by decide +kernel)) dX1_at_13 ?_
      refine lv_iload_n hx hb dX1_at_16 rfl (lv_at hl 1 rfl) ?_
      have ix_4 : vp_in a1 96 := ix_of (by omega) (by omega)
      refine l1_signs (j := (a1.toNatClampNeg)) hx hb hK hP ix_4 rfl dX1_at_17 ?_
      refine lv_goto (tgt := 22) hx hb dX1_at_18 (by decide) ?_
      exact W.zret (ty := .char) (v := w 0 (a1.toNatClampNeg)) hx hb hr (c_nar (hI.2 (a1.toNatClampNeg))) (fun t ht hW => ⟨_, rfl, ⟨E.symm, (hI.2 (a1.toNatClampNeg))⟩, ht⟩) (fun q hq => by cases hq) dX1_at_22
abbrev rmX1_digit : Room := { frames := 1, cells := 0, slots := 0, locals := 21 }
set_option maxHeartbeats 4000000 in
set_option maxRecDepth 100000 in
theorem kX1_digit (l : Launch) (D : va_G) (cI cC cQ : ClassId) (ad : Nat → Nat) (w : Nat → Nat → Int32) (a1 : Int32)  (hI : R1I w)  : Met l yX1_digit wsX1_digit rmX1_digit (va_Pc [Value.ref (ad 0), Value.int a1] (fun U => va_P D vwCl (LW cC ad w) U.heap ∧ va_K D vwCl [(cI, .int), (cC, .char), (cQ, .object "LoadedForTheLane$Way")] U)) (vp_Si (fun r => r = sX1_digit w a1)) 0 0 (fun _ => False) := by
  refine Met.ofW (cc := cX1_digit) (maxL := 2) (ret := (some .int)) (by decide) rfl ?_
  intro p e s m args below meth c s₁ B hml hv
  obtain ⟨rfl, hP, hK⟩ := hv
  have hx := B.exec
  have hb := B.bytes
  have hr := B.returns
  have hts := atoms_spec (ws := wsX1_digit) B.pre
  have hown : s.vm.findClass RX1 = some m.cls := findClass_of_methodNamed B.named
  have hlocks := B.notSynchronized
  have hl := lv_entry ([.ref (ad 0), .int a1]) (n := 2) (Nat.le_of_ble_eq_true rfl)
  rw [lg_entry_eq]
  generalize (lg_sl ([.ref (ad 0), .int a1]) ++ List.replicate (2 - (lg_sl ([.ref (ad 0), .int a1])).length) Slot.unset).toArray = ls at hl ⊢
  have hl : lv_has ls 2 [(0, .ref (ad 0)), (1, .int a1)] := hl
  have E := sX1_digit.eq_1 w a1
  refine lv_aload_n hx hb dX1_digit_0 rfl (lv_at hl 0 rfl) ?_
  refine lv_iload_n hx hb dX1_digit_1 rfl (lv_at hl 1 rfl) ?_
  refine vp_callSi (va_Run.run (va_runV (As := [.int a1]) (rest := []) ⟨hx, hb, hml, hown, hts⟩ (kX1_at l D cI cC cQ ad w a1 hI) (cwV 1 hts gX1_digit_X1_at rfl rfl rfl mdX1_at ⟨Nat.le_of_ble_eq_true rfl, Nat.le_of_ble_eq_true rfl⟩) (x1_pre hK hP) rfl rfl hl.1 rfl (lv_room (Nat.le_of_ble_eq_true rfl)) dX1_digit_2 ⟨Nat.zero_le _, Nat.zero_le _⟩)) (fun rn_1 hr_1 => ?_)
  obtain ⟨rfl, hc_1⟩ := hr_1
  refine vp_callSi (va_Run.run (va_runS (As := [.int (sX1_at w a1)]) (rest := []) ⟨hx, hb, hml, hown, hts⟩ (kX1_isDigit l (sX1_at w a1)) (va_cwS 1 hts gX1_digit_X1_isDigit rfl rfl rfl mdsX1_isDigit ⟨Nat.le_of_ble_eq_true rfl, Nat.le_of_ble_eq_true rfl⟩) s_pre rfl rfl hl.1 rfl (lv_room (Nat.le_of_ble_eq_true rfl)) dX1_digit_5 ⟨Nat.zero_le _, Nat.zero_le _⟩)) (fun rn_2 hr_2 => ?_)
  obtain ⟨rfl, hz_2⟩ := hr_2
  refine lv_if_eq (tgt := 22) hx hb dX1_digit_8 (by decide) (fun c_3 => ?_) (fun c_3 => ?_)
  · have E := E.trans (if_pos c_3)
    have fc_3 := i_eq c_3
    rw [q_0] at fc_3
    refine lv_iconst (v := 0) hx hb dX1_digit_22 (by decide) ?_
    exact W.iret (v := 0) hx hb hr (fun t ht hW => ⟨_, rfl, E.symm, ht⟩) (fun q hq => by cases hq) dX1_digit_23
  · have E := E.trans (if_neg c_3)
    have fc_3 := i_ne c_3
    rw [q_0] at fc_3
    refine lv_aload_n hx hb dX1_digit_11 rfl (lv_at hl 0 rfl) ?_
    refine lv_iload_n hx hb dX1_digit_12 rfl (lv_at hl 1 rfl) ?_
    refine vp_callSi (va_Run.run (va_runV (As := [.int a1]) (rest := []) ⟨hx, hb, hml, hown, hts⟩ (kX1_at l D cI cC cQ ad w a1 hI) (cwV 1 hts gX1_digit_X1_at rfl rfl rfl mdX1_at ⟨Nat.le_of_ble_eq_true rfl, Nat.le_of_ble_eq_true rfl⟩) (x1_pre hK hP) rfl rfl hl.1 rfl (lv_room (Nat.le_of_ble_eq_true rfl)) dX1_digit_13 ⟨Nat.zero_le _, Nat.zero_le _⟩)) (fun rn_4 hr_4 => ?_)
    obtain ⟨rfl, hc_4⟩ := hr_4
    refine lv_bipush (v := 48) hx hb dX1_digit_16 (by decide +kernel) ?_
    refine lv_isub hx hb dX1_digit_18 ?_
    refine lv_goto (tgt := 23) hx hb dX1_digit_19 (by decide) ?_
    exact W.iret (v := (sX1_at w a1) - 48) hx hb hr (fun t ht hW => ⟨_, rfl, E.symm, ht⟩) (fun q hq => by cases hq) dX1_digit_23
abbrev rmX1_number : Room := { frames := 2, cells := 0, slots := 0, locals := 42 }
set_option maxHeartbeats 4000000 in
set_option maxRecDepth 100000 in
theorem kX1_number (l : Launch) (D : va_G) (cI cC cQ : ClassId) (ad : Nat → Nat) (w : Nat → Nat → Int32) (a1 : Int32) (a2 : Int32)  (hI : R1I w) (h1 : 0 ≤ a2.toInt) (h2 : a2.toInt ≤ 3) : Met l yX1_number wsX1_number rmX1_number (va_Pc [Value.ref (ad 0), Value.int a1, Value.int a2] (fun U => va_P D vwCl (LW cC ad w) U.heap ∧ va_K D vwCl [(cI, .int), (cC, .char), (cQ, .object "LoadedForTheLane$Way")] U)) (vp_Si (fun r => r = sX1_number w a1 a2)) 0 0 (fun _ => False) := by
  refine Met.ofW (cc := cX1_number) (maxL := 5) (ret := (some .int)) (by decide) rfl ?_
  intro p e s m args below meth c s₁ B hml hv
  obtain ⟨rfl, hP, hK⟩ := hv
  have hx := B.exec
  have hb := B.bytes
  have hr := B.returns
  have hts := atoms_spec (ws := wsX1_number) B.pre
  have hown : s.vm.findClass RX1 = some m.cls := findClass_of_methodNamed B.named
  have hlocks := B.notSynchronized
  have hl := lv_entry ([.ref (ad 0), .int a1, .int a2]) (n := 5) (Nat.le_of_ble_eq_true rfl)
  rw [lg_entry_eq]
  generalize (lg_sl ([.ref (ad 0), .int a1, .int a2]) ++ List.replicate (5 - (lg_sl ([.ref (ad 0), .int a1, .int a2])).length) Slot.unset).toArray = ls at hl ⊢
  have hl : lv_has ls 5 [(0, .ref (ad 0)), (1, .int a1), (2, .int a2)] := hl
  have E := sX1_number.eq_1 w a1 a2
  refine lv_iconst (v := 0) hx hb dX1_number_0 (by decide) ?_
  refine lv_istore_n (lv' := [(3, .int 0), (0, .ref (ad 0)), (1, .int a1), (2, .int a2)]) hx hb dX1_number_1 rfl hl (by decide) rfl (fun ls hl => ?_)
  refine lv_iconst (v := 0) hx hb dX1_number_2 (by decide) ?_
  refine lv_istore (lv' := [(4, .int 0), (3, .int 0), (0, .ref (ad 0)), (1, .int a1), (2, .int a2)]) hx hb dX1_number_3 hl (by decide) rfl (fun ls hl => ?_)
  have L_5 : ∀ (n_5 : Nat) (x3_5 : Int32) (x4_5 : Int32) (ls : Array Slot), ((0 ≤ x4_5.toInt) ∧ (x4_5.toInt ≤ a2.toInt)) → (a2.toInt - x4_5.toInt < (n_5 : Int)) → lv_has ls 5 [(4, .int x4_5), (3, .int x3_5), (0, .ref (ad 0)), (1, .int a1), (2, .int a2)] → sX1_number w a1 a2 = sX1_number_5 w a1 a2 n_5 x3_5 x4_5 → W p l e (headSpec wsX1_number rmX1_number).room s m [Value.ref (ad 0), Value.int a1, Value.int a2].toArray below meth c s.heap [] 0 0 (MQ below (vp_Si (fun r => r = sX1_number w a1 a2)) [Value.ref (ad 0), Value.int a1, Value.int a2].toArray s 0 0 (fun _ => False)) (F0 m 5 ls []) := by
    intro n_5
    induction n_5 with
    | zero =>
      intro x3_5 x4_5 ls hinv hm
      obtain ⟨v0_5, v1_5⟩ := hinv
      exact absurd hm (by omega)
    | succ n_5 ih_5 =>
      intro x3_5 x4_5 ls hinv hm_5 hl E
      obtain ⟨v0_5, v1_5⟩ := hinv
      have E := E.trans (sX1_number_5.eq_2 ..)
      refine lv_iload hx hb dX1_number_5 (lv_at hl 0 rfl) ?_
      refine lv_iload_n hx hb dX1_number_7 rfl (lv_at hl 4 rfl) ?_
      refine lv_icmp_ge (tgt := 45) hx hb dX1_number_8 (by decide) (fun c_1 => ?_) (fun c_1 => ?_)
      · have E := E.trans (if_pos c_1)
        have fc_1 := i_le c_1
        refine lv_iload_n hx hb dX1_number_45 rfl (lv_at hl 1 rfl) ?_
        exact W.iret (v := x3_5) hx hb hr (fun t ht hW => ⟨_, rfl, E.symm, ht⟩) (fun q hq => by cases hq) dX1_number_46
      · have E := E.trans (if_neg c_1)
        have fc_1 := i_nle c_1
        refine lv_aload_n hx hb dX1_number_11 rfl (lv_at hl 2 rfl) ?_
        refine lv_iload_n hx hb dX1_number_12 rfl (lv_at hl 3 rfl) ?_
        refine lv_iload hx hb dX1_number_13 (lv_at hl 0 rfl) ?_
        refine lv_iadd hx hb dX1_number_15 ?_
        refine vp_callSi (va_Run.run (va_runV (As := [.int (a1 + x4_5)]) (rest := []) ⟨hx, hb, hml, hown, hts⟩ (kX1_at l D cI cC cQ ad w (a1 + x4_5) hI) (cwV 1 hts gX1_number_X1_at rfl rfl rfl mdX1_at ⟨Nat.le_of_ble_eq_true rfl, Nat.le_of_ble_eq_true rfl⟩) (x1_pre hK hP) rfl rfl hl.1 rfl (lv_room (Nat.le_of_ble_eq_true rfl)) dX1_number_16 ⟨Nat.zero_le _, Nat.zero_le _⟩)) (fun rn_2 hr_2 => ?_)
        obtain ⟨rfl, hc_2⟩ := hr_2
        refine vp_callSi (va_Run.run (va_runS (As := [.int (sX1_at w (a1 + x4_5))]) (rest := []) ⟨hx, hb, hml, hown, hts⟩ (kX1_isDigit l (sX1_at w (a1 + x4_5))) (va_cwS 1 hts gX1_number_X1_isDigit rfl rfl rfl mdsX1_isDigit ⟨Nat.le_of_ble_eq_true rfl, Nat.le_of_ble_eq_true rfl⟩) s_pre rfl rfl hl.1 rfl (lv_room (Nat.le_of_ble_eq_true rfl)) dX1_number_19 ⟨Nat.zero_le _, Nat.zero_le _⟩)) (fun rn_3 hr_3 => ?_)
        obtain ⟨rfl, hz_3⟩ := hr_3
        refine lv_if_eq (tgt := 45) hx hb dX1_number_22 (by decide) (fun c_4 => ?_) (fun c_4 => ?_)
        · have E := E.trans (if_pos c_4)
          have fc_4 := i_eq c_4
          rw [q_0] at fc_4
          refine lv_iload_n hx hb dX1_number_45 rfl (lv_at hl 1 rfl) ?_
          exact W.iret (v := x3_5) hx hb hr (fun t ht hW => ⟨_, rfl, E.symm, ht⟩) (fun q hq => by cases hq) dX1_number_46
        · have E := E.trans (if_neg c_4)
          have fc_4 := i_ne c_4
          rw [q_0] at fc_4
          refine lv_iload_n hx hb dX1_number_25 rfl (lv_at hl 1 rfl) ?_
          refine lv_bipush (v := 10) hx hb dX1_number_26 (by decide +kernel) ?_
          refine lv_imul hx hb dX1_number_28 ?_
          refine lv_aload_n hx hb dX1_number_29 rfl (lv_at hl 2 rfl) ?_
          refine lv_iload_n hx hb dX1_number_30 rfl (lv_at hl 3 rfl) ?_
          refine lv_iload hx hb dX1_number_31 (lv_at hl 0 rfl) ?_
          refine lv_iadd hx hb dX1_number_33 ?_
          refine vp_callSi (va_Run.run (va_runV (As := [.int (a1 + x4_5)]) (rest := [.int (x3_5 * 10)]) ⟨hx, hb, hml, hown, hts⟩ (kX1_digit l D cI cC cQ ad w (a1 + x4_5) hI) (cwV 1 hts gX1_number_X1_digit rfl rfl rfl mdX1_digit ⟨Nat.le_of_ble_eq_true rfl, Nat.le_of_ble_eq_true rfl⟩) (x1_pre hK hP) rfl rfl hl.1 rfl (lv_room (Nat.le_of_ble_eq_true rfl)) dX1_number_34 ⟨Nat.zero_le _, Nat.zero_le _⟩)) (fun rn_5 hr_5 => ?_)
          subst hr_5
          refine lv_iadd hx hb dX1_number_37 ?_
          refine lv_istore_n (lv' := [(3, .int ((x3_5 * 10) + (sX1_digit w (a1 + x4_5)))), (4, .int x4_5), (0, .ref (ad 0)), (1, .int a1), (2, .int a2)]) hx hb dX1_number_38 rfl hl (by decide) rfl (fun ls hl => ?_)
          refine lv_iinc (v := x4_5 + 1) (lv' := [(4, .int (x4_5 + 1)), (3, .int ((x3_5 * 10) + (sX1_digit w (a1 + x4_5)))), (0, .ref (ad 0)), (1, .int a1), (2, .int a2)]) hx hb dX1_number_39 hl (k := 1) rfl rfl (by decide) rfl (fun ls hl => ?_)
          refine lv_goto (tgt := 5) hx hb dX1_number_42 (by decide) ?_
          try have := i_addr (a := x4_5) (b := 1) (n := 1) q_1 (by omega) (by omega)
          exact ih_5 ((x3_5 * 10) + (sX1_digit w (a1 + x4_5))) (x4_5 + 1) ls ⟨by omega, by omega⟩ (by omega) (lv_sub hl [0, 1, 2, 3, 4] rfl) E
  have := q_0
  exact L_5 4 0 0 ls ⟨by omega, by omega⟩ (by omega) (lv_sub hl [0, 1, 2, 3, 4] rfl) E
abbrev rmX6_refuse : Room := { frames := 0, cells := 0, slots := 0, locals := 0 }
set_option maxHeartbeats 4000000 in
set_option maxRecDepth 100000 in
theorem kX6_refuse (l : Launch) (D : va_G) (cI cC cQ : ClassId) (ad : Nat → Nat → Nat) (sd aK aV : Nat → Nat) (w : Nat → Nat → Nat → Int32) (a1 : Int32) (hd : MD ad) (hI : R6I w)  : Met l yX6_refuse wsX6_refuse rmX6_refuse (va_Pc [Value.ref (ad 5 0), Value.int a1] (fun U => va_P D vwCl (MWL cI cC cQ ad w) U.heap ∧ va_K D vwCl [(cI, .int), (cC, .char), (cQ, .object "LoadedForTheLane$Way")] U ∧ NW U ∧ SE sd (MA ad) U U.heap ∧ STR aK aV (MA ad) U U.heap)) (va_Qi (fun r u => (r, u) = sX6_refuse w a1 ∧ R6I u) (fun u t => va_P D vwCl (MWL cI cC cQ ad u) t.heap) (MA ad)) 0 0 (MA ad) := by
  refine Met.ofW (cc := cX6_refuse) (maxL := 3) (ret := (some .int)) (by decide) rfl ?_
  intro p e s m args below meth c s₁ B hml hv
  obtain ⟨rfl, hP, hK, hN, hSE, hST⟩ := hv
  have hx := B.exec
  have hb := B.bytes
  have hr := B.returns
  have hts := atoms_spec (ws := wsX6_refuse) B.pre
  have hown : s.vm.findClass RX6 = some m.cls := findClass_of_methodNamed B.named
  have hlocks := B.notSynchronized
  have hin6 : ∀ q ∈ wsX60, q ∈ wsX6_refuse := by decide +kernel
  have hl := lv_entry ([.ref (ad 5 0), .int a1]) (n := 3) (Nat.le_of_ble_eq_true rfl)
  rw [lg_entry_eq]
  generalize (lg_sl ([.ref (ad 5 0), .int a1]) ++ List.replicate (3 - (lg_sl ([.ref (ad 5 0), .int a1])).length) Slot.unset).toArray = ls at hl ⊢
  have hl : lv_has ls 3 [(0, .ref (ad 5 0)), (1, .int a1)] := hl
  suffices hgo : ∀ (H : Heap) (locs : List Loc), va_P D vwCl (MWL cI cC cQ ad w) H → va_S (MA ad) s.heap H locs → W p l e (headSpec wsX6_refuse rmX6_refuse).room s m [Value.ref (ad 5 0), Value.int a1].toArray below meth c H locs 0 0 (MQ below (va_Qi (fun r u => (r, u) = sX6_refuse w a1 ∧ R6I u) (fun u t => va_P D vwCl (MWL cI cC cQ ad u) t.heap) (MA ad)) [Value.ref (ad 5 0), Value.int a1].toArray s 0 0 (MA ad)) (F0 m 0 ls []) from hgo s.heap [] hP va_S.rf
  intro H locs hP hS
  have E := sX6_refuse.eq_1 w a1
  refine lv_iload_n hx hb dX6_refuse_0 rfl (lv_at hl 1 rfl) ?_
  refine lv_ineg hx hb dX6_refuse_1 ?_
  refine lv_istore_n (lv' := [(2, .int (-a1)), (0, .ref (ad 5 0)), (1, .int a1)]) hx hb dX6_refuse_2 rfl hl (by decide) rfl (fun ls hl => ?_)
  refine lv_iload_n hx hb dX6_refuse_3 rfl (lv_at hl 0 rfl) ?_
  refine lv_if_le (tgt := 26) hx hb dX6_refuse_4 (by decide) (fun c_1 => ?_) (fun c_1 => ?_)
  · have E := E.trans (if_pos c_1)
    have fc_1 := i_le c_1
    rw [q_0] at fc_1
    refine lv_iload_n hx hb dX6_refuse_26 rfl (lv_at hl 2 rfl) ?_
    exact W.iret (v := a1) hx hb hr (fun t ht hW => ⟨⟨_, w, rfl, ⟨E.symm, hI⟩, by show va_P _ _ _ t.heap; rw [ht]; exact hP⟩, hS.F ht⟩) hS.2.2 dX6_refuse_27
  · have E := E.trans (if_neg c_1)
    have fc_1 := i_nle c_1
    rw [q_0] at fc_1
    refine lv_iload_n hx hb dX6_refuse_7 rfl (lv_at hl 0 rfl) ?_
    refine lv_aload_n hx hb dX6_refuse_8 rfl (lv_at hl 1 rfl) ?_
    refine g6_refusals hx hb hts hin6 hown hK hP (hts (.fieldLink RX6 40 "LoadedForTheLane" "refusals" "[I") (by decide +kernel)) dX6_refuse_9 ?_
    refine n6_refusals (v := 7) hx hb hK hP (by decide) dX6_refuse_12 ?_
    refine lv_icmp_ge (tgt := 26) hx hb dX6_refuse_13 (by decide) (fun c_2 => ?_) (fun c_2 => ?_)
    · have E := E.trans (if_pos c_2)
      have fc_2 := i_le c_2
      rw [q_7] at fc_2
      refine lv_iload_n hx hb dX6_refuse_26 rfl (lv_at hl 2 rfl) ?_
      exact W.iret (v := a1) hx hb hr (fun t ht hW => ⟨⟨_, w, rfl, ⟨E.symm, hI⟩, by show va_P _ _ _ t.heap; rw [ht]; exact hP⟩, hS.F ht⟩) hS.2.2 dX6_refuse_27
    · have E := E.trans (if_neg c_2)
      have fc_2 := i_nle c_2
      rw [q_7] at fc_2
      refine lv_aload_n hx hb dX6_refuse_16 rfl (lv_at hl 1 rfl) ?_
      refine g6_refusals hx hb hts hin6 hown hK hP (hts (.fieldLink RX6 40 "LoadedForTheLane" "refusals" "[I") (by decide +kernel)) dX6_refuse_17 ?_
      refine lv_iload_n hx hb dX6_refuse_20 rfl (lv_at hl 0 rfl) ?_
      refine lv_dup2_11 hx hb dX6_refuse_21 rfl rfl ?_
      try have := i_neg (a := a1) (by omega)
      have ix_3 : vp_in (-a1) 7 := ix_of (by omega) (by omega)
      refine l6_refusals (j := ((-a1).toNatClampNeg)) hx hb hK hP ix_3 rfl dX6_refuse_22 ?_
      refine lv_iconst (v := 1) hx hb dX6_refuse_23 (by decide) ?_
      refine lv_iadd hx hb dX6_refuse_24 ?_
      try have := i_neg (a := a1) (by omega)
      have ix_4 : vp_in (-a1) 7 := ix_of (by omega) (by omega)
      refine a6_refusals (j := ((-a1).toNatClampNeg)) hx hb hK hP hd hS ix_4 rfl dX6_refuse_25 (fun H locs hP hS => ?_)
      obtain ⟨wn_4, hwn_4⟩ : ∃ x, x = sc w 5 (st (w 5) 0 ((-a1).toNatClampNeg) ((w 5 0 ((-a1).toNatClampNeg)) + 1)) := ⟨_, rfl⟩
      rw [← hwn_4] at hP
      have E := bns_e E hwn_4
      have hI_4 : R6I wn_4 := by rw [hwn_4]; exact R6I_5 hI
      refine lv_iload_n hx hb dX6_refuse_26 rfl (lv_at hl 2 rfl) ?_
      exact W.iret (v := a1) hx hb hr (fun t ht hW => ⟨⟨_, wn_4, rfl, ⟨E.symm, hI_4⟩, by show va_P _ _ _ t.heap; rw [ht]; exact hP⟩, hS.F ht⟩) hS.2.2 dX6_refuse_27
abbrev rmX6_refuseWide : Room := { frames := 1, cells := 0, slots := 0, locals := 22 }
set_option maxHeartbeats 4000000 in
set_option maxRecDepth 100000 in
theorem kX6_refuseWide (l : Launch) (D : va_G) (cI cC cQ : ClassId) (ad : Nat → Nat → Nat) (sd aK aV : Nat → Nat) (w : Nat → Nat → Nat → Int32) (a1 : Int32) (hd : MD ad) (hI : R6I w)  : Met l yX6_refuseWide wsX6_refuseWide rmX6_refuseWide (va_Pc [Value.ref (ad 5 0), Value.int a1] (fun U => va_P D vwCl (MWL cI cC cQ ad w) U.heap ∧ va_K D vwCl [(cI, .int), (cC, .char), (cQ, .object "LoadedForTheLane$Way")] U ∧ NW U ∧ SE sd (MA ad) U U.heap ∧ STR aK aV (MA ad) U U.heap)) (va_Qi (fun r u => (r, u) = sX6_refuseWide w a1 ∧ R6I u) (fun u t => va_P D vwCl (MWL cI cC cQ ad u) t.heap) (MA ad)) 0 0 (MA ad) := by
  refine Met.ofW (cc := cX6_refuseWide) (maxL := 2) (ret := (some .int)) (by decide) rfl ?_
  intro p e s m args below meth c s₁ B hml hv
  obtain ⟨rfl, hP, hK, hN, hSE, hST⟩ := hv
  have hx := B.exec
  have hb := B.bytes
  have hr := B.returns
  have hts := atoms_spec (ws := wsX6_refuseWide) B.pre
  have hown : s.vm.findClass RX6 = some m.cls := findClass_of_methodNamed B.named
  have hlocks := B.notSynchronized
  have hl := lv_entry ([.ref (ad 5 0), .int a1]) (n := 2) (Nat.le_of_ble_eq_true rfl)
  rw [lg_entry_eq]
  generalize (lg_sl ([.ref (ad 5 0), .int a1]) ++ List.replicate (2 - (lg_sl ([.ref (ad 5 0), .int a1])).length) Slot.unset).toArray = ls at hl ⊢
  have hl : lv_has ls 2 [(0, .ref (ad 5 0)), (1, .int a1)] := hl
  suffices hgo : ∀ (H : Heap) (locs : List Loc), va_P D vwCl (MWL cI cC cQ ad w) H → va_S (MA ad) s.heap H locs → W p l e (headSpec wsX6_refuseWide rmX6_refuseWide).room s m [Value.ref (ad 5 0), Value.int a1].toArray below meth c H locs 0 0 (MQ below (va_Qi (fun r u => (r, u) = sX6_refuseWide w a1 ∧ R6I u) (fun u t => va_P D vwCl (MWL cI cC cQ ad u) t.heap) (MA ad)) [Value.ref (ad 5 0), Value.int a1].toArray s 0 0 (MA ad)) (F0 m 0 ls []) from hgo s.heap [] hP va_S.rf
  intro H locs hP hS
  have E := sX6_refuseWide.eq_1 w a1
  refine lv_ldcw (own := RX6) (v := 1000000000) hx hb hown (hts (.constant RX6 279 (1000000000)) (by decide +kernel)) dX6_refuseWide_0 ?_
  refine lv_aload_n hx hb dX6_refuseWide_3 rfl (lv_at hl 0 rfl) ?_
  refine lv_iload_n hx hb dX6_refuseWide_4 rfl (lv_at hl 1 rfl) ?_
  refine va_calli (va_runV (As := [.int a1]) (rest := [.int 1000000000]) ⟨hx, hb, hml, hown, hts⟩ (kX6_refuse l D cI cC cQ ad sd aK aV w a1 hd hI) (cwV 1 hts gX6_refuseWide_X6_refuse rfl rfl rfl mdX6_refuse ⟨Nat.le_of_ble_eq_true rfl, Nat.le_of_ble_eq_true rfl⟩) (x6_pre hK hP hN hSE hST hS) rfl rfl hl.1 rfl (lv_room (Nat.le_of_ble_eq_true rfl)) dX6_refuseWide_5 ⟨Nat.zero_le _, Nat.zero_le _⟩) hS (fun _ _ h => h) (fun _ h => h) (fun rn_1 wn_1 t H locs ht hvm hp_1 hB hz hfr hS => ?_)
  obtain ⟨hp_1, hJ_1⟩ := hp_1
  have E := bnd_e E hp_1
  have hP : va_P D vwCl (MWL cI cC cQ ad wn_1) H := ht ▸ hB
  refine lv_isub hx hb dX6_refuseWide_8 ?_
  exact W.iret (v := 1000000000 - rn_1) hx hb hr (fun t ht hW => ⟨⟨_, wn_1, rfl, ⟨E.symm, hJ_1⟩, by show va_P _ _ _ t.heap; rw [ht]; exact hP⟩, hS.F ht⟩) hS.2.2 dX6_refuseWide_9
abbrev rmX6_refuseLong : Room := { frames := 1, cells := 0, slots := 0, locals := 22 }
set_option maxHeartbeats 4000000 in
set_option maxRecDepth 100000 in
theorem kX6_refuseLong (l : Launch) (D : va_G) (cI cC cQ : ClassId) (ad : Nat → Nat → Nat) (sd aK aV : Nat → Nat) (w : Nat → Nat → Nat → Int32) (a1 : Int32) (hd : MD ad) (hI : R6I w)  : Met l yX6_refuseLong wsX6_refuseLong rmX6_refuseLong (va_Pc [Value.ref (ad 5 0), Value.int a1] (fun U => va_P D vwCl (MWL cI cC cQ ad w) U.heap ∧ va_K D vwCl [(cI, .int), (cC, .char), (cQ, .object "LoadedForTheLane$Way")] U ∧ NW U ∧ SE sd (MA ad) U U.heap ∧ STR aK aV (MA ad) U U.heap)) (va_Ql (fun r u => (r, u) = sX6_refuseLong w a1 ∧ R6I u) (fun u t => va_P D vwCl (MWL cI cC cQ ad u) t.heap) (MA ad)) 0 0 (MA ad) := by
  refine Met.ofW (cc := cX6_refuseLong) (maxL := 2) (ret := (some .long)) (by decide) rfl ?_
  intro p e s m args below meth c s₁ B hml hv
  obtain ⟨rfl, hP, hK, hN, hSE, hST⟩ := hv
  have hx := B.exec
  have hb := B.bytes
  have hr := B.returns
  have hts := atoms_spec (ws := wsX6_refuseLong) B.pre
  have hown : s.vm.findClass RX6 = some m.cls := findClass_of_methodNamed B.named
  have hlocks := B.notSynchronized
  have hl := lv_entry ([.ref (ad 5 0), .int a1]) (n := 2) (Nat.le_of_ble_eq_true rfl)
  rw [lg_entry_eq]
  generalize (lg_sl ([.ref (ad 5 0), .int a1]) ++ List.replicate (2 - (lg_sl ([.ref (ad 5 0), .int a1])).length) Slot.unset).toArray = ls at hl ⊢
  have hl : lv_has ls 2 [(0, .ref (ad 5 0)), (1, .int a1)] := hl
  suffices hgo : ∀ (H : Heap) (locs : List Loc), va_P D vwCl (MWL cI cC cQ ad w) H → va_S (MA ad) s.heap H locs → W p l e (headSpec wsX6_refuseLong rmX6_refuseLong).room s m [Value.ref (ad 5 0), Value.int a1].toArray below meth c H locs 0 0 (MQ below (va_Ql (fun r u => (r, u) = sX6_refuseLong w a1 ∧ R6I u) (fun u t => va_P D vwCl (MWL cI cC cQ ad u) t.heap) (MA ad)) [Value.ref (ad 5 0), Value.int a1].toArray s 0 0 (MA ad)) (F0 m 0 ls []) from hgo s.heap [] hP va_S.rf
  intro H locs hP hS
  have E := sX6_refuseLong.eq_1 w a1
  refine lv_ldc2 (own := RX6) (v := 4000000000000000000) hx hb hown (hts (.constantLong RX6 280 (4000000000000000000)) (by decide +kernel)) dX6_refuseLong_0 ?_
  refine lv_aload_n hx hb dX6_refuseLong_3 rfl (lv_at hl 0 rfl) ?_
  refine lv_iload_n hx hb dX6_refuseLong_4 rfl (lv_at hl 1 rfl) ?_
  refine va_calli (va_runV (As := [.int a1]) (rest := [.long 4000000000000000000]) ⟨hx, hb, hml, hown, hts⟩ (kX6_refuse l D cI cC cQ ad sd aK aV w a1 hd hI) (cwV 1 hts gX6_refuseLong_X6_refuse rfl rfl rfl mdX6_refuse ⟨Nat.le_of_ble_eq_true rfl, Nat.le_of_ble_eq_true rfl⟩) (x6_pre hK hP hN hSE hST hS) rfl rfl hl.1 rfl (lv_room (Nat.le_of_ble_eq_true rfl)) dX6_refuseLong_5 ⟨Nat.zero_le _, Nat.zero_le _⟩) hS (fun _ _ h => h) (fun _ h => h) (fun rn_1 wn_1 t H locs ht hvm hp_1 hB hz hfr hS => ?_)
  obtain ⟨hp_1, hJ_1⟩ := hp_1
  have E := bnd_e E hp_1
  have hP : va_P D vwCl (MWL cI cC cQ ad wn_1) H := ht ▸ hB
  refine lv_i2l (v := rn_1.toInt64) hx hb dX6_refuseLong_8 rfl ?_
  refine lv_lsub hx hb dX6_refuseLong_9 ?_
  exact W.lret (v := 4000000000000000000 - rn_1.toInt64) hx hb hr (fun t ht hW => ⟨⟨_, wn_1, rfl, ⟨E.symm, hJ_1⟩, by show va_P _ _ _ t.heap; rw [ht]; exact hP⟩, hS.F ht⟩) hS.2.2 dX6_refuseLong_10
abbrev rmX6_commonDivisor : Room := { frames := 0, cells := 0, slots := 0, locals := 0 }
set_option maxHeartbeats 4000000 in
set_option maxRecDepth 100000 in
theorem kX6_commonDivisor (l : Launch)  (a1 : Int32)   : Met l yX6_commonDivisor wsX6_commonDivisor rmX6_commonDivisor (va_Pc [Value.int a1] (fun U => True)) (vp_Si (fun r => r = sX6_commonDivisor a1)) 0 0 (fun _ => False) := by
  refine Met.ofW (cc := cX6_commonDivisor) (maxL := 2) (ret := (some .int)) (by decide) rfl ?_
  intro p e s m args below meth c s₁ B hml hv
  obtain ⟨rfl, -⟩ := hv
  have hx := B.exec
  have hb := B.bytes
  have hr := B.returns
  have hts := atoms_spec (ws := wsX6_commonDivisor) B.pre
  have hown : s.vm.findClass RX6 = some m.cls := findClass_of_methodNamed B.named
  have hlocks := B.notSynchronized
  have hl := lv_entry ([.int a1]) (n := 2) (Nat.le_of_ble_eq_true rfl)
  rw [lg_entry_eq]
  generalize (lg_sl ([.int a1]) ++ List.replicate (2 - (lg_sl ([.int a1])).length) Slot.unset).toArray = ls at hl ⊢
  have hl : lv_has ls 2 [(0, .int a1)] := hl
  have E := sX6_commonDivisor.eq_1 a1
  refine lv_bipush (v := 10) hx hb dX6_commonDivisor_0 (by decide +kernel) ?_
  refine lv_istore_n (lv' := [(1, .int 10), (0, .int a1)]) hx hb dX6_commonDivisor_2 rfl hl (by decide) rfl (fun ls hl => ?_)
  have L_3 : ∀ (n_3 : Nat) (x1_3 : Int32) (ls : Array Slot), ((1 ≤ x1_3.toInt) ∧ (x1_3.toInt ≤ 10)) → (x1_3.toInt < (n_3 : Int)) → lv_has ls 2 [(1, .int x1_3), (0, .int a1)] → sX6_commonDivisor a1 = sX6_commonDivisor_3 a1 n_3 x1_3 → W p l e (headSpec wsX6_commonDivisor rmX6_commonDivisor).room s m [Value.int a1].toArray below meth c s.heap [] 0 0 (MQ below (vp_Si (fun r => r = sX6_commonDivisor a1)) [Value.int a1].toArray s 0 0 (fun _ => False)) (F0 m 3 ls []) := by
    intro n_3
    induction n_3 with
    | zero =>
      intro x1_3 ls hinv hm
      obtain ⟨v0_3, v1_3⟩ := hinv
      exact absurd hm (by omega)
    | succ n_3 ih_3 =>
      intro x1_3 ls hinv hm_3 hl E
      obtain ⟨v0_3, v1_3⟩ := hinv
      have E := E.trans (sX6_commonDivisor_3.eq_2 ..)
      refine lv_iload_n hx hb dX6_commonDivisor_3 rfl (lv_at hl 0 rfl) ?_
      refine lv_iconst (v := 1) hx hb dX6_commonDivisor_4 (by decide) ?_
      refine lv_icmp_le (tgt := 29) hx hb dX6_commonDivisor_5 (by decide) (fun c_1 => ?_) (fun c_1 => ?_)
      · have E := E.trans (if_pos c_1)
        have fc_1 := i_le c_1
        rw [q_1] at fc_1
        refine lv_iconst (v := 1) hx hb dX6_commonDivisor_29 (by decide) ?_
        exact W.iret (v := 1) hx hb hr (fun t ht hW => ⟨_, rfl, E.symm, ht⟩) (fun q hq => by cases hq) dX6_commonDivisor_30
      · have E := E.trans (if_neg c_1)
        have fc_1 := i_nle c_1
        rw [q_1] at fc_1
        refine lv_bipush (v := 10) hx hb dX6_commonDivisor_8 (by decide +kernel) ?_
        refine lv_iload_n hx hb dX6_commonDivisor_10 rfl (lv_at hl 0 rfl) ?_
        refine lv_irem hx hb dX6_commonDivisor_11 (i_ne0 (by omega)) ?_
        refine lv_if_ne (tgt := 23) hx hb dX6_commonDivisor_12 (by decide) (fun c_2 => ?_) (fun c_2 => ?_)
        · have E := E.trans (if_neg c_2)
          have fc_2 := i_ne c_2
          rw [q_0] at fc_2
          obtain ⟨xn_3, hxn_3⟩ : ∃ y : Int32, y = x1_3 + (-1) := ⟨_, rfl⟩
          have E := bns_e E hxn_3
          have fxn_3 : xn_3.toInt = x1_3.toInt + (-1) := by rw [hxn_3]; exact i_addr (a := x1_3) (b := (-1)) (n := -1) q_m1 (by omega) (by omega)
          refine lv_iinc (v := xn_3) (lv' := [(1, .int xn_3), (0, .int a1)]) hx hb dX6_commonDivisor_23 hl (k := 0) rfl (by rw [hxn_3]; rfl) (by decide) rfl (fun ls hl => ?_)
          refine lv_goto (tgt := 3) hx hb dX6_commonDivisor_26 (by decide) ?_
          exact ih_3 xn_3 ls ⟨by omega, by omega⟩ (by omega) (lv_sub hl [0, 1] rfl) E
        · have E := E.trans (if_pos c_2)
          have fc_2 := i_eq c_2
          rw [q_0] at fc_2
          refine lv_iload_n hx hb dX6_commonDivisor_15 rfl (lv_at hl 1 rfl) ?_
          refine lv_iload_n hx hb dX6_commonDivisor_16 rfl (lv_at hl 0 rfl) ?_
          refine lv_irem hx hb dX6_commonDivisor_17 (i_ne0 (by omega)) ?_
          refine lv_if_ne (tgt := 23) hx hb dX6_commonDivisor_18 (by decide) (fun c_4 => ?_) (fun c_4 => ?_)
          · have E := E.trans (if_neg c_4)
            have fc_4 := i_ne c_4
            rw [q_0] at fc_4
            obtain ⟨xn_5, hxn_5⟩ : ∃ y : Int32, y = x1_3 + (-1) := ⟨_, rfl⟩
            have E := bns_e E hxn_5
            have fxn_5 : xn_5.toInt = x1_3.toInt + (-1) := by rw [hxn_5]; exact i_addr (a := x1_3) (b := (-1)) (n := -1) q_m1 (by omega) (by omega)
            refine lv_iinc (v := xn_5) (lv' := [(1, .int xn_5), (0, .int a1)]) hx hb dX6_commonDivisor_23 hl (k := 0) rfl (by rw [hxn_5]; rfl) (by decide) rfl (fun ls hl => ?_)
            refine lv_goto (tgt := 3) hx hb dX6_commonDivisor_26 (by decide) ?_
            exact ih_3 xn_5 ls ⟨by omega, by omega⟩ (by omega) (lv_sub hl [0, 1] rfl) E
          · have E := E.trans (if_pos c_4)
            have fc_4 := i_eq c_4
            rw [q_0] at fc_4
            refine lv_iload_n hx hb dX6_commonDivisor_21 rfl (lv_at hl 0 rfl) ?_
            exact W.iret (v := x1_3) hx hb hr (fun t ht hW => ⟨_, rfl, E.symm, ht⟩) (fun q hq => by cases hq) dX6_commonDivisor_22
  have := q_10
  exact L_3 11 10 ls ⟨by omega, by omega⟩ (by omega) (lv_sub hl [0, 1] rfl) E
abbrev rmX6_power : Room := { frames := 0, cells := 0, slots := 0, locals := 0 }
set_option maxHeartbeats 4000000 in
set_option maxRecDepth 100000 in
theorem kX6_power (l : Launch)  (a1 : Int32) (a2 : Int32)  (h1 : a2.toInt ≤ 12) : Met l yX6_power wsX6_power rmX6_power (va_Pc [Value.int a1, Value.int a2] (fun U => True)) (vp_Sl (fun r => r = sX6_power a1 a2)) 0 0 (fun _ => False) := by
  refine Met.ofW (cc := cX6_power) (maxL := 5) (ret := (some .long)) (by decide) rfl ?_
  intro p e s m args below meth c s₁ B hml hv
  obtain ⟨rfl, -⟩ := hv
  have hx := B.exec
  have hb := B.bytes
  have hr := B.returns
  have hts := atoms_spec (ws := wsX6_power) B.pre
  have hown : s.vm.findClass RX6 = some m.cls := findClass_of_methodNamed B.named
  have hlocks := B.notSynchronized
  have hl := lv_entry ([.int a1, .int a2]) (n := 5) (Nat.le_of_ble_eq_true rfl)
  rw [lg_entry_eq]
  generalize (lg_sl ([.int a1, .int a2]) ++ List.replicate (5 - (lg_sl ([.int a1, .int a2])).length) Slot.unset).toArray = ls at hl ⊢
  have hl : lv_has ls 5 [(0, .int a1), (1, .int a2)] := hl
  have E := sX6_power.eq_1 a1 a2
  refine lv_lconst (v := 1) hx hb dX6_power_0 (by decide) ?_
  refine lv_lstore_n (lv' := [(2, .long 1), (0, .int a1), (1, .int a2)]) hx hb dX6_power_1 rfl hl (by decide) rfl (fun ls hl => ?_)
  refine lv_iconst (v := 0) hx hb dX6_power_2 (by decide) ?_
  refine lv_istore (lv' := [(4, .int 0), (2, .long 1), (0, .int a1), (1, .int a2)]) hx hb dX6_power_3 hl (by decide) rfl (fun ls hl => ?_)
  have L_5 : ∀ (n_5 : Nat) (x2_5 : Int64) (x4_5 : Int32) (ls : Array Slot), ((0 ≤ x4_5.toInt) ∧ (x4_5.toInt ≤ 12)) → (12 - x4_5.toInt < (n_5 : Int)) → lv_has ls 5 [(4, .int x4_5), (2, .long x2_5), (0, .int a1), (1, .int a2)] → sX6_power a1 a2 = sX6_power_5 a1 a2 n_5 x2_5 x4_5 → W p l e (headSpec wsX6_power rmX6_power).room s m [Value.int a1, Value.int a2].toArray below meth c s.heap [] 0 0 (MQ below (vp_Sl (fun r => r = sX6_power a1 a2)) [Value.int a1, Value.int a2].toArray s 0 0 (fun _ => False)) (F0 m 5 ls []) := by
    intro n_5
    induction n_5 with
    | zero =>
      intro x2_5 x4_5 ls hinv hm
      obtain ⟨v0_5, v1_5⟩ := hinv
      exact absurd hm (by omega)
    | succ n_5 ih_5 =>
      intro x2_5 x4_5 ls hinv hm_5 hl E
      obtain ⟨v0_5, v1_5⟩ := hinv
      have E := E.trans (sX6_power_5.eq_2 ..)
      refine lv_iload hx hb dX6_power_5 (lv_at hl 0 rfl) ?_
      refine lv_iload_n hx hb dX6_power_7 rfl (lv_at hl 3 rfl) ?_
      refine lv_icmp_ge (tgt := 22) hx hb dX6_power_8 (by decide) (fun c_1 => ?_) (fun c_1 => ?_)
      · have E := E.trans (if_pos c_1)
        have fc_1 := i_le c_1
        refine lv_lload_n hx hb dX6_power_22 rfl (lv_at hl 1 rfl) ?_
        exact W.lret (v := x2_5) hx hb hr (fun t ht hW => ⟨_, rfl, E.symm, ht⟩) (fun q hq => by cases hq) dX6_power_23
      · have E := E.trans (if_neg c_1)
        have fc_1 := i_nle c_1
        refine lv_lload_n hx hb dX6_power_11 rfl (lv_at hl 1 rfl) ?_
        refine lv_iload_n hx hb dX6_power_12 rfl (lv_at hl 2 rfl) ?_
        refine lv_i2l (v := a1.toInt64) hx hb dX6_power_13 rfl ?_
        refine lv_lmul hx hb dX6_power_14 ?_
        refine lv_lstore_n (lv' := [(2, .long (x2_5 * a1.toInt64)), (4, .int x4_5), (0, .int a1), (1, .int a2)]) hx hb dX6_power_15 rfl hl (by decide) rfl (fun ls hl => ?_)
        refine lv_iinc (v := x4_5 + 1) (lv' := [(4, .int (x4_5 + 1)), (2, .long (x2_5 * a1.toInt64)), (0, .int a1), (1, .int a2)]) hx hb dX6_power_16 hl (k := 1) rfl rfl (by decide) rfl (fun ls hl => ?_)
        refine lv_goto (tgt := 5) hx hb dX6_power_19 (by decide) ?_
        try have := i_addr (a := x4_5) (b := 1) (n := 1) q_1 (by omega) (by omega)
        exact ih_5 (x2_5 * a1.toInt64) (x4_5 + 1) ls ⟨by omega, by omega⟩ (by omega) (lv_sub hl [0, 1, 2, 3] rfl) E
  have := q_0
  exact L_5 13 1 0 ls ⟨by omega, by omega⟩ (by omega) (lv_sub hl [0, 1, 2, 3] rfl) E
abbrev rmX6_letter : Room := { frames := 1, cells := 0, slots := 0, locals := 22 }
set_option maxHeartbeats 4000000 in
set_option maxRecDepth 100000 in
theorem kX6_letter (l : Launch) (D : va_G) (cI cC cQ : ClassId) (ad : Nat → Nat → Nat) (sd aK aV : Nat → Nat) (w : Nat → Nat → Nat → Int32) (a1 : Int32) (hd : MD ad) (hI : R6I w)  : Met l yX6_letter wsX6_letter rmX6_letter (va_Pc [Value.ref (ad 5 0), Value.int a1] (fun U => va_P D vwCl (MWL cI cC cQ ad w) U.heap ∧ va_K D vwCl [(cI, .int), (cC, .char), (cQ, .object "LoadedForTheLane$Way")] U ∧ NW U ∧ SE sd (MA ad) U U.heap ∧ STR aK aV (MA ad) U U.heap)) (va_Qi (fun r u => (r, u) = sX6_letter w a1 ∧ R6I u) (fun u t => va_P D vwCl (MWL cI cC cQ ad u) t.heap) (MA ad)) 0 0 (MA ad) := by
  refine Met.ofW (cc := cX6_letter) (maxL := 2) (ret := (some .int)) (by decide) rfl ?_
  intro p e s m args below meth c s₁ B hml hv
  obtain ⟨rfl, hP, hK, hN, hSE, hST⟩ := hv
  have hx := B.exec
  have hb := B.bytes
  have hr := B.returns
  have hts := atoms_spec (ws := wsX6_letter) B.pre
  have hown : s.vm.findClass RX6 = some m.cls := findClass_of_methodNamed B.named
  have hlocks := B.notSynchronized
  have hin1 : ∀ q ∈ wsX10, q ∈ wsX6_letter := by decide +kernel
  have hin6 : ∀ q ∈ wsX60, q ∈ wsX6_letter := by decide +kernel
  have hl := lv_entry ([.ref (ad 5 0), .int a1]) (n := 2) (Nat.le_of_ble_eq_true rfl)
  rw [lg_entry_eq]
  generalize (lg_sl ([.ref (ad 5 0), .int a1]) ++ List.replicate (2 - (lg_sl ([.ref (ad 5 0), .int a1])).length) Slot.unset).toArray = ls at hl ⊢
  have hl : lv_has ls 2 [(0, .ref (ad 5 0)), (1, .int a1)] := hl
  suffices hgo : ∀ (H : Heap) (locs : List Loc), va_P D vwCl (MWL cI cC cQ ad w) H → va_S (MA ad) s.heap H locs → W p l e (headSpec wsX6_letter rmX6_letter).room s m [Value.ref (ad 5 0), Value.int a1].toArray below meth c H locs 0 0 (MQ below (va_Qi (fun r u => (r, u) = sX6_letter w a1 ∧ R6I u) (fun u t => va_P D vwCl (MWL cI cC cQ ad u) t.heap) (MA ad)) [Value.ref (ad 5 0), Value.int a1].toArray s 0 0 (MA ad)) (F0 m 0 ls []) from hgo s.heap [] hP va_S.rf
  intro H locs hP hS
  have E := sX6_letter.eq_1 w a1
  refine lv_iload_n hx hb dX6_letter_0 rfl (lv_at hl 1 rfl) ?_
  refine lv_if_ge (tgt := 11) hx hb dX6_letter_1 (by decide) (fun c_1 => ?_) (fun c_1 => ?_)
  · have E := E.trans (if_pos c_1)
    have fc_1 := i_le c_1
    rw [q_0] at fc_1
    refine lv_iload_n hx hb dX6_letter_11 rfl (lv_at hl 1 rfl) ?_
    refine lv_sipush (v := 255) hx hb dX6_letter_12 (by decide +kernel) ?_
    refine lv_icmp_gt (tgt := 30) hx hb dX6_letter_15 (by decide) (fun c_2 => ?_) (fun c_2 => ?_)
    · have E := E.trans (if_pos c_2)
      have fc_2 := i_lt c_2
      rw [q_255] at fc_2
      refine lv_aload_n hx hb dX6_letter_30 rfl (lv_at hl 0 rfl) ?_
      refine lv_bipush (v := (-6)) hx hb dX6_letter_31 (by decide +kernel) ?_
      refine va_calli (va_runV (As := [.int (-6)]) (rest := []) ⟨hx, hb, hml, hown, hts⟩ (kX6_refuse l D cI cC cQ ad sd aK aV w (-6) hd hI) (cwV 1 hts gX6_letter_X6_refuse rfl rfl rfl mdX6_refuse ⟨Nat.le_of_ble_eq_true rfl, Nat.le_of_ble_eq_true rfl⟩) (x6_pre hK hP hN hSE hST hS) rfl rfl hl.1 rfl (lv_room (Nat.le_of_ble_eq_true rfl)) dX6_letter_33 ⟨Nat.zero_le _, Nat.zero_le _⟩) hS (fun _ _ h => h) (fun _ h => h) (fun rn_3 wn_3 t H locs ht hvm hp_3 hB hz hfr hS => ?_)
      obtain ⟨hp_3, hJ_3⟩ := hp_3
      have E := bnd_e E hp_3
      have hP : va_P D vwCl (MWL cI cC cQ ad wn_3) H := ht ▸ hB
      exact W.iret (v := rn_3) hx hb hr (fun t ht hW => ⟨⟨_, wn_3, rfl, ⟨E.symm, hJ_3⟩, by show va_P _ _ _ t.heap; rw [ht]; exact hP⟩, hS.F ht⟩) hS.2.2 dX6_letter_36
    · have E := E.trans (if_neg c_2)
      have fc_2 := i_nlt c_2
      rw [q_255] at fc_2
      refine lv_aload_n hx hb dX6_letter_18 rfl (lv_at hl 0 rfl) ?_
      refine g6_letters hx hb hts hin6 hown hK hP (hts (.fieldLink RX6 29 "LoadedForTheLane" "letters" "LLoadedForTheLane$Letters;") (by decide +kernel)) dX6_letter_19 ?_
      refine g1_sizen hx hb hts hin1 hown hK (mp_3 hP) (nf_RX6_48 hN) dX6_letter_22 ?_
      have f_4 := R1I_size (R6I_3 hI)
      refine lv_bipush (v := 96) hx hb dX6_letter_25 (by decide +kernel) ?_
      refine lv_icmp_lt (tgt := 37) hx hb dX6_letter_27 (by decide) (fun c_5 => ?_) (fun c_5 => ?_)
      · have E := E.trans (if_pos c_5)
        have fc_5 := i_lt c_5
        rw [q_96] at fc_5
        refine lv_aload_n hx hb dX6_letter_37 rfl (lv_at hl 0 rfl) ?_
        refine g6_letters hx hb hts hin6 hown hK hP (hts (.fieldLink RX6 29 "LoadedForTheLane" "letters" "LLoadedForTheLane$Letters;") (by decide +kernel)) dX6_letter_38 ?_
        refine lv_iload_n hx hb dX6_letter_41 rfl (lv_at hl 1 rfl) ?_
        refine lv_i2c (v := (a1.toUInt32 % 65536).toInt32) hx hb dX6_letter_42 rfl ?_
        refine va_callv (va_runVN (As := [.int ((a1.toUInt32 % 65536).toInt32)]) (rest := []) ⟨hx, hb, hml, hown, hts⟩ (kX1_add l D cI cC cQ (ad 3) (w 3) ((a1.toUInt32 % 65536).toInt32) (MD_3 hd) (R6I_3 hI)) ⟨va_cnB 1 hts gX6_letter_X1_add_n52 rfl rfl rfl (nm_RX6_52 hN) (hts (.initialized RX1) (by decide +kernel)) mdsX1_add ⟨Nat.le_of_ble_eq_true rfl, Nat.le_of_ble_eq_true rfl⟩, hts (.instanceMethod yX1_add) (by decide +kernel), hts (.selects RX1 yX1_add yX1_add) (by decide +kernel)⟩ (x1_pre hK (mp_3 hP)) rfl rfl hl.1 rfl (lv_room (Nat.le_of_ble_eq_true rfl)) dX6_letter_43 ⟨Nat.zero_le _, Nat.zero_le _⟩) hS (fun _ _ h => MA_3 h) (fun _ h => MA_3 h) (fun un_6 t H locs ht hvm hp_6 hB hz hfr hS => ?_)
        obtain ⟨hp_6, hJ_6⟩ := hp_6
        have E := bns_e E hp_6
        have hP : va_P D vwCl (MWL cI cC cQ ad (sc w 3 un_6)) H := mp_up3 hd hP (ht ▸ hB) hfr
        obtain ⟨wn_6, hwn_6⟩ : ∃ x, x = sc w 3 un_6 := ⟨_, rfl⟩
        rw [← hwn_6] at hP
        have E := bns_e E hwn_6
        have hI_6 : R6I wn_6 := by rw [hwn_6]; exact R6I_up3 hI hJ_6
        refine lv_aload_n hx hb dX6_letter_46 rfl (lv_at hl 0 rfl) ?_
        refine g6_letters hx hb hts hin6 hown hK hP (hts (.fieldLink RX6 29 "LoadedForTheLane" "letters" "LLoadedForTheLane$Letters;") (by decide +kernel)) dX6_letter_47 ?_
        refine g1_sizen hx hb hts hin1 hown hK (mp_3 hP) (nf_RX6_48 hN) dX6_letter_50 ?_
        have f_7 := R1I_size (R6I_3 hI_6)
        exact W.iret (v := (wn_6 3) 1 0) hx hb hr (fun t ht hW => ⟨⟨_, wn_6, rfl, ⟨E.symm, hI_6⟩, by show va_P _ _ _ t.heap; rw [ht]; exact hP⟩, hS.F ht⟩) hS.2.2 dX6_letter_53
      · have E := E.trans (if_neg c_5)
        have fc_5 := i_nlt c_5
        rw [q_96] at fc_5
        refine lv_aload_n hx hb dX6_letter_30 rfl (lv_at hl 0 rfl) ?_
        refine lv_bipush (v := (-6)) hx hb dX6_letter_31 (by decide +kernel) ?_
        refine va_calli (va_runV (As := [.int (-6)]) (rest := []) ⟨hx, hb, hml, hown, hts⟩ (kX6_refuse l D cI cC cQ ad sd aK aV w (-6) hd hI) (cwV 1 hts gX6_letter_X6_refuse rfl rfl rfl mdX6_refuse ⟨Nat.le_of_ble_eq_true rfl, Nat.le_of_ble_eq_true rfl⟩) (x6_pre hK hP hN hSE hST hS) rfl rfl hl.1 rfl (lv_room (Nat.le_of_ble_eq_true rfl)) dX6_letter_33 ⟨Nat.zero_le _, Nat.zero_le _⟩) hS (fun _ _ h => h) (fun _ h => h) (fun rn_8 wn_8 t H locs ht hvm hp_8 hB hz hfr hS => ?_)
        obtain ⟨hp_8, hJ_8⟩ := hp_8
        have E := bnd_e E hp_8
        have hP : va_P D vwCl (MWL cI cC cQ ad wn_8) H := ht ▸ hB
        exact W.iret (v := rn_8) hx hb hr (fun t ht hW => ⟨⟨_, wn_8, rfl, ⟨E.symm, hJ_8⟩, by show va_P _ _ _ t.heap; rw [ht]; exact hP⟩, hS.F ht⟩) hS.2.2 dX6_letter_36
  · have E := E.trans (if_neg c_1)
    have fc_1 := i_nle c_1
    rw [q_0] at fc_1
    refine lv_aload_n hx hb dX6_letter_4 rfl (lv_at hl 0 rfl) ?_
    refine lv_bipush (v := (-4)) hx hb dX6_letter_5 (by decide +kernel) ?_
    refine va_calli (va_runV (As := [.int (-4)]) (rest := []) ⟨hx, hb, hml, hown, hts⟩ (kX6_refuse l D cI cC cQ ad sd aK aV w (-4) hd hI) (cwV 1 hts gX6_letter_X6_refuse rfl rfl rfl mdX6_refuse ⟨Nat.le_of_ble_eq_true rfl, Nat.le_of_ble_eq_true rfl⟩) (x6_pre hK hP hN hSE hST hS) rfl rfl hl.1 rfl (lv_room (Nat.le_of_ble_eq_true rfl)) dX6_letter_7 ⟨Nat.zero_le _, Nat.zero_le _⟩) hS (fun _ _ h => h) (fun _ h => h) (fun rn_9 wn_9 t H locs ht hvm hp_9 hB hz hfr hS => ?_)
    obtain ⟨hp_9, hJ_9⟩ := hp_9
    have E := bnd_e E hp_9
    have hP : va_P D vwCl (MWL cI cC cQ ad wn_9) H := ht ▸ hB
    exact W.iret (v := rn_9) hx hb hr (fun t ht hW => ⟨⟨_, wn_9, rfl, ⟨E.symm, hJ_9⟩, by show va_P _ _ _ t.heap; rw [ht]; exact hP⟩, hS.F ht⟩) hS.2.2 dX6_letter_10
abbrev rmX6_layer : Room := { frames := 2, cells := 0, slots := 0, locals := 43 }
set_option maxHeartbeats 4000000 in
set_option maxRecDepth 100000 in
theorem kX6_layer (l : Launch) (D : va_G) (cI cC cQ : ClassId) (ad : Nat → Nat → Nat) (sd aK aV : Nat → Nat) (w : Nat → Nat → Nat → Int32) (a1 : Int32) (a2 : Int32) (hd : MD ad) (hI : R6I w)  : Met l yX6_layer wsX6_layer rmX6_layer (va_Pc [Value.ref (ad 5 0), Value.int a1, Value.int a2] (fun U => va_P D vwCl (MWL cI cC cQ ad w) U.heap ∧ va_K D vwCl [(cI, .int), (cC, .char), (cQ, .object "LoadedForTheLane$Way")] U ∧ NW U ∧ SE sd (MA ad) U U.heap ∧ STR aK aV (MA ad) U U.heap)) (va_Qi (fun r u => (r, u) = sX6_layer w a1 a2 ∧ R6I u) (fun u t => va_P D vwCl (MWL cI cC cQ ad u) t.heap) (MA ad)) 0 0 (MA ad) := by
  refine Met.ofW (cc := cX6_layer) (maxL := 3) (ret := (some .int)) (by decide) rfl ?_
  intro p e s m args below meth c s₁ B hml hv
  obtain ⟨rfl, hP, hK, hN, hSE, hST⟩ := hv
  have hx := B.exec
  have hb := B.bytes
  have hr := B.returns
  have hts := atoms_spec (ws := wsX6_layer) B.pre
  have hown : s.vm.findClass RX6 = some m.cls := findClass_of_methodNamed B.named
  have hlocks := B.notSynchronized
  have hin4 : ∀ q ∈ wsX40, q ∈ wsX6_layer := by decide +kernel
  have hin6 : ∀ q ∈ wsX60, q ∈ wsX6_layer := by decide +kernel
  have hl := lv_entry ([.ref (ad 5 0), .int a1, .int a2]) (n := 3) (Nat.le_of_ble_eq_true rfl)
  rw [lg_entry_eq]
  generalize (lg_sl ([.ref (ad 5 0), .int a1, .int a2]) ++ List.replicate (3 - (lg_sl ([.ref (ad 5 0), .int a1, .int a2])).length) Slot.unset).toArray = ls at hl ⊢
  have hl : lv_has ls 3 [(0, .ref (ad 5 0)), (1, .int a1), (2, .int a2)] := hl
  suffices hgo : ∀ (H : Heap) (locs : List Loc), va_P D vwCl (MWL cI cC cQ ad w) H → va_S (MA ad) s.heap H locs → W p l e (headSpec wsX6_layer rmX6_layer).room s m [Value.ref (ad 5 0), Value.int a1, Value.int a2].toArray below meth c H locs 0 0 (MQ below (va_Qi (fun r u => (r, u) = sX6_layer w a1 a2 ∧ R6I u) (fun u t => va_P D vwCl (MWL cI cC cQ ad u) t.heap) (MA ad)) [Value.ref (ad 5 0), Value.int a1, Value.int a2].toArray s 0 0 (MA ad)) (F0 m 0 ls []) from hgo s.heap [] hP va_S.rf
  intro H locs hP hS
  have E := sX6_layer.eq_1 w a1 a2
  refine lv_aload_n hx hb dX6_layer_0 rfl (lv_at hl 0 rfl) ?_
  refine g6_wagon hx hb hts hin6 hown hK hP (hts (.fieldLink RX6 10 "LoadedForTheLane" "wagon" "LLoadedForTheLane$Wagon;") (by decide +kernel)) dX6_layer_1 ?_
  refine lv_iload_n hx hb dX6_layer_4 rfl (lv_at hl 1 rfl) ?_
  refine vp_callSi (va_Run.run (va_runVN (As := [.int a1]) (rest := []) ⟨hx, hb, hml, hown, hts⟩ (kX4_hasLayer l D cI cC cQ (ad 0) (w 0) a1) ⟨va_cnB 1 hts gX6_layer_X4_hasLayer_n127 rfl rfl rfl (nm_RX6_127 hN) (hts (.initialized RX4) (by decide +kernel)) mdsX4_hasLayer ⟨Nat.le_of_ble_eq_true rfl, Nat.le_of_ble_eq_true rfl⟩, hts (.instanceMethod yX4_hasLayer) (by decide +kernel), hts (.selects RX4 yX4_hasLayer yX4_hasLayer) (by decide +kernel)⟩ (x4_pre hK (mp_0 hP) hN) rfl rfl hl.1 rfl (lv_room (Nat.le_of_ble_eq_true rfl)) dX6_layer_5 ⟨Nat.zero_le _, Nat.zero_le _⟩)) (fun rn_1 hr_1 => ?_)
  obtain ⟨rfl, hz_1⟩ := hr_1
  refine lv_if_ne (tgt := 17) hx hb dX6_layer_8 (by decide) (fun c_2 => ?_) (fun c_2 => ?_)
  · have E := E.trans (if_neg c_2)
    have fc_2 := i_ne c_2
    rw [q_0] at fc_2
    have gc_2 := fX4_hasLayer c_2
    have glc_2 := R4I_layers (R6I_0 hI)
    refine lv_iload_n hx hb dX6_layer_17 rfl (lv_at hl 2 rfl) ?_
    by_cases c_4 : a2 = 0
    · have E := E.trans (if_pos c_4)
      refine lv_tableIn (off := 46) (tgt := 64) hx hb dX6_layer_18 (by rw [c_4]; decide) (by rw [c_4]; decide) (by rw [c_4]; rfl) (by decide) ?_
      have fc_4 := i_eq c_4
      rw [q_0] at fc_4
      refine lv_aload_n hx hb dX6_layer_64 rfl (lv_at hl 0 rfl) ?_
      refine g6_wagon hx hb hts hin6 hown hK hP (hts (.fieldLink RX6 10 "LoadedForTheLane" "wagon" "LLoadedForTheLane$Wagon;") (by decide +kernel)) dX6_layer_65 ?_
      refine g4_kindsn hx hb hts hin4 hown hK (mp_0 hP) (nf_RX6_133 hN) dX6_layer_68 ?_
      refine lv_iload_n hx hb dX6_layer_71 rfl (lv_at hl 1 rfl) ?_
      have ix_5 : vp_in a1 12 := ix_of (by omega) (by omega)
      refine l4_kinds (j := (a1.toNatClampNeg)) hx hb hK (mp_0 hP) ix_5 rfl dX6_layer_72 ?_
      exact W.iret (v := (w 0) 0 (a1.toNatClampNeg)) hx hb hr (fun t ht hW => ⟨⟨_, w, rfl, ⟨E.symm, hI⟩, by show va_P _ _ _ t.heap; rw [ht]; exact hP⟩, hS.F ht⟩) hS.2.2 dX6_layer_73
    have E := E.trans (if_neg c_4)
    have fc_4 := i_ne c_4
    rw [q_0] at fc_4
    by_cases c_6 : a2 = 1
    · have E := E.trans (if_pos c_6)
      refine lv_tableIn (off := 56) (tgt := 74) hx hb dX6_layer_18 (by rw [c_6]; decide) (by rw [c_6]; decide) (by rw [c_6]; rfl) (by decide) ?_
      have fc_6 := i_eq c_6
      rw [q_1] at fc_6
      refine lv_aload_n hx hb dX6_layer_74 rfl (lv_at hl 0 rfl) ?_
      refine g6_wagon hx hb hts hin6 hown hK hP (hts (.fieldLink RX6 10 "LoadedForTheLane" "wagon" "LLoadedForTheLane$Wagon;") (by decide +kernel)) dX6_layer_75 ?_
      refine g4_sheavesn hx hb hts hin4 hown hK (mp_0 hP) (nf_RX6_136 hN) dX6_layer_78 ?_
      refine lv_iload_n hx hb dX6_layer_81 rfl (lv_at hl 1 rfl) ?_
      have ix_7 : vp_in a1 12 := ix_of (by omega) (by omega)
      refine l4_sheaves (j := (a1.toNatClampNeg)) hx hb hK (mp_0 hP) ix_7 rfl dX6_layer_82 ?_
      exact W.iret (v := (w 0) 1 (a1.toNatClampNeg)) hx hb hr (fun t ht hW => ⟨⟨_, w, rfl, ⟨E.symm, hI⟩, by show va_P _ _ _ t.heap; rw [ht]; exact hP⟩, hS.F ht⟩) hS.2.2 dX6_layer_83
    have E := E.trans (if_neg c_6)
    have fc_6 := i_ne c_6
    rw [q_1] at fc_6
    by_cases c_8 : a2 = 2
    · have E := E.trans (if_pos c_8)
      refine lv_tableIn (off := 66) (tgt := 84) hx hb dX6_layer_18 (by rw [c_8]; decide) (by rw [c_8]; decide) (by rw [c_8]; rfl) (by decide) ?_
      have fc_8 := i_eq c_8
      rw [q_2] at fc_8
      refine lv_aload_n hx hb dX6_layer_84 rfl (lv_at hl 0 rfl) ?_
      refine g6_wagon hx hb hts hin6 hown hK hP (hts (.fieldLink RX6 10 "LoadedForTheLane" "wagon" "LLoadedForTheLane$Wagon;") (by decide +kernel)) dX6_layer_85 ?_
      refine g4_outsn hx hb hts hin4 hown hK (mp_0 hP) (nf_RX6_139 hN) dX6_layer_88 ?_
      refine lv_iload_n hx hb dX6_layer_91 rfl (lv_at hl 1 rfl) ?_
      have ix_9 : vp_in a1 12 := ix_of (by omega) (by omega)
      refine l4_outs (j := (a1.toNatClampNeg)) hx hb hK (mp_0 hP) ix_9 rfl dX6_layer_92 ?_
      exact W.iret (v := (w 0) 2 (a1.toNatClampNeg)) hx hb hr (fun t ht hW => ⟨⟨_, w, rfl, ⟨E.symm, hI⟩, by show va_P _ _ _ t.heap; rw [ht]; exact hP⟩, hS.F ht⟩) hS.2.2 dX6_layer_93
    have E := E.trans (if_neg c_8)
    have fc_8 := i_ne c_8
    rw [q_2] at fc_8
    by_cases c_10 : a2 = 3
    · have E := E.trans (if_pos c_10)
      refine lv_tableIn (off := 76) (tgt := 94) hx hb dX6_layer_18 (by rw [c_10]; decide) (by rw [c_10]; decide) (by rw [c_10]; rfl) (by decide) ?_
      have fc_10 := i_eq c_10
      rw [q_3] at fc_10
      refine lv_aload_n hx hb dX6_layer_94 rfl (lv_at hl 0 rfl) ?_
      refine g6_wagon hx hb hts hin6 hown hK hP (hts (.fieldLink RX6 10 "LoadedForTheLane" "wagon" "LLoadedForTheLane$Wagon;") (by decide +kernel)) dX6_layer_95 ?_
      refine g4_leansn hx hb hts hin4 hown hK (mp_0 hP) (nf_RX6_142 hN) dX6_layer_98 ?_
      refine lv_iload_n hx hb dX6_layer_101 rfl (lv_at hl 1 rfl) ?_
      have ix_11 : vp_in a1 12 := ix_of (by omega) (by omega)
      refine l4_leans (j := (a1.toNatClampNeg)) hx hb hK (mp_0 hP) ix_11 rfl dX6_layer_102 ?_
      exact W.iret (v := (w 0) 3 (a1.toNatClampNeg)) hx hb hr (fun t ht hW => ⟨⟨_, w, rfl, ⟨E.symm, hI⟩, by show va_P _ _ _ t.heap; rw [ht]; exact hP⟩, hS.F ht⟩) hS.2.2 dX6_layer_103
    have E := E.trans (if_neg c_10)
    have fc_10 := i_ne c_10
    rw [q_3] at fc_10
    by_cases c_12 : a2 = 4
    · have E := E.trans (if_pos c_12)
      refine lv_tableIn (off := 86) (tgt := 104) hx hb dX6_layer_18 (by rw [c_12]; decide) (by rw [c_12]; decide) (by rw [c_12]; rfl) (by decide) ?_
      have fc_12 := i_eq c_12
      rw [q_4] at fc_12
      refine lv_aload_n hx hb dX6_layer_104 rfl (lv_at hl 0 rfl) ?_
      refine g6_wagon hx hb hts hin6 hown hK hP (hts (.fieldLink RX6 10 "LoadedForTheLane" "wagon" "LLoadedForTheLane$Wagon;") (by decide +kernel)) dX6_layer_105 ?_
      refine lv_iload_n hx hb dX6_layer_108 rfl (lv_at hl 1 rfl) ?_
      refine vp_callSi (va_Run.run (va_runVN (As := [.int a1]) (rest := []) ⟨hx, hb, hml, hown, hts⟩ (kX4_weightOf l D cI cC cQ (ad 0) (w 0) a1 (by omega) (by omega)) ⟨va_cnB 1 hts gX6_layer_X4_weightOf_n145 rfl rfl rfl (nm_RX6_145 hN) (hts (.initialized RX4) (by decide +kernel)) mdsX4_weightOf ⟨Nat.le_of_ble_eq_true rfl, Nat.le_of_ble_eq_true rfl⟩, hts (.instanceMethod yX4_weightOf) (by decide +kernel), hts (.selects RX4 yX4_weightOf yX4_weightOf) (by decide +kernel)⟩ (x4_pre hK (mp_0 hP) hN) rfl rfl hl.1 rfl (lv_room (Nat.le_of_ble_eq_true rfl)) dX6_layer_109 ⟨Nat.zero_le _, Nat.zero_le _⟩)) (fun rn_13 hr_13 => ?_)
      subst hr_13
      exact W.iret (v := (sX4_weightOf (w 0) a1)) hx hb hr (fun t ht hW => ⟨⟨_, w, rfl, ⟨E.symm, hI⟩, by show va_P _ _ _ t.heap; rw [ht]; exact hP⟩, hS.F ht⟩) hS.2.2 dX6_layer_112
    have E := E.trans (if_neg c_12)
    have fc_12 := i_ne c_12
    rw [q_4] at fc_12
    by_cases c_14 : a2 = 5
    · have E := E.trans (if_pos c_14)
      refine lv_tableIn (off := 95) (tgt := 113) hx hb dX6_layer_18 (by rw [c_14]; decide) (by rw [c_14]; decide) (by rw [c_14]; rfl) (by decide) ?_
      have fc_14 := i_eq c_14
      rw [q_5] at fc_14
      refine lv_aload_n hx hb dX6_layer_113 rfl (lv_at hl 0 rfl) ?_
      refine g6_wagon hx hb hts hin6 hown hK hP (hts (.fieldLink RX6 10 "LoadedForTheLane" "wagon" "LLoadedForTheLane$Wagon;") (by decide +kernel)) dX6_layer_114 ?_
      refine g4_bindingsn hx hb hts hin4 hown hK (mp_0 hP) (nf_RX6_148 hN) dX6_layer_117 ?_
      refine lv_iload_n hx hb dX6_layer_120 rfl (lv_at hl 1 rfl) ?_
      have ix_15 : vp_in a1 12 := ix_of (by omega) (by omega)
      refine l4_bindings (j := (a1.toNatClampNeg)) hx hb hK (mp_0 hP) ix_15 rfl dX6_layer_121 ?_
      exact W.iret (v := (w 0) 4 (a1.toNatClampNeg)) hx hb hr (fun t ht hW => ⟨⟨_, w, rfl, ⟨E.symm, hI⟩, by show va_P _ _ _ t.heap; rw [ht]; exact hP⟩, hS.F ht⟩) hS.2.2 dX6_layer_122
    have E := E.trans (if_neg c_14)
    have fc_14 := i_ne c_14
    rw [q_5] at fc_14
    by_cases c_16 : a2 = 6
    · have E := E.trans (if_pos c_16)
      refine lv_tableIn (off := 105) (tgt := 123) hx hb dX6_layer_18 (by rw [c_16]; decide) (by rw [c_16]; decide) (by rw [c_16]; rfl) (by decide) ?_
      have fc_16 := i_eq c_16
      rw [q_6] at fc_16
      refine lv_aload_n hx hb dX6_layer_123 rfl (lv_at hl 0 rfl) ?_
      refine g6_wagon hx hb hts hin6 hown hK hP (hts (.fieldLink RX6 10 "LoadedForTheLane" "wagon" "LLoadedForTheLane$Wagon;") (by decide +kernel)) dX6_layer_124 ?_
      refine g4_kindsn hx hb hts hin4 hown hK (mp_0 hP) (nf_RX6_133 hN) dX6_layer_127 ?_
      refine lv_iload_n hx hb dX6_layer_130 rfl (lv_at hl 1 rfl) ?_
      have ix_17 : vp_in a1 12 := ix_of (by omega) (by omega)
      refine l4_kinds (j := (a1.toNatClampNeg)) hx hb hK (mp_0 hP) ix_17 rfl dX6_layer_131 ?_
      refine vp_callSi (va_Run.run (va_runSN (As := [.int ((w 0) 0 (a1.toNatClampNeg))]) (rest := []) ⟨hx, hb, hml, hown, hts⟩ (kX0_thickness l ((w 0) 0 (a1.toNatClampNeg))) ⟨va_cnB 1 hts gX6_layer_X0_thickness_n151 rfl rfl rfl (nm_RX6_151 hN) (hts (.initialized RX0) (by decide +kernel)) mdsX0_thickness ⟨Nat.le_of_ble_eq_true rfl, Nat.le_of_ble_eq_true rfl⟩, hts (.static yX0_thickness) (by decide +kernel), trivial⟩ s_pre rfl rfl hl.1 rfl (lv_room (Nat.le_of_ble_eq_true rfl)) dX6_layer_132 ⟨Nat.zero_le _, Nat.zero_le _⟩)) (fun rn_18 hr_18 => ?_)
      subst hr_18
      exact W.iret (v := (sX0_thickness ((w 0) 0 (a1.toNatClampNeg)))) hx hb hr (fun t ht hW => ⟨⟨_, w, rfl, ⟨E.symm, hI⟩, by show va_P _ _ _ t.heap; rw [ht]; exact hP⟩, hS.F ht⟩) hS.2.2 dX6_layer_135
    have E := E.trans (if_neg c_16)
    have fc_16 := i_ne c_16
    rw [q_6] at fc_16
    by_cases c_19 : a2 = 7
    · have E := E.trans (if_pos c_19)
      refine lv_tableIn (off := 118) (tgt := 136) hx hb dX6_layer_18 (by rw [c_19]; decide) (by rw [c_19]; decide) (by rw [c_19]; rfl) (by decide) ?_
      have fc_19 := i_eq c_19
      rw [q_7] at fc_19
      refine lv_aload_n hx hb dX6_layer_136 rfl (lv_at hl 0 rfl) ?_
      refine g6_wagon hx hb hts hin6 hown hK hP (hts (.fieldLink RX6 10 "LoadedForTheLane" "wagon" "LLoadedForTheLane$Wagon;") (by decide +kernel)) dX6_layer_137 ?_
      refine g4_loadsn hx hb hts hin4 hown hK (mp_0 hP) (nf_RX6_154 hN) dX6_layer_140 ?_
      refine lv_iload_n hx hb dX6_layer_143 rfl (lv_at hl 1 rfl) ?_
      have ix_20 : vp_in a1 12 := ix_of (by omega) (by omega)
      refine l4_loads (j := (a1.toNatClampNeg)) hx hb hK (mp_0 hP) ix_20 rfl dX6_layer_144 ?_
      exact W.iret (v := (w 0) 5 (a1.toNatClampNeg)) hx hb hr (fun t ht hW => ⟨⟨_, w, rfl, ⟨E.symm, hI⟩, by show va_P _ _ _ t.heap; rw [ht]; exact hP⟩, hS.F ht⟩) hS.2.2 dX6_layer_145
    have E := E.trans (if_neg c_19)
    have fc_19 := i_ne c_19
    rw [q_7] at fc_19
    refine lv_tableOut (tgt := 146) hx hb dX6_layer_18 (by omega) (by decide) ?_
    refine lv_aload_n hx hb dX6_layer_146 rfl (lv_at hl 0 rfl) ?_
    refine lv_bipush (v := (-2)) hx hb dX6_layer_147 (by decide +kernel) ?_
    refine va_calli (va_runV (As := [.int (-2)]) (rest := []) ⟨hx, hb, hml, hown, hts⟩ (kX6_refuseWide l D cI cC cQ ad sd aK aV w (-2) hd hI) (cwV 1 hts gX6_layer_X6_refuseWide rfl rfl rfl mdX6_refuseWide ⟨Nat.le_of_ble_eq_true rfl, Nat.le_of_ble_eq_true rfl⟩) (x6_pre hK hP hN hSE hST hS) rfl rfl hl.1 rfl (lv_room (Nat.le_of_ble_eq_true rfl)) dX6_layer_149 ⟨Nat.zero_le _, Nat.zero_le _⟩) hS (fun _ _ h => h) (fun _ h => h) (fun rn_3 wn_3 t H locs ht hvm hp_3 hB hz hfr hS => ?_)
    obtain ⟨hp_3, hJ_3⟩ := hp_3
    have E := bnd_e E hp_3
    have hP : va_P D vwCl (MWL cI cC cQ ad wn_3) H := ht ▸ hB
    exact W.iret (v := rn_3) hx hb hr (fun t ht hW => ⟨⟨_, wn_3, rfl, ⟨E.symm, hJ_3⟩, by show va_P _ _ _ t.heap; rw [ht]; exact hP⟩, hS.F ht⟩) hS.2.2 dX6_layer_152
  · have E := E.trans (if_pos c_2)
    have fc_2 := i_eq c_2
    rw [q_0] at fc_2
    refine lv_aload_n hx hb dX6_layer_11 rfl (lv_at hl 0 rfl) ?_
    refine lv_iconst (v := (-1)) hx hb dX6_layer_12 (by decide) ?_
    refine va_calli (va_runV (As := [.int (-1)]) (rest := []) ⟨hx, hb, hml, hown, hts⟩ (kX6_refuseWide l D cI cC cQ ad sd aK aV w (-1) hd hI) (cwV 1 hts gX6_layer_X6_refuseWide rfl rfl rfl mdX6_refuseWide ⟨Nat.le_of_ble_eq_true rfl, Nat.le_of_ble_eq_true rfl⟩) (x6_pre hK hP hN hSE hST hS) rfl rfl hl.1 rfl (lv_room (Nat.le_of_ble_eq_true rfl)) dX6_layer_13 ⟨Nat.zero_le _, Nat.zero_le _⟩) hS (fun _ _ h => h) (fun _ h => h) (fun rn_21 wn_21 t H locs ht hvm hp_21 hB hz hfr hS => ?_)
    obtain ⟨hp_21, hJ_21⟩ := hp_21
    have E := bnd_e E hp_21
    have hP : va_P D vwCl (MWL cI cC cQ ad wn_21) H := ht ▸ hB
    exact W.iret (v := rn_21) hx hb hr (fun t ht hW => ⟨⟨_, wn_21, rfl, ⟨E.symm, hJ_21⟩, by show va_P _ _ _ t.heap; rw [ht]; exact hP⟩, hS.F ht⟩) hS.2.2 dX6_layer_16
abbrev rmX6_piece : Room := { frames := 2, cells := 0, slots := 0, locals := 43 }
set_option maxHeartbeats 4000000 in
set_option maxRecDepth 100000 in
theorem kX6_piece (l : Launch) (D : va_G) (cI cC cQ : ClassId) (ad : Nat → Nat → Nat) (sd aK aV : Nat → Nat) (w : Nat → Nat → Nat → Int32) (a1 : Int32) (a2 : Int32) (a3 : Int32) (hd : MD ad) (hI : R6I w)  : Met l yX6_piece wsX6_piece rmX6_piece (va_Pc [Value.ref (ad 5 0), Value.int a1, Value.int a2, Value.int a3] (fun U => va_P D vwCl (MWL cI cC cQ ad w) U.heap ∧ va_K D vwCl [(cI, .int), (cC, .char), (cQ, .object "LoadedForTheLane$Way")] U ∧ NW U ∧ SE sd (MA ad) U U.heap ∧ STR aK aV (MA ad) U U.heap)) (va_Qi (fun r u => (r, u) = sX6_piece w a1 a2 a3 ∧ R6I u) (fun u t => va_P D vwCl (MWL cI cC cQ ad u) t.heap) (MA ad)) 0 0 (MA ad) := by
  refine Met.ofW (cc := cX6_piece) (maxL := 4) (ret := (some .int)) (by decide) rfl ?_
  intro p e s m args below meth c s₁ B hml hv
  obtain ⟨rfl, hP, hK, hN, hSE, hST⟩ := hv
  have hx := B.exec
  have hb := B.bytes
  have hr := B.returns
  have hts := atoms_spec (ws := wsX6_piece) B.pre
  have hown : s.vm.findClass RX6 = some m.cls := findClass_of_methodNamed B.named
  have hlocks := B.notSynchronized
  have hin4 : ∀ q ∈ wsX40, q ∈ wsX6_piece := by decide +kernel
  have hin5 : ∀ q ∈ wsX50, q ∈ wsX6_piece := by decide +kernel
  have hin6 : ∀ q ∈ wsX60, q ∈ wsX6_piece := by decide +kernel
  have hl := lv_entry ([.ref (ad 5 0), .int a1, .int a2, .int a3]) (n := 4) (Nat.le_of_ble_eq_true rfl)
  rw [lg_entry_eq]
  generalize (lg_sl ([.ref (ad 5 0), .int a1, .int a2, .int a3]) ++ List.replicate (4 - (lg_sl ([.ref (ad 5 0), .int a1, .int a2, .int a3])).length) Slot.unset).toArray = ls at hl ⊢
  have hl : lv_has ls 4 [(0, .ref (ad 5 0)), (1, .int a1), (2, .int a2), (3, .int a3)] := hl
  suffices hgo : ∀ (H : Heap) (locs : List Loc), va_P D vwCl (MWL cI cC cQ ad w) H → va_S (MA ad) s.heap H locs → W p l e (headSpec wsX6_piece rmX6_piece).room s m [Value.ref (ad 5 0), Value.int a1, Value.int a2, Value.int a3].toArray below meth c H locs 0 0 (MQ below (va_Qi (fun r u => (r, u) = sX6_piece w a1 a2 a3 ∧ R6I u) (fun u t => va_P D vwCl (MWL cI cC cQ ad u) t.heap) (MA ad)) [Value.ref (ad 5 0), Value.int a1, Value.int a2, Value.int a3].toArray s 0 0 (MA ad)) (F0 m 0 ls []) from hgo s.heap [] hP va_S.rf
  intro H locs hP hS
  have E := sX6_piece.eq_1 w a1 a2 a3
  refine lv_aload_n hx hb dX6_piece_0 rfl (lv_at hl 0 rfl) ?_
  refine g6_wagon hx hb hts hin6 hown hK hP (hts (.fieldLink RX6 10 "LoadedForTheLane" "wagon" "LLoadedForTheLane$Wagon;") (by decide +kernel)) dX6_piece_1 ?_
  refine lv_iload_n hx hb dX6_piece_4 rfl (lv_at hl 1 rfl) ?_
  refine lv_iload_n hx hb dX6_piece_5 rfl (lv_at hl 2 rfl) ?_
  refine vp_callSi (va_Run.run (va_runVN (As := [.int a1, .int a2]) (rest := []) ⟨hx, hb, hml, hown, hts⟩ (kX4_hasPiece l D cI cC cQ (ad 0) (w 0) a1 a2) ⟨va_cnB 2 hts gX6_piece_X4_hasPiece_n157 rfl rfl rfl (nm_RX6_157 hN) (hts (.initialized RX4) (by decide +kernel)) mdsX4_hasPiece ⟨Nat.le_of_ble_eq_true rfl, Nat.le_of_ble_eq_true rfl⟩, hts (.instanceMethod yX4_hasPiece) (by decide +kernel), hts (.selects RX4 yX4_hasPiece yX4_hasPiece) (by decide +kernel)⟩ (x4_pre hK (mp_0 hP) hN) rfl rfl hl.1 rfl (lv_room (Nat.le_of_ble_eq_true rfl)) dX6_piece_6 ⟨Nat.zero_le _, Nat.zero_le _⟩)) (fun rn_1 hr_1 => ?_)
  obtain ⟨rfl, hz_1⟩ := hr_1
  refine lv_if_ne (tgt := 18) hx hb dX6_piece_9 (by decide) (fun c_2 => ?_) (fun c_2 => ?_)
  · have E := E.trans (if_neg c_2)
    have fc_2 := i_ne c_2
    rw [q_0] at fc_2
    have gc_2 := fX4_hasPiece c_2
    have gpc_2 := R4I_pieces (R6I_0 hI) (k := a1.toNatClampNeg) (by have := ix_cl (x := a1) (by omega); omega)
    refine lv_iload_n hx hb dX6_piece_18 rfl (lv_at hl 3 rfl) ?_
    by_cases c_4 : a3 = 0
    · have E := E.trans (if_pos c_4)
      refine lv_tableIn (off := 25) (tgt := 44) hx hb dX6_piece_19 (by rw [c_4]; decide) (by rw [c_4]; decide) (by rw [c_4]; rfl) (by decide) ?_
      have fc_4 := i_eq c_4
      rw [q_0] at fc_4
      refine lv_aload_n hx hb dX6_piece_44 rfl (lv_at hl 0 rfl) ?_
      refine g6_wagon hx hb hts hin6 hown hK hP (hts (.fieldLink RX6 10 "LoadedForTheLane" "wagon" "LLoadedForTheLane$Wagon;") (by decide +kernel)) dX6_piece_45 ?_
      refine g4_waysn hx hb hts hin4 hown hK (mp_0 hP) (nf_RX6_115 hN) dX6_piece_48 ?_
      refine lv_iload_n hx hb dX6_piece_51 rfl (lv_at hl 1 rfl) ?_
      have ix_5 : vp_in a1 2 := ix_of (by omega) (by omega)
      refine q4_ways (j := (a1.toNatClampNeg)) hx hb hK (mp_0 hP) ix_5 rfl dX6_piece_52 ?_
      have hk_5 : (a1.toNatClampNeg) < 2 := by have := ix_cl (x := a1) (by omega); omega
      refine gw_kindsn hx hb hts hin5 hown hK (mp_0 hP) hk_5 (nf_RX6_160 hN) dX6_piece_53 ?_
      refine lv_iload_n hx hb dX6_piece_56 rfl (lv_at hl 2 rfl) ?_
      have ix_6 : vp_in a2 6 := ix_of (by omega) (by omega)
      refine lw_kinds (j := (a2.toNatClampNeg)) hx hb hK (mp_0 hP) hk_5 ix_6 rfl dX6_piece_57 ?_
      exact W.iret (v := (w 0) (10 + 4 * (a1.toNatClampNeg)) (a2.toNatClampNeg)) hx hb hr (fun t ht hW => ⟨⟨_, w, rfl, ⟨E.symm, hI⟩, by show va_P _ _ _ t.heap; rw [ht]; exact hP⟩, hS.F ht⟩) hS.2.2 dX6_piece_58
    have E := E.trans (if_neg c_4)
    have fc_4 := i_ne c_4
    rw [q_0] at fc_4
    by_cases c_7 : a3 = 1
    · have E := E.trans (if_pos c_7)
      refine lv_tableIn (off := 40) (tgt := 59) hx hb dX6_piece_19 (by rw [c_7]; decide) (by rw [c_7]; decide) (by rw [c_7]; rfl) (by decide) ?_
      have fc_7 := i_eq c_7
      rw [q_1] at fc_7
      refine lv_aload_n hx hb dX6_piece_59 rfl (lv_at hl 0 rfl) ?_
      refine g6_wagon hx hb hts hin6 hown hK hP (hts (.fieldLink RX6 10 "LoadedForTheLane" "wagon" "LLoadedForTheLane$Wagon;") (by decide +kernel)) dX6_piece_60 ?_
      refine g4_waysn hx hb hts hin4 hown hK (mp_0 hP) (nf_RX6_115 hN) dX6_piece_63 ?_
      refine lv_iload_n hx hb dX6_piece_66 rfl (lv_at hl 1 rfl) ?_
      have ix_8 : vp_in a1 2 := ix_of (by omega) (by omega)
      refine q4_ways (j := (a1.toNatClampNeg)) hx hb hK (mp_0 hP) ix_8 rfl dX6_piece_67 ?_
      have hk_8 : (a1.toNatClampNeg) < 2 := by have := ix_cl (x := a1) (by omega); omega
      refine gw_figuresn hx hb hts hin5 hown hK (mp_0 hP) hk_8 (nf_RX6_161 hN) dX6_piece_68 ?_
      refine lv_iload_n hx hb dX6_piece_71 rfl (lv_at hl 2 rfl) ?_
      have ix_9 : vp_in a2 6 := ix_of (by omega) (by omega)
      refine lw_figures (j := (a2.toNatClampNeg)) hx hb hK (mp_0 hP) hk_8 ix_9 rfl dX6_piece_72 ?_
      exact W.iret (v := (w 0) (11 + 4 * (a1.toNatClampNeg)) (a2.toNatClampNeg)) hx hb hr (fun t ht hW => ⟨⟨_, w, rfl, ⟨E.symm, hI⟩, by show va_P _ _ _ t.heap; rw [ht]; exact hP⟩, hS.F ht⟩) hS.2.2 dX6_piece_73
    have E := E.trans (if_neg c_7)
    have fc_7 := i_ne c_7
    rw [q_1] at fc_7
    by_cases c_10 : a3 = 2
    · have E := E.trans (if_pos c_10)
      refine lv_tableIn (off := 55) (tgt := 74) hx hb dX6_piece_19 (by rw [c_10]; decide) (by rw [c_10]; decide) (by rw [c_10]; rfl) (by decide) ?_
      have fc_10 := i_eq c_10
      rw [q_2] at fc_10
      refine lv_aload_n hx hb dX6_piece_74 rfl (lv_at hl 0 rfl) ?_
      refine g6_wagon hx hb hts hin6 hown hK hP (hts (.fieldLink RX6 10 "LoadedForTheLane" "wagon" "LLoadedForTheLane$Wagon;") (by decide +kernel)) dX6_piece_75 ?_
      refine g4_waysn hx hb hts hin4 hown hK (mp_0 hP) (nf_RX6_115 hN) dX6_piece_78 ?_
      refine lv_iload_n hx hb dX6_piece_81 rfl (lv_at hl 1 rfl) ?_
      have ix_11 : vp_in a1 2 := ix_of (by omega) (by omega)
      refine q4_ways (j := (a1.toNatClampNeg)) hx hb hK (mp_0 hP) ix_11 rfl dX6_piece_82 ?_
      have hk_11 : (a1.toNatClampNeg) < 2 := by have := ix_cl (x := a1) (by omega); omega
      refine gw_minutesn hx hb hts hin5 hown hK (mp_0 hP) hk_11 (nf_RX6_164 hN) dX6_piece_83 ?_
      refine lv_iload_n hx hb dX6_piece_86 rfl (lv_at hl 2 rfl) ?_
      have ix_12 : vp_in a2 6 := ix_of (by omega) (by omega)
      refine lw_minutes (j := (a2.toNatClampNeg)) hx hb hK (mp_0 hP) hk_11 ix_12 rfl dX6_piece_87 ?_
      exact W.iret (v := (w 0) (12 + 4 * (a1.toNatClampNeg)) (a2.toNatClampNeg)) hx hb hr (fun t ht hW => ⟨⟨_, w, rfl, ⟨E.symm, hI⟩, by show va_P _ _ _ t.heap; rw [ht]; exact hP⟩, hS.F ht⟩) hS.2.2 dX6_piece_88
    have E := E.trans (if_neg c_10)
    have fc_10 := i_ne c_10
    rw [q_2] at fc_10
    refine lv_tableOut (tgt := 89) hx hb dX6_piece_19 (by omega) (by decide) ?_
    refine lv_aload_n hx hb dX6_piece_89 rfl (lv_at hl 0 rfl) ?_
    refine lv_bipush (v := (-2)) hx hb dX6_piece_90 (by decide +kernel) ?_
    refine va_calli (va_runV (As := [.int (-2)]) (rest := []) ⟨hx, hb, hml, hown, hts⟩ (kX6_refuse l D cI cC cQ ad sd aK aV w (-2) hd hI) (cwV 1 hts gX6_piece_X6_refuse rfl rfl rfl mdX6_refuse ⟨Nat.le_of_ble_eq_true rfl, Nat.le_of_ble_eq_true rfl⟩) (x6_pre hK hP hN hSE hST hS) rfl rfl hl.1 rfl (lv_room (Nat.le_of_ble_eq_true rfl)) dX6_piece_92 ⟨Nat.zero_le _, Nat.zero_le _⟩) hS (fun _ _ h => h) (fun _ h => h) (fun rn_3 wn_3 t H locs ht hvm hp_3 hB hz hfr hS => ?_)
    obtain ⟨hp_3, hJ_3⟩ := hp_3
    have E := bnd_e E hp_3
    have hP : va_P D vwCl (MWL cI cC cQ ad wn_3) H := ht ▸ hB
    exact W.iret (v := rn_3) hx hb hr (fun t ht hW => ⟨⟨_, wn_3, rfl, ⟨E.symm, hJ_3⟩, by show va_P _ _ _ t.heap; rw [ht]; exact hP⟩, hS.F ht⟩) hS.2.2 dX6_piece_95
  · have E := E.trans (if_pos c_2)
    have fc_2 := i_eq c_2
    rw [q_0] at fc_2
    refine lv_aload_n hx hb dX6_piece_12 rfl (lv_at hl 0 rfl) ?_
    refine lv_iconst (v := (-1)) hx hb dX6_piece_13 (by decide) ?_
    refine va_calli (va_runV (As := [.int (-1)]) (rest := []) ⟨hx, hb, hml, hown, hts⟩ (kX6_refuse l D cI cC cQ ad sd aK aV w (-1) hd hI) (cwV 1 hts gX6_piece_X6_refuse rfl rfl rfl mdX6_refuse ⟨Nat.le_of_ble_eq_true rfl, Nat.le_of_ble_eq_true rfl⟩) (x6_pre hK hP hN hSE hST hS) rfl rfl hl.1 rfl (lv_room (Nat.le_of_ble_eq_true rfl)) dX6_piece_14 ⟨Nat.zero_le _, Nat.zero_le _⟩) hS (fun _ _ h => h) (fun _ h => h) (fun rn_13 wn_13 t H locs ht hvm hp_13 hB hz hfr hS => ?_)
    obtain ⟨hp_13, hJ_13⟩ := hp_13
    have E := bnd_e E hp_13
    have hP : va_P D vwCl (MWL cI cC cQ ad wn_13) H := ht ▸ hB
    exact W.iret (v := rn_13) hx hb hr (fun t ht hW => ⟨⟨_, wn_13, rfl, ⟨E.symm, hJ_13⟩, by show va_P _ _ _ t.heap; rw [ht]; exact hP⟩, hS.F ht⟩) hS.2.2 dX6_piece_17
abbrev rmX6_off : Room := { frames := 3, cells := 0, slots := 0, locals := 62 }
set_option maxHeartbeats 4000000 in
set_option maxRecDepth 100000 in
theorem kX6_off (l : Launch) (D : va_G) (cI cC cQ : ClassId) (ad : Nat → Nat → Nat) (sd aK aV : Nat → Nat) (w : Nat → Nat → Nat → Int32) (hd : MD ad) (hI : R6I w)  : Met l yX6_off wsX6_off rmX6_off (va_Pc [Value.ref (ad 5 0)] (fun U => va_P D vwCl (MWL cI cC cQ ad w) U.heap ∧ va_K D vwCl [(cI, .int), (cC, .char), (cQ, .object "LoadedForTheLane$Way")] U ∧ NW U ∧ SE sd (MA ad) U U.heap ∧ STR aK aV (MA ad) U U.heap)) (va_Qi (fun r u => (r, u) = sX6_off w ∧ R6I u) (fun u t => va_P D vwCl (MWL cI cC cQ ad u) t.heap) (MA ad)) 0 0 (MA ad) := by
  refine Met.ofW (cc := cX6_off) (maxL := 1) (ret := (some .int)) (by decide) rfl ?_
  intro p e s m args below meth c s₁ B hml hv
  obtain ⟨rfl, hP, hK, hN, hSE, hST⟩ := hv
  have hx := B.exec
  have hb := B.bytes
  have hr := B.returns
  have hts := atoms_spec (ws := wsX6_off) B.pre
  have hown : s.vm.findClass RX6 = some m.cls := findClass_of_methodNamed B.named
  have hlocks := B.notSynchronized
  have hin4 : ∀ q ∈ wsX40, q ∈ wsX6_off := by decide +kernel
  have hin6 : ∀ q ∈ wsX60, q ∈ wsX6_off := by decide +kernel
  have hl := lv_entry ([.ref (ad 5 0)]) (n := 1) (Nat.le_of_ble_eq_true rfl)
  rw [lg_entry_eq]
  generalize (lg_sl ([.ref (ad 5 0)]) ++ List.replicate (1 - (lg_sl ([.ref (ad 5 0)])).length) Slot.unset).toArray = ls at hl ⊢
  have hl : lv_has ls 1 [(0, .ref (ad 5 0))] := hl
  suffices hgo : ∀ (H : Heap) (locs : List Loc), va_P D vwCl (MWL cI cC cQ ad w) H → va_S (MA ad) s.heap H locs → W p l e (headSpec wsX6_off rmX6_off).room s m [Value.ref (ad 5 0)].toArray below meth c H locs 0 0 (MQ below (va_Qi (fun r u => (r, u) = sX6_off w ∧ R6I u) (fun u t => va_P D vwCl (MWL cI cC cQ ad u) t.heap) (MA ad)) [Value.ref (ad 5 0)].toArray s 0 0 (MA ad)) (F0 m 0 ls []) from hgo s.heap [] hP va_S.rf
  intro H locs hP hS
  have E := sX6_off.eq_1 w
  refine lv_aload_n hx hb dX6_off_0 rfl (lv_at hl 0 rfl) ?_
  refine g6_wagon hx hb hts hin6 hown hK hP (hts (.fieldLink RX6 10 "LoadedForTheLane" "wagon" "LLoadedForTheLane$Wagon;") (by decide +kernel)) dX6_off_1 ?_
  refine va_calli (va_runVN (As := []) (rest := []) ⟨hx, hb, hml, hown, hts⟩ (kX4_takeTop l D cI cC cQ (ad 0) (w 0) (MD_0 hd) (R6I_0 hI)) ⟨va_cnB 0 hts gX6_off_X4_takeTop_n95 rfl rfl rfl (nm_RX6_95 hN) (hts (.initialized RX4) (by decide +kernel)) mdsX4_takeTop ⟨Nat.le_of_ble_eq_true rfl, Nat.le_of_ble_eq_true rfl⟩, hts (.instanceMethod yX4_takeTop) (by decide +kernel), hts (.selects RX4 yX4_takeTop yX4_takeTop) (by decide +kernel)⟩ (x4_pre hK (mp_0 hP) hN) rfl rfl hl.1 rfl (lv_room (Nat.le_of_ble_eq_true rfl)) dX6_off_4 ⟨Nat.zero_le _, Nat.zero_le _⟩) hS (fun _ _ h => MA_0 h) (fun _ h => MA_0 h) (fun rn_1 un_1 t H locs ht hvm hp_1 hB hz hfr hS => ?_)
  obtain ⟨hp_1, hz_1, hJ_1⟩ := hp_1
  have E := bnd_e E hp_1
  have hzi_1 := z_int hz_1
  have hP : va_P D vwCl (MWL cI cC cQ ad (sc w 0 un_1)) H := mp_up0 hd hP (ht ▸ hB) hfr
  obtain ⟨wn_1, hwn_1⟩ : ∃ x, x = sc w 0 un_1 := ⟨_, rfl⟩
  rw [← hwn_1] at hP
  have E := bns_e E hwn_1
  have hI_1 : R6I wn_1 := by rw [hwn_1]; exact R6I_up0 hI hJ_1
  refine lv_if_ne (tgt := 17) hx hb dX6_off_7 (by decide) (fun c_2 => ?_) (fun c_2 => ?_)
  · have E := E.trans (if_neg c_2)
    have fc_2 := i_ne c_2
    rw [q_0] at fc_2
    refine lv_aload_n hx hb dX6_off_17 rfl (lv_at hl 0 rfl) ?_
    refine g6_wagon hx hb hts hin6 hown hK hP (hts (.fieldLink RX6 10 "LoadedForTheLane" "wagon" "LLoadedForTheLane$Wagon;") (by decide +kernel)) dX6_off_18 ?_
    refine g4_layersn hx hb hts hin4 hown hK (mp_0 hP) (nf_RX6_99 hN) dX6_off_21 ?_
    have f_3 := R4I_layers (R6I_0 hI_1)
    exact W.iret (v := (wn_1 0) 6 0) hx hb hr (fun t ht hW => ⟨⟨_, wn_1, rfl, ⟨E.symm, hI_1⟩, by show va_P _ _ _ t.heap; rw [ht]; exact hP⟩, hS.F ht⟩) hS.2.2 dX6_off_24
  · have E := E.trans (if_pos c_2)
    have fc_2 := i_eq c_2
    rw [q_0] at fc_2
    refine lv_aload_n hx hb dX6_off_10 rfl (lv_at hl 0 rfl) ?_
    refine lv_bipush (v := (-3)) hx hb dX6_off_11 (by decide +kernel) ?_
    refine va_calli (va_runV (As := [.int (-3)]) (rest := []) ⟨hx, hb, hml, hown, hts⟩ (kX6_refuse l D cI cC cQ ad sd aK aV wn_1 (-3) hd hI_1) (cwV 1 hts gX6_off_X6_refuse rfl rfl rfl mdX6_refuse ⟨Nat.le_of_ble_eq_true rfl, Nat.le_of_ble_eq_true rfl⟩) (x6_pre hK hP hN hSE hST hS) rfl rfl hl.1 rfl (lv_room (Nat.le_of_ble_eq_true rfl)) dX6_off_13 ⟨Nat.zero_le _, Nat.zero_le _⟩) hS (fun _ _ h => h) (fun _ h => h) (fun rn_4 wn_4 t H locs ht hvm hp_4 hB hz hfr hS => ?_)
    obtain ⟨hp_4, hJ_4⟩ := hp_4
    have E := bnd_e E hp_4
    have hP : va_P D vwCl (MWL cI cC cQ ad wn_4) H := ht ▸ hB
    exact W.iret (v := rn_4) hx hb hr (fun t ht hW => ⟨⟨_, wn_4, rfl, ⟨E.symm, hJ_4⟩, by show va_P _ _ _ t.heap; rw [ht]; exact hP⟩, hS.F ht⟩) hS.2.2 dX6_off_16
abbrev rmX6_out : Room := { frames := 1, cells := 0, slots := 0, locals := 22 }
set_option maxHeartbeats 4000000 in
set_option maxRecDepth 100000 in
theorem kX6_out (l : Launch) (D : va_G) (cI cC cQ : ClassId) (ad : Nat → Nat → Nat) (sd aK aV : Nat → Nat) (w : Nat → Nat → Nat → Int32) (a1 : Int32) (a2 : Int32) (hd : MD ad) (hI : R6I w)  : Met l yX6_out wsX6_out rmX6_out (va_Pc [Value.ref (ad 5 0), Value.int a1, Value.int a2] (fun U => va_P D vwCl (MWL cI cC cQ ad w) U.heap ∧ va_K D vwCl [(cI, .int), (cC, .char), (cQ, .object "LoadedForTheLane$Way")] U ∧ NW U ∧ SE sd (MA ad) U U.heap ∧ STR aK aV (MA ad) U U.heap)) (va_Qi (fun r u => (r, u) = sX6_out w a1 a2 ∧ R6I u) (fun u t => va_P D vwCl (MWL cI cC cQ ad u) t.heap) (MA ad)) 0 0 (MA ad) := by
  refine Met.ofW (cc := cX6_out) (maxL := 4) (ret := (some .int)) (by decide) rfl ?_
  intro p e s m args below meth c s₁ B hml hv
  obtain ⟨rfl, hP, hK, hN, hSE, hST⟩ := hv
  have hx := B.exec
  have hb := B.bytes
  have hr := B.returns
  have hts := atoms_spec (ws := wsX6_out) B.pre
  have hown : s.vm.findClass RX6 = some m.cls := findClass_of_methodNamed B.named
  have hlocks := B.notSynchronized
  have hin4 : ∀ q ∈ wsX40, q ∈ wsX6_out := by decide +kernel
  have hin6 : ∀ q ∈ wsX60, q ∈ wsX6_out := by decide +kernel
  have hl := lv_entry ([.ref (ad 5 0), .int a1, .int a2]) (n := 4) (Nat.le_of_ble_eq_true rfl)
  rw [lg_entry_eq]
  generalize (lg_sl ([.ref (ad 5 0), .int a1, .int a2]) ++ List.replicate (4 - (lg_sl ([.ref (ad 5 0), .int a1, .int a2])).length) Slot.unset).toArray = ls at hl ⊢
  have hl : lv_has ls 4 [(0, .ref (ad 5 0)), (1, .int a1), (2, .int a2)] := hl
  suffices hgo : ∀ (H : Heap) (locs : List Loc), va_P D vwCl (MWL cI cC cQ ad w) H → va_S (MA ad) s.heap H locs → W p l e (headSpec wsX6_out rmX6_out).room s m [Value.ref (ad 5 0), Value.int a1, Value.int a2].toArray below meth c H locs 0 0 (MQ below (va_Qi (fun r u => (r, u) = sX6_out w a1 a2 ∧ R6I u) (fun u t => va_P D vwCl (MWL cI cC cQ ad u) t.heap) (MA ad)) [Value.ref (ad 5 0), Value.int a1, Value.int a2].toArray s 0 0 (MA ad)) (F0 m 0 ls []) from hgo s.heap [] hP va_S.rf
  intro H locs hP hS
  have E := sX6_out.eq_1 w a1 a2
  refine lv_aload_n hx hb dX6_out_0 rfl (lv_at hl 0 rfl) ?_
  refine g6_wagon hx hb hts hin6 hown hK hP (hts (.fieldLink RX6 10 "LoadedForTheLane" "wagon" "LLoadedForTheLane$Wagon;") (by decide +kernel)) dX6_out_1 ?_
  refine lv_iload_n hx hb dX6_out_4 rfl (lv_at hl 1 rfl) ?_
  refine vp_callSi (va_Run.run (va_runVN (As := [.int a1]) (rest := []) ⟨hx, hb, hml, hown, hts⟩ (kX4_hasLayer l D cI cC cQ (ad 0) (w 0) a1) ⟨va_cnB 1 hts gX6_out_X4_hasLayer_n127 rfl rfl rfl (nm_RX6_127 hN) (hts (.initialized RX4) (by decide +kernel)) mdsX4_hasLayer ⟨Nat.le_of_ble_eq_true rfl, Nat.le_of_ble_eq_true rfl⟩, hts (.instanceMethod yX4_hasLayer) (by decide +kernel), hts (.selects RX4 yX4_hasLayer yX4_hasLayer) (by decide +kernel)⟩ (x4_pre hK (mp_0 hP) hN) rfl rfl hl.1 rfl (lv_room (Nat.le_of_ble_eq_true rfl)) dX6_out_5 ⟨Nat.zero_le _, Nat.zero_le _⟩)) (fun rn_1 hr_1 => ?_)
  obtain ⟨rfl, hz_1⟩ := hr_1
  refine lv_if_ne (tgt := 17) hx hb dX6_out_8 (by decide) (fun c_2 => ?_) (fun c_2 => ?_)
  · have E := E.trans (if_neg c_2)
    have fc_2 := i_ne c_2
    rw [q_0] at fc_2
    have gc_2 := fX4_hasLayer c_2
    have glc_2 := R4I_layers (R6I_0 hI)
    refine lv_iload_n hx hb dX6_out_17 rfl (lv_at hl 2 rfl) ?_
    refine lv_if_ge (tgt := 28) hx hb dX6_out_18 (by decide) (fun c_3 => ?_) (fun c_3 => ?_)
    · have E := E.trans (if_pos c_3)
      have fc_3 := i_le c_3
      rw [q_0] at fc_3
      refine lv_iload_n hx hb dX6_out_28 rfl (lv_at hl 2 rfl) ?_
      refine lv_bipush (v := 9) hx hb dX6_out_29 (by decide +kernel) ?_
      refine lv_icmp_le (tgt := 41) hx hb dX6_out_31 (by decide) (fun c_4 => ?_) (fun c_4 => ?_)
      · have E := E.trans (if_pos c_4)
        have fc_4 := i_le c_4
        rw [q_9] at fc_4
        refine lv_aload_n hx hb dX6_out_41 rfl (lv_at hl 0 rfl) ?_
        refine g6_wagon hx hb hts hin6 hown hK hP (hts (.fieldLink RX6 10 "LoadedForTheLane" "wagon" "LLoadedForTheLane$Wagon;") (by decide +kernel)) dX6_out_42 ?_
        refine g4_outsn hx hb hts hin4 hown hK (mp_0 hP) (nf_RX6_139 hN) dX6_out_45 ?_
        refine lv_iload_n hx hb dX6_out_48 rfl (lv_at hl 1 rfl) ?_
        have ix_5 : vp_in a1 12 := ix_of (by omega) (by omega)
        refine l4_outs (j := (a1.toNatClampNeg)) hx hb hK (mp_0 hP) ix_5 rfl dX6_out_49 ?_
        refine lv_istore_n (lv' := [(3, .int ((w 0) 2 (a1.toNatClampNeg))), (0, .ref (ad 5 0)), (1, .int a1), (2, .int a2)]) hx hb dX6_out_50 rfl hl (by decide) rfl (fun ls hl => ?_)
        refine lv_aload_n hx hb dX6_out_51 rfl (lv_at hl 1 rfl) ?_
        refine g6_wagon hx hb hts hin6 hown hK hP (hts (.fieldLink RX6 10 "LoadedForTheLane" "wagon" "LLoadedForTheLane$Wagon;") (by decide +kernel)) dX6_out_52 ?_
        refine g4_outsn hx hb hts hin4 hown hK (mp_0 hP) (nf_RX6_139 hN) dX6_out_55 ?_
        refine lv_iload_n hx hb dX6_out_58 rfl (lv_at hl 2 rfl) ?_
        refine lv_iload_n hx hb dX6_out_59 rfl (lv_at hl 3 rfl) ?_
        have ix_6 : vp_in a1 12 := ix_of (by omega) (by omega)
        refine a6_outs_0 (j := (a1.toNatClampNeg)) hx hb hK hP hd hS ix_6 rfl dX6_out_60 (fun H locs hP hS => ?_)
        obtain ⟨wn_6, hwn_6⟩ : ∃ x, x = sc w 0 (st (w 0) 2 (a1.toNatClampNeg) a2) := ⟨_, rfl⟩
        rw [← hwn_6] at hP
        have E := bns_e E hwn_6
        have hI_6 : R6I wn_6 := by rw [hwn_6]; exact R6I_up0 hI (R4I_arr (R6I_0 hI) (by decide))
        refine lv_iload_n hx hb dX6_out_61 rfl (lv_at hl 0 rfl) ?_
        exact W.iret (v := (w 0) 2 (a1.toNatClampNeg)) hx hb hr (fun t ht hW => ⟨⟨_, wn_6, rfl, ⟨E.symm, hI_6⟩, by show va_P _ _ _ t.heap; rw [ht]; exact hP⟩, hS.F ht⟩) hS.2.2 dX6_out_62
      · have E := E.trans (if_neg c_4)
        have fc_4 := i_nle c_4
        rw [q_9] at fc_4
        refine lv_aload_n hx hb dX6_out_34 rfl (lv_at hl 0 rfl) ?_
        refine lv_bipush (v := (-6)) hx hb dX6_out_35 (by decide +kernel) ?_
        refine va_calli (va_runV (As := [.int (-6)]) (rest := []) ⟨hx, hb, hml, hown, hts⟩ (kX6_refuse l D cI cC cQ ad sd aK aV w (-6) hd hI) (cwV 1 hts gX6_out_X6_refuse rfl rfl rfl mdX6_refuse ⟨Nat.le_of_ble_eq_true rfl, Nat.le_of_ble_eq_true rfl⟩) (x6_pre hK hP hN hSE hST hS) rfl rfl hl.1 rfl (lv_room (Nat.le_of_ble_eq_true rfl)) dX6_out_37 ⟨Nat.zero_le _, Nat.zero_le _⟩) hS (fun _ _ h => h) (fun _ h => h) (fun rn_7 wn_7 t H locs ht hvm hp_7 hB hz hfr hS => ?_)
        obtain ⟨hp_7, hJ_7⟩ := hp_7
        have E := bnd_e E hp_7
        have hP : va_P D vwCl (MWL cI cC cQ ad wn_7) H := ht ▸ hB
        exact W.iret (v := rn_7) hx hb hr (fun t ht hW => ⟨⟨_, wn_7, rfl, ⟨E.symm, hJ_7⟩, by show va_P _ _ _ t.heap; rw [ht]; exact hP⟩, hS.F ht⟩) hS.2.2 dX6_out_40
    · have E := E.trans (if_neg c_3)
      have fc_3 := i_nle c_3
      rw [q_0] at fc_3
      refine lv_aload_n hx hb dX6_out_21 rfl (lv_at hl 0 rfl) ?_
      refine lv_bipush (v := (-4)) hx hb dX6_out_22 (by decide +kernel) ?_
      refine va_calli (va_runV (As := [.int (-4)]) (rest := []) ⟨hx, hb, hml, hown, hts⟩ (kX6_refuse l D cI cC cQ ad sd aK aV w (-4) hd hI) (cwV 1 hts gX6_out_X6_refuse rfl rfl rfl mdX6_refuse ⟨Nat.le_of_ble_eq_true rfl, Nat.le_of_ble_eq_true rfl⟩) (x6_pre hK hP hN hSE hST hS) rfl rfl hl.1 rfl (lv_room (Nat.le_of_ble_eq_true rfl)) dX6_out_24 ⟨Nat.zero_le _, Nat.zero_le _⟩) hS (fun _ _ h => h) (fun _ h => h) (fun rn_8 wn_8 t H locs ht hvm hp_8 hB hz hfr hS => ?_)
      obtain ⟨hp_8, hJ_8⟩ := hp_8
      have E := bnd_e E hp_8
      have hP : va_P D vwCl (MWL cI cC cQ ad wn_8) H := ht ▸ hB
      exact W.iret (v := rn_8) hx hb hr (fun t ht hW => ⟨⟨_, wn_8, rfl, ⟨E.symm, hJ_8⟩, by show va_P _ _ _ t.heap; rw [ht]; exact hP⟩, hS.F ht⟩) hS.2.2 dX6_out_27
  · have E := E.trans (if_pos c_2)
    have fc_2 := i_eq c_2
    rw [q_0] at fc_2
    refine lv_aload_n hx hb dX6_out_11 rfl (lv_at hl 0 rfl) ?_
    refine lv_iconst (v := (-1)) hx hb dX6_out_12 (by decide) ?_
    refine va_calli (va_runV (As := [.int (-1)]) (rest := []) ⟨hx, hb, hml, hown, hts⟩ (kX6_refuse l D cI cC cQ ad sd aK aV w (-1) hd hI) (cwV 1 hts gX6_out_X6_refuse rfl rfl rfl mdX6_refuse ⟨Nat.le_of_ble_eq_true rfl, Nat.le_of_ble_eq_true rfl⟩) (x6_pre hK hP hN hSE hST hS) rfl rfl hl.1 rfl (lv_room (Nat.le_of_ble_eq_true rfl)) dX6_out_13 ⟨Nat.zero_le _, Nat.zero_le _⟩) hS (fun _ _ h => h) (fun _ h => h) (fun rn_9 wn_9 t H locs ht hvm hp_9 hB hz hfr hS => ?_)
    obtain ⟨hp_9, hJ_9⟩ := hp_9
    have E := bnd_e E hp_9
    have hP : va_P D vwCl (MWL cI cC cQ ad wn_9) H := ht ▸ hB
    exact W.iret (v := rn_9) hx hb hr (fun t ht hW => ⟨⟨_, wn_9, rfl, ⟨E.symm, hJ_9⟩, by show va_P _ _ _ t.heap; rw [ht]; exact hP⟩, hS.F ht⟩) hS.2.2 dX6_out_16
abbrev rmX6_set : Room := { frames := 1, cells := 0, slots := 0, locals := 22 }
set_option maxHeartbeats 4000000 in
set_option maxRecDepth 100000 in
theorem kX6_set (l : Launch) (D : va_G) (cI cC cQ : ClassId) (ad : Nat → Nat → Nat) (sd aK aV : Nat → Nat) (w : Nat → Nat → Nat → Int32) (a1 : Int32) (a2 : Int32) (hd : MD ad) (hI : R6I w)  : Met l yX6_set wsX6_set rmX6_set (va_Pc [Value.ref (ad 5 0), Value.int a1, Value.int a2] (fun U => va_P D vwCl (MWL cI cC cQ ad w) U.heap ∧ va_K D vwCl [(cI, .int), (cC, .char), (cQ, .object "LoadedForTheLane$Way")] U ∧ NW U ∧ SE sd (MA ad) U U.heap ∧ STR aK aV (MA ad) U U.heap)) (va_Qi (fun r u => (r, u) = sX6_set w a1 a2 ∧ R6I u) (fun u t => va_P D vwCl (MWL cI cC cQ ad u) t.heap) (MA ad)) 0 0 (MA ad) := by
  refine Met.ofW (cc := cX6_set) (maxL := 4) (ret := (some .int)) (by decide) rfl ?_
  intro p e s m args below meth c s₁ B hml hv
  obtain ⟨rfl, hP, hK, hN, hSE, hST⟩ := hv
  have hx := B.exec
  have hb := B.bytes
  have hr := B.returns
  have hts := atoms_spec (ws := wsX6_set) B.pre
  have hown : s.vm.findClass RX6 = some m.cls := findClass_of_methodNamed B.named
  have hlocks := B.notSynchronized
  have hin4 : ∀ q ∈ wsX40, q ∈ wsX6_set := by decide +kernel
  have hin6 : ∀ q ∈ wsX60, q ∈ wsX6_set := by decide +kernel
  have hl := lv_entry ([.ref (ad 5 0), .int a1, .int a2]) (n := 4) (Nat.le_of_ble_eq_true rfl)
  rw [lg_entry_eq]
  generalize (lg_sl ([.ref (ad 5 0), .int a1, .int a2]) ++ List.replicate (4 - (lg_sl ([.ref (ad 5 0), .int a1, .int a2])).length) Slot.unset).toArray = ls at hl ⊢
  have hl : lv_has ls 4 [(0, .ref (ad 5 0)), (1, .int a1), (2, .int a2)] := hl
  suffices hgo : ∀ (H : Heap) (locs : List Loc), va_P D vwCl (MWL cI cC cQ ad w) H → va_S (MA ad) s.heap H locs → W p l e (headSpec wsX6_set rmX6_set).room s m [Value.ref (ad 5 0), Value.int a1, Value.int a2].toArray below meth c H locs 0 0 (MQ below (va_Qi (fun r u => (r, u) = sX6_set w a1 a2 ∧ R6I u) (fun u t => va_P D vwCl (MWL cI cC cQ ad u) t.heap) (MA ad)) [Value.ref (ad 5 0), Value.int a1, Value.int a2].toArray s 0 0 (MA ad)) (F0 m 0 ls []) from hgo s.heap [] hP va_S.rf
  intro H locs hP hS
  have E := sX6_set.eq_1 w a1 a2
  refine lv_iload_n hx hb dX6_set_0 rfl (lv_at hl 1 rfl) ?_
  refine lv_if_lt (tgt := 9) hx hb dX6_set_1 (by decide) (fun c_1 => ?_) (fun c_1 => ?_)
  · have E := E.trans (if_pos c_1)
    have fc_1 := i_lt c_1
    rw [q_0] at fc_1
    refine lv_aload_n hx hb dX6_set_9 rfl (lv_at hl 0 rfl) ?_
    refine lv_bipush (v := (-2)) hx hb dX6_set_10 (by decide +kernel) ?_
    refine va_calli (va_runV (As := [.int (-2)]) (rest := []) ⟨hx, hb, hml, hown, hts⟩ (kX6_refuse l D cI cC cQ ad sd aK aV w (-2) hd hI) (cwV 1 hts gX6_set_X6_refuse rfl rfl rfl mdX6_refuse ⟨Nat.le_of_ble_eq_true rfl, Nat.le_of_ble_eq_true rfl⟩) (x6_pre hK hP hN hSE hST hS) rfl rfl hl.1 rfl (lv_room (Nat.le_of_ble_eq_true rfl)) dX6_set_12 ⟨Nat.zero_le _, Nat.zero_le _⟩) hS (fun _ _ h => h) (fun _ h => h) (fun rn_2 wn_2 t H locs ht hvm hp_2 hB hz hfr hS => ?_)
    obtain ⟨hp_2, hJ_2⟩ := hp_2
    have E := bnd_e E hp_2
    have hP : va_P D vwCl (MWL cI cC cQ ad wn_2) H := ht ▸ hB
    exact W.iret (v := rn_2) hx hb hr (fun t ht hW => ⟨⟨_, wn_2, rfl, ⟨E.symm, hJ_2⟩, by show va_P _ _ _ t.heap; rw [ht]; exact hP⟩, hS.F ht⟩) hS.2.2 dX6_set_15
  · have E := E.trans (if_neg c_1)
    have fc_1 := i_nlt c_1
    rw [q_0] at fc_1
    refine lv_iload_n hx hb dX6_set_4 rfl (lv_at hl 1 rfl) ?_
    refine lv_iconst (v := 3) hx hb dX6_set_5 (by decide) ?_
    refine lv_icmp_le (tgt := 16) hx hb dX6_set_6 (by decide) (fun c_3 => ?_) (fun c_3 => ?_)
    · have E := E.trans (if_pos c_3)
      have fc_3 := i_le c_3
      rw [q_3] at fc_3
      refine lv_iload_n hx hb dX6_set_16 rfl (lv_at hl 2 rfl) ?_
      refine va_gets (v := .ref (sd 0)) hx hb hSE.1 hS hown (hts (.fieldLink RX6 167 "LoadedForTheLane" "LEAST_SETTING" "[I") (by decide +kernel)) (fun _ h9 => h9) dX6_set_17 ?_
      refine lv_iload_n hx hb dX6_set_20 rfl (lv_at hl 1 rfl) ?_
      have ix_4 : vp_in a1 4 := ix_of (by omega) (by omega)
      refine va_ti (v := .int (leastS (a1.toNatClampNeg))) hx hb hSE.2.1 hS ix_4 rfl dX6_set_21 ?_
      refine lv_icmp_ge (tgt := 32) hx hb dX6_set_22 (by decide) (fun c_5 => ?_) (fun c_5 => ?_)
      · have E := E.trans (if_pos c_5)
        have fc_5 := i_le c_5
        refine lv_iload_n hx hb dX6_set_32 rfl (lv_at hl 2 rfl) ?_
        refine va_gets (v := .ref (sd 1)) hx hb hSE.2.2.1 hS hown (hts (.fieldLink RX6 170 "LoadedForTheLane" "MOST_SETTING" "[I") (by decide +kernel)) (fun _ h9 => h9) dX6_set_33 ?_
        refine lv_iload_n hx hb dX6_set_36 rfl (lv_at hl 1 rfl) ?_
        have ix_6 : vp_in a1 4 := ix_of (by omega) (by omega)
        refine va_ti (v := .int (mostS (a1.toNatClampNeg))) hx hb hSE.2.2.2 hS ix_6 rfl dX6_set_37 ?_
        refine lv_icmp_le (tgt := 48) hx hb dX6_set_38 (by decide) (fun c_7 => ?_) (fun c_7 => ?_)
        · have E := E.trans (if_pos c_7)
          have fc_7 := i_le c_7
          refine lv_aload_n hx hb dX6_set_48 rfl (lv_at hl 0 rfl) ?_
          refine g6_wagon hx hb hts hin6 hown hK hP (hts (.fieldLink RX6 10 "LoadedForTheLane" "wagon" "LLoadedForTheLane$Wagon;") (by decide +kernel)) dX6_set_49 ?_
          refine g4_settingsn hx hb hts hin4 hown hK (mp_0 hP) (nf_RX6_173 hN) dX6_set_52 ?_
          refine lv_iload_n hx hb dX6_set_55 rfl (lv_at hl 1 rfl) ?_
          have ix_8 : vp_in a1 4 := ix_of (by omega) (by omega)
          refine l4_settings (j := (a1.toNatClampNeg)) hx hb hK (mp_0 hP) ix_8 rfl dX6_set_56 ?_
          refine lv_istore_n (lv' := [(3, .int ((w 0) 7 (a1.toNatClampNeg))), (0, .ref (ad 5 0)), (1, .int a1), (2, .int a2)]) hx hb dX6_set_57 rfl hl (by decide) rfl (fun ls hl => ?_)
          refine lv_aload_n hx hb dX6_set_58 rfl (lv_at hl 1 rfl) ?_
          refine g6_wagon hx hb hts hin6 hown hK hP (hts (.fieldLink RX6 10 "LoadedForTheLane" "wagon" "LLoadedForTheLane$Wagon;") (by decide +kernel)) dX6_set_59 ?_
          refine g4_settingsn hx hb hts hin4 hown hK (mp_0 hP) (nf_RX6_173 hN) dX6_set_62 ?_
          refine lv_iload_n hx hb dX6_set_65 rfl (lv_at hl 2 rfl) ?_
          refine lv_iload_n hx hb dX6_set_66 rfl (lv_at hl 3 rfl) ?_
          have ix_9 : vp_in a1 4 := ix_of (by omega) (by omega)
          refine a6_settings_0 (j := (a1.toNatClampNeg)) hx hb hK hP hd hS ix_9 rfl dX6_set_67 (fun H locs hP hS => ?_)
          obtain ⟨wn_9, hwn_9⟩ : ∃ x, x = sc w 0 (st (w 0) 7 (a1.toNatClampNeg) a2) := ⟨_, rfl⟩
          rw [← hwn_9] at hP
          have E := bns_e E hwn_9
          have hI_9 : R6I wn_9 := by rw [hwn_9]; exact R6I_up0 hI (R4I_arr (R6I_0 hI) (by decide))
          refine lv_iload_n hx hb dX6_set_68 rfl (lv_at hl 0 rfl) ?_
          exact W.iret (v := (w 0) 7 (a1.toNatClampNeg)) hx hb hr (fun t ht hW => ⟨⟨_, wn_9, rfl, ⟨E.symm, hI_9⟩, by show va_P _ _ _ t.heap; rw [ht]; exact hP⟩, hS.F ht⟩) hS.2.2 dX6_set_69
        · have E := E.trans (if_neg c_7)
          have fc_7 := i_nle c_7
          refine lv_aload_n hx hb dX6_set_41 rfl (lv_at hl 0 rfl) ?_
          refine lv_bipush (v := (-6)) hx hb dX6_set_42 (by decide +kernel) ?_
          refine va_calli (va_runV (As := [.int (-6)]) (rest := []) ⟨hx, hb, hml, hown, hts⟩ (kX6_refuse l D cI cC cQ ad sd aK aV w (-6) hd hI) (cwV 1 hts gX6_set_X6_refuse rfl rfl rfl mdX6_refuse ⟨Nat.le_of_ble_eq_true rfl, Nat.le_of_ble_eq_true rfl⟩) (x6_pre hK hP hN hSE hST hS) rfl rfl hl.1 rfl (lv_room (Nat.le_of_ble_eq_true rfl)) dX6_set_44 ⟨Nat.zero_le _, Nat.zero_le _⟩) hS (fun _ _ h => h) (fun _ h => h) (fun rn_10 wn_10 t H locs ht hvm hp_10 hB hz hfr hS => ?_)
          obtain ⟨hp_10, hJ_10⟩ := hp_10
          have E := bnd_e E hp_10
          have hP : va_P D vwCl (MWL cI cC cQ ad wn_10) H := ht ▸ hB
          exact W.iret (v := rn_10) hx hb hr (fun t ht hW => ⟨⟨_, wn_10, rfl, ⟨E.symm, hJ_10⟩, by show va_P _ _ _ t.heap; rw [ht]; exact hP⟩, hS.F ht⟩) hS.2.2 dX6_set_47
      · have E := E.trans (if_neg c_5)
        have fc_5 := i_nle c_5
        refine lv_aload_n hx hb dX6_set_25 rfl (lv_at hl 0 rfl) ?_
        refine lv_bipush (v := (-4)) hx hb dX6_set_26 (by decide +kernel) ?_
        refine va_calli (va_runV (As := [.int (-4)]) (rest := []) ⟨hx, hb, hml, hown, hts⟩ (kX6_refuse l D cI cC cQ ad sd aK aV w (-4) hd hI) (cwV 1 hts gX6_set_X6_refuse rfl rfl rfl mdX6_refuse ⟨Nat.le_of_ble_eq_true rfl, Nat.le_of_ble_eq_true rfl⟩) (x6_pre hK hP hN hSE hST hS) rfl rfl hl.1 rfl (lv_room (Nat.le_of_ble_eq_true rfl)) dX6_set_28 ⟨Nat.zero_le _, Nat.zero_le _⟩) hS (fun _ _ h => h) (fun _ h => h) (fun rn_11 wn_11 t H locs ht hvm hp_11 hB hz hfr hS => ?_)
        obtain ⟨hp_11, hJ_11⟩ := hp_11
        have E := bnd_e E hp_11
        have hP : va_P D vwCl (MWL cI cC cQ ad wn_11) H := ht ▸ hB
        exact W.iret (v := rn_11) hx hb hr (fun t ht hW => ⟨⟨_, wn_11, rfl, ⟨E.symm, hJ_11⟩, by show va_P _ _ _ t.heap; rw [ht]; exact hP⟩, hS.F ht⟩) hS.2.2 dX6_set_31
    · have E := E.trans (if_neg c_3)
      have fc_3 := i_nle c_3
      rw [q_3] at fc_3
      refine lv_aload_n hx hb dX6_set_9 rfl (lv_at hl 0 rfl) ?_
      refine lv_bipush (v := (-2)) hx hb dX6_set_10 (by decide +kernel) ?_
      refine va_calli (va_runV (As := [.int (-2)]) (rest := []) ⟨hx, hb, hml, hown, hts⟩ (kX6_refuse l D cI cC cQ ad sd aK aV w (-2) hd hI) (cwV 1 hts gX6_set_X6_refuse rfl rfl rfl mdX6_refuse ⟨Nat.le_of_ble_eq_true rfl, Nat.le_of_ble_eq_true rfl⟩) (x6_pre hK hP hN hSE hST hS) rfl rfl hl.1 rfl (lv_room (Nat.le_of_ble_eq_true rfl)) dX6_set_12 ⟨Nat.zero_le _, Nat.zero_le _⟩) hS (fun _ _ h => h) (fun _ h => h) (fun rn_12 wn_12 t H locs ht hvm hp_12 hB hz hfr hS => ?_)
      obtain ⟨hp_12, hJ_12⟩ := hp_12
      have E := bnd_e E hp_12
      have hP : va_P D vwCl (MWL cI cC cQ ad wn_12) H := ht ▸ hB
      exact W.iret (v := rn_12) hx hb hr (fun t ht hW => ⟨⟨_, wn_12, rfl, ⟨E.symm, hJ_12⟩, by show va_P _ _ _ t.heap; rw [ht]; exact hP⟩, hS.F ht⟩) hS.2.2 dX6_set_15
abbrev rmX6_shift : Room := { frames := 2, cells := 0, slots := 0, locals := 43 }
set_option maxHeartbeats 4000000 in
set_option maxRecDepth 100000 in
theorem kX6_shift (l : Launch) (D : va_G) (cI cC cQ : ClassId) (ad : Nat → Nat → Nat) (sd aK aV : Nat → Nat) (w : Nat → Nat → Nat → Int32) (a1 : Int32) (a2 : Int32) (a3 : Int32) (hd : MD ad) (hI : R6I w)  : Met l yX6_shift wsX6_shift rmX6_shift (va_Pc [Value.ref (ad 5 0), Value.int a1, Value.int a2, Value.int a3] (fun U => va_P D vwCl (MWL cI cC cQ ad w) U.heap ∧ va_K D vwCl [(cI, .int), (cC, .char), (cQ, .object "LoadedForTheLane$Way")] U ∧ NW U ∧ SE sd (MA ad) U U.heap ∧ STR aK aV (MA ad) U U.heap)) (va_Qi (fun r u => (r, u) = sX6_shift w a1 a2 a3 ∧ R6I u) (fun u t => va_P D vwCl (MWL cI cC cQ ad u) t.heap) (MA ad)) 0 0 (MA ad) := by
  refine Met.ofW (cc := cX6_shift) (maxL := 4) (ret := (some .int)) (by decide) rfl ?_
  intro p e s m args below meth c s₁ B hml hv
  obtain ⟨rfl, hP, hK, hN, hSE, hST⟩ := hv
  have hx := B.exec
  have hb := B.bytes
  have hr := B.returns
  have hts := atoms_spec (ws := wsX6_shift) B.pre
  have hown : s.vm.findClass RX6 = some m.cls := findClass_of_methodNamed B.named
  have hlocks := B.notSynchronized
  have hin6 : ∀ q ∈ wsX60, q ∈ wsX6_shift := by decide +kernel
  have hl := lv_entry ([.ref (ad 5 0), .int a1, .int a2, .int a3]) (n := 4) (Nat.le_of_ble_eq_true rfl)
  rw [lg_entry_eq]
  generalize (lg_sl ([.ref (ad 5 0), .int a1, .int a2, .int a3]) ++ List.replicate (4 - (lg_sl ([.ref (ad 5 0), .int a1, .int a2, .int a3])).length) Slot.unset).toArray = ls at hl ⊢
  have hl : lv_has ls 4 [(0, .ref (ad 5 0)), (1, .int a1), (2, .int a2), (3, .int a3)] := hl
  suffices hgo : ∀ (H : Heap) (locs : List Loc), va_P D vwCl (MWL cI cC cQ ad w) H → va_S (MA ad) s.heap H locs → W p l e (headSpec wsX6_shift rmX6_shift).room s m [Value.ref (ad 5 0), Value.int a1, Value.int a2, Value.int a3].toArray below meth c H locs 0 0 (MQ below (va_Qi (fun r u => (r, u) = sX6_shift w a1 a2 a3 ∧ R6I u) (fun u t => va_P D vwCl (MWL cI cC cQ ad u) t.heap) (MA ad)) [Value.ref (ad 5 0), Value.int a1, Value.int a2, Value.int a3].toArray s 0 0 (MA ad)) (F0 m 0 ls []) from hgo s.heap [] hP va_S.rf
  intro H locs hP hS
  have E := sX6_shift.eq_1 w a1 a2 a3
  refine lv_aload_n hx hb dX6_shift_0 rfl (lv_at hl 0 rfl) ?_
  refine g6_wagon hx hb hts hin6 hown hK hP (hts (.fieldLink RX6 10 "LoadedForTheLane" "wagon" "LLoadedForTheLane$Wagon;") (by decide +kernel)) dX6_shift_1 ?_
  refine lv_iload_n hx hb dX6_shift_4 rfl (lv_at hl 1 rfl) ?_
  refine lv_iload_n hx hb dX6_shift_5 rfl (lv_at hl 2 rfl) ?_
  refine vp_callSi (va_Run.run (va_runVN (As := [.int a1, .int a2]) (rest := []) ⟨hx, hb, hml, hown, hts⟩ (kX4_hasPiece l D cI cC cQ (ad 0) (w 0) a1 a2) ⟨va_cnB 2 hts gX6_shift_X4_hasPiece_n157 rfl rfl rfl (nm_RX6_157 hN) (hts (.initialized RX4) (by decide +kernel)) mdsX4_hasPiece ⟨Nat.le_of_ble_eq_true rfl, Nat.le_of_ble_eq_true rfl⟩, hts (.instanceMethod yX4_hasPiece) (by decide +kernel), hts (.selects RX4 yX4_hasPiece yX4_hasPiece) (by decide +kernel)⟩ (x4_pre hK (mp_0 hP) hN) rfl rfl hl.1 rfl (lv_room (Nat.le_of_ble_eq_true rfl)) dX6_shift_6 ⟨Nat.zero_le _, Nat.zero_le _⟩)) (fun rn_1 hr_1 => ?_)
  obtain ⟨rfl, hz_1⟩ := hr_1
  refine lv_if_eq (tgt := 23) hx hb dX6_shift_9 (by decide) (fun c_2 => ?_) (fun c_2 => ?_)
  · have E := E.trans (if_pos c_2)
    have fc_2 := i_eq c_2
    rw [q_0] at fc_2
    refine lv_aload_n hx hb dX6_shift_23 rfl (lv_at hl 0 rfl) ?_
    refine lv_iconst (v := (-1)) hx hb dX6_shift_24 (by decide) ?_
    refine va_calli (va_runV (As := [.int (-1)]) (rest := []) ⟨hx, hb, hml, hown, hts⟩ (kX6_refuse l D cI cC cQ ad sd aK aV w (-1) hd hI) (cwV 1 hts gX6_shift_X6_refuse rfl rfl rfl mdX6_refuse ⟨Nat.le_of_ble_eq_true rfl, Nat.le_of_ble_eq_true rfl⟩) (x6_pre hK hP hN hSE hST hS) rfl rfl hl.1 rfl (lv_room (Nat.le_of_ble_eq_true rfl)) dX6_shift_25 ⟨Nat.zero_le _, Nat.zero_le _⟩) hS (fun _ _ h => h) (fun _ h => h) (fun rn_3 wn_3 t H locs ht hvm hp_3 hB hz hfr hS => ?_)
    obtain ⟨hp_3, hJ_3⟩ := hp_3
    have E := bnd_e E hp_3
    have hP : va_P D vwCl (MWL cI cC cQ ad wn_3) H := ht ▸ hB
    exact W.iret (v := rn_3) hx hb hr (fun t ht hW => ⟨⟨_, wn_3, rfl, ⟨E.symm, hJ_3⟩, by show va_P _ _ _ t.heap; rw [ht]; exact hP⟩, hS.F ht⟩) hS.2.2 dX6_shift_28
  · have E := E.trans (if_neg c_2)
    have fc_2 := i_ne c_2
    rw [q_0] at fc_2
    have gc_2 := fX4_hasPiece c_2
    have gpc_2 := R4I_pieces (R6I_0 hI) (k := a1.toNatClampNeg) (by have := ix_cl (x := a1) (by omega); omega)
    refine lv_aload_n hx hb dX6_shift_12 rfl (lv_at hl 0 rfl) ?_
    refine g6_wagon hx hb hts hin6 hown hK hP (hts (.fieldLink RX6 10 "LoadedForTheLane" "wagon" "LLoadedForTheLane$Wagon;") (by decide +kernel)) dX6_shift_13 ?_
    refine lv_iload_n hx hb dX6_shift_16 rfl (lv_at hl 3 rfl) ?_
    refine vp_callSi (va_Run.run (va_runVN (As := [.int a3]) (rest := []) ⟨hx, hb, hml, hown, hts⟩ (kX4_hasLayer l D cI cC cQ (ad 0) (w 0) a3) ⟨va_cnB 1 hts gX6_shift_X4_hasLayer_n127 rfl rfl rfl (nm_RX6_127 hN) (hts (.initialized RX4) (by decide +kernel)) mdsX4_hasLayer ⟨Nat.le_of_ble_eq_true rfl, Nat.le_of_ble_eq_true rfl⟩, hts (.instanceMethod yX4_hasLayer) (by decide +kernel), hts (.selects RX4 yX4_hasLayer yX4_hasLayer) (by decide +kernel)⟩ (x4_pre hK (mp_0 hP) hN) rfl rfl hl.1 rfl (lv_room (Nat.le_of_ble_eq_true rfl)) dX6_shift_17 ⟨Nat.zero_le _, Nat.zero_le _⟩)) (fun rn_4 hr_4 => ?_)
    obtain ⟨rfl, hz_4⟩ := hr_4
    refine lv_if_ne (tgt := 29) hx hb dX6_shift_20 (by decide) (fun c_5 => ?_) (fun c_5 => ?_)
    · have E := E.trans (if_neg c_5)
      have fc_5 := i_ne c_5
      rw [q_0] at fc_5
      have gc_5 := fX4_hasLayer c_5
      have glc_5 := R4I_layers (R6I_0 hI)
      refine lv_aload_n hx hb dX6_shift_29 rfl (lv_at hl 0 rfl) ?_
      refine g6_wagon hx hb hts hin6 hown hK hP (hts (.fieldLink RX6 10 "LoadedForTheLane" "wagon" "LLoadedForTheLane$Wagon;") (by decide +kernel)) dX6_shift_30 ?_
      refine lv_iload_n hx hb dX6_shift_33 rfl (lv_at hl 1 rfl) ?_
      refine lv_iload_n hx hb dX6_shift_34 rfl (lv_at hl 2 rfl) ?_
      refine lv_iload_n hx hb dX6_shift_35 rfl (lv_at hl 3 rfl) ?_
      refine vp_callSi (va_Run.run (va_runVN (As := [.int a1, .int a2, .int a3]) (rest := []) ⟨hx, hb, hml, hown, hts⟩ (kX4_shiftOf l D cI cC cQ (ad 0) (w 0) a1 a2 a3 (by omega) (by omega) (by omega) (by omega) (by omega) (by omega)) ⟨va_cnB 3 hts gX6_shift_X4_shiftOf_n176 rfl rfl rfl (nm_RX6_176 hN) (hts (.initialized RX4) (by decide +kernel)) mdsX4_shiftOf ⟨Nat.le_of_ble_eq_true rfl, Nat.le_of_ble_eq_true rfl⟩, hts (.instanceMethod yX4_shiftOf) (by decide +kernel), hts (.selects RX4 yX4_shiftOf yX4_shiftOf) (by decide +kernel)⟩ (x4_pre hK (mp_0 hP) hN) rfl rfl hl.1 rfl (lv_room (Nat.le_of_ble_eq_true rfl)) dX6_shift_36 ⟨Nat.zero_le _, Nat.zero_le _⟩)) (fun rn_6 hr_6 => ?_)
      subst hr_6
      exact W.iret (v := (sX4_shiftOf (w 0) a1 a2 a3)) hx hb hr (fun t ht hW => ⟨⟨_, w, rfl, ⟨E.symm, hI⟩, by show va_P _ _ _ t.heap; rw [ht]; exact hP⟩, hS.F ht⟩) hS.2.2 dX6_shift_39
    · have E := E.trans (if_pos c_5)
      have fc_5 := i_eq c_5
      rw [q_0] at fc_5
      refine lv_aload_n hx hb dX6_shift_23 rfl (lv_at hl 0 rfl) ?_
      refine lv_iconst (v := (-1)) hx hb dX6_shift_24 (by decide) ?_
      refine va_calli (va_runV (As := [.int (-1)]) (rest := []) ⟨hx, hb, hml, hown, hts⟩ (kX6_refuse l D cI cC cQ ad sd aK aV w (-1) hd hI) (cwV 1 hts gX6_shift_X6_refuse rfl rfl rfl mdX6_refuse ⟨Nat.le_of_ble_eq_true rfl, Nat.le_of_ble_eq_true rfl⟩) (x6_pre hK hP hN hSE hST hS) rfl rfl hl.1 rfl (lv_room (Nat.le_of_ble_eq_true rfl)) dX6_shift_25 ⟨Nat.zero_le _, Nat.zero_le _⟩) hS (fun _ _ h => h) (fun _ h => h) (fun rn_7 wn_7 t H locs ht hvm hp_7 hB hz hfr hS => ?_)
      obtain ⟨hp_7, hJ_7⟩ := hp_7
      have E := bnd_e E hp_7
      have hP : va_P D vwCl (MWL cI cC cQ ad wn_7) H := ht ▸ hB
      exact W.iret (v := rn_7) hx hb hr (fun t ht hW => ⟨⟨_, wn_7, rfl, ⟨E.symm, hJ_7⟩, by show va_P _ _ _ t.heap; rw [ht]; exact hP⟩, hS.F ht⟩) hS.2.2 dX6_shift_28
abbrev rmX6_slips : Room := { frames := 5, cells := 0, slots := 0, locals := 112 }
set_option maxHeartbeats 4000000 in
set_option maxRecDepth 100000 in
theorem kX6_slips (l : Launch) (D : va_G) (cI cC cQ : ClassId) (ad : Nat → Nat → Nat) (sd aK aV : Nat → Nat) (w : Nat → Nat → Nat → Int32) (a1 : Int32) (a2 : Int32) (hd : MD ad) (hI : R6I w)  : Met l yX6_slips wsX6_slips rmX6_slips (va_Pc [Value.ref (ad 5 0), Value.int a1, Value.int a2] (fun U => va_P D vwCl (MWL cI cC cQ ad w) U.heap ∧ va_K D vwCl [(cI, .int), (cC, .char), (cQ, .object "LoadedForTheLane$Way")] U ∧ NW U ∧ SE sd (MA ad) U U.heap ∧ STR aK aV (MA ad) U U.heap)) (va_Qi (fun r u => (r, u) = sX6_slips w a1 a2 ∧ R6I u) (fun u t => va_P D vwCl (MWL cI cC cQ ad u) t.heap) (MA ad)) 0 0 (MA ad) := by
  refine Met.ofW (cc := cX6_slips) (maxL := 4) (ret := (some .int)) (by decide) rfl ?_
  intro p e s m args below meth c s₁ B hml hv
  obtain ⟨rfl, hP, hK, hN, hSE, hST⟩ := hv
  have hx := B.exec
  have hb := B.bytes
  have hr := B.returns
  have hts := atoms_spec (ws := wsX6_slips) B.pre
  have hown : s.vm.findClass RX6 = some m.cls := findClass_of_methodNamed B.named
  have hlocks := B.notSynchronized
  have hin6 : ∀ q ∈ wsX60, q ∈ wsX6_slips := by decide +kernel
  have hl := lv_entry ([.ref (ad 5 0), .int a1, .int a2]) (n := 4) (Nat.le_of_ble_eq_true rfl)
  rw [lg_entry_eq]
  generalize (lg_sl ([.ref (ad 5 0), .int a1, .int a2]) ++ List.replicate (4 - (lg_sl ([.ref (ad 5 0), .int a1, .int a2])).length) Slot.unset).toArray = ls at hl ⊢
  have hl : lv_has ls 4 [(0, .ref (ad 5 0)), (1, .int a1), (2, .int a2)] := hl
  suffices hgo : ∀ (H : Heap) (locs : List Loc), va_P D vwCl (MWL cI cC cQ ad w) H → va_S (MA ad) s.heap H locs → W p l e (headSpec wsX6_slips rmX6_slips).room s m [Value.ref (ad 5 0), Value.int a1, Value.int a2].toArray below meth c H locs 0 0 (MQ below (va_Qi (fun r u => (r, u) = sX6_slips w a1 a2 ∧ R6I u) (fun u t => va_P D vwCl (MWL cI cC cQ ad u) t.heap) (MA ad)) [Value.ref (ad 5 0), Value.int a1, Value.int a2].toArray s 0 0 (MA ad)) (F0 m 0 ls []) from hgo s.heap [] hP va_S.rf
  intro H locs hP hS
  have E := sX6_slips.eq_1 w a1 a2
  refine lv_aload_n hx hb dX6_slips_0 rfl (lv_at hl 0 rfl) ?_
  refine g6_wagon hx hb hts hin6 hown hK hP (hts (.fieldLink RX6 10 "LoadedForTheLane" "wagon" "LLoadedForTheLane$Wagon;") (by decide +kernel)) dX6_slips_1 ?_
  refine lv_iload_n hx hb dX6_slips_4 rfl (lv_at hl 1 rfl) ?_
  refine vp_callSi (va_Run.run (va_runVN (As := [.int a1]) (rest := []) ⟨hx, hb, hml, hown, hts⟩ (kX4_hasWay l D cI cC cQ (ad 0) (w 0) a1) ⟨va_cnB 1 hts gX6_slips_X4_hasWay_n112 rfl rfl rfl (nm_RX6_112 hN) (hts (.initialized RX4) (by decide +kernel)) mdsX4_hasWay ⟨Nat.le_of_ble_eq_true rfl, Nat.le_of_ble_eq_true rfl⟩, hts (.instanceMethod yX4_hasWay) (by decide +kernel), hts (.selects RX4 yX4_hasWay yX4_hasWay) (by decide +kernel)⟩ (x4_pre hK (mp_0 hP) hN) rfl rfl hl.1 rfl (lv_room (Nat.le_of_ble_eq_true rfl)) dX6_slips_5 ⟨Nat.zero_le _, Nat.zero_le _⟩)) (fun rn_1 hr_1 => ?_)
  obtain ⟨rfl, hz_1⟩ := hr_1
  refine lv_if_ne (tgt := 17) hx hb dX6_slips_8 (by decide) (fun c_2 => ?_) (fun c_2 => ?_)
  · have E := E.trans (if_neg c_2)
    have fc_2 := i_ne c_2
    rw [q_0] at fc_2
    have gc_2 := fX4_hasWay c_2
    refine lv_iload_n hx hb dX6_slips_17 rfl (lv_at hl 2 rfl) ?_
    refine lv_if_lt (tgt := 26) hx hb dX6_slips_18 (by decide) (fun c_3 => ?_) (fun c_3 => ?_)
    · have E := E.trans (if_pos c_3)
      have fc_3 := i_lt c_3
      rw [q_0] at fc_3
      refine lv_aload_n hx hb dX6_slips_26 rfl (lv_at hl 0 rfl) ?_
      refine lv_bipush (v := (-2)) hx hb dX6_slips_27 (by decide +kernel) ?_
      refine va_calli (va_runV (As := [.int (-2)]) (rest := []) ⟨hx, hb, hml, hown, hts⟩ (kX6_refuse l D cI cC cQ ad sd aK aV w (-2) hd hI) (cwV 1 hts gX6_slips_X6_refuse rfl rfl rfl mdX6_refuse ⟨Nat.le_of_ble_eq_true rfl, Nat.le_of_ble_eq_true rfl⟩) (x6_pre hK hP hN hSE hST hS) rfl rfl hl.1 rfl (lv_room (Nat.le_of_ble_eq_true rfl)) dX6_slips_29 ⟨Nat.zero_le _, Nat.zero_le _⟩) hS (fun _ _ h => h) (fun _ h => h) (fun rn_4 wn_4 t H locs ht hvm hp_4 hB hz hfr hS => ?_)
      obtain ⟨hp_4, hJ_4⟩ := hp_4
      have E := bnd_e E hp_4
      have hP : va_P D vwCl (MWL cI cC cQ ad wn_4) H := ht ▸ hB
      exact W.iret (v := rn_4) hx hb hr (fun t ht hW => ⟨⟨_, wn_4, rfl, ⟨E.symm, hJ_4⟩, by show va_P _ _ _ t.heap; rw [ht]; exact hP⟩, hS.F ht⟩) hS.2.2 dX6_slips_32
    · have E := E.trans (if_neg c_3)
      have fc_3 := i_nlt c_3
      rw [q_0] at fc_3
      refine lv_iload_n hx hb dX6_slips_21 rfl (lv_at hl 2 rfl) ?_
      refine lv_iconst (v := 1) hx hb dX6_slips_22 (by decide) ?_
      refine lv_icmp_le (tgt := 33) hx hb dX6_slips_23 (by decide) (fun c_5 => ?_) (fun c_5 => ?_)
      · have E := E.trans (if_pos c_5)
        have fc_5 := i_le c_5
        rw [q_1] at fc_5
        refine lv_aload_n hx hb dX6_slips_33 rfl (lv_at hl 0 rfl) ?_
        refine g6_wagon hx hb hts hin6 hown hK hP (hts (.fieldLink RX6 10 "LoadedForTheLane" "wagon" "LLoadedForTheLane$Wagon;") (by decide +kernel)) dX6_slips_34 ?_
        refine lv_iload_n hx hb dX6_slips_37 rfl (lv_at hl 1 rfl) ?_
        refine vp_callSi (va_Run.run (va_runVN (As := [.int a1]) (rest := []) ⟨hx, hb, hml, hown, hts⟩ (kX4_pieceOfSlip l D cI cC cQ (ad 0) (w 0) a1 (R6I_0 hI) (by omega) (by omega)) ⟨va_cnB 1 hts gX6_slips_X4_pieceOfSlip_n180 rfl rfl rfl (nm_RX6_180 hN) (hts (.initialized RX4) (by decide +kernel)) mdsX4_pieceOfSlip ⟨Nat.le_of_ble_eq_true rfl, Nat.le_of_ble_eq_true rfl⟩, hts (.instanceMethod yX4_pieceOfSlip) (by decide +kernel), hts (.selects RX4 yX4_pieceOfSlip yX4_pieceOfSlip) (by decide +kernel)⟩ (x4_pre hK (mp_0 hP) hN) rfl rfl hl.1 rfl (lv_room (Nat.le_of_ble_eq_true rfl)) dX6_slips_38 ⟨Nat.zero_le _, Nat.zero_le _⟩)) (fun rn_6 hr_6 => ?_)
        subst hr_6
        have rf_6 := rX4_pieceOfSlip (w 0) a1
        have rg_6 := R4I_pieces (R6I_0 hI) (k := a1.toNatClampNeg) (by have := ix_cl (x := a1) (by omega); omega)
        refine lv_istore_n (lv' := [(3, .int (sX4_pieceOfSlip (w 0) a1)), (0, .ref (ad 5 0)), (1, .int a1), (2, .int a2)]) hx hb dX6_slips_41 rfl hl (by decide) rfl (fun ls hl => ?_)
        refine lv_iload_n hx hb dX6_slips_42 rfl (lv_at hl 0 rfl) ?_
        refine lv_if_ge (tgt := 49) hx hb dX6_slips_43 (by decide) (fun c_7 => ?_) (fun c_7 => ?_)
        · have E := E.trans (if_pos c_7)
          have fc_7 := i_le c_7
          rw [q_0] at fc_7
          refine lv_iload_n hx hb dX6_slips_49 rfl (lv_at hl 3 rfl) ?_
          refine lv_if_ne (tgt := 57) hx hb dX6_slips_50 (by decide) (fun c_8 => ?_) (fun c_8 => ?_)
          · have E := E.trans (if_neg c_8)
            have fc_8 := i_ne c_8
            rw [q_0] at fc_8
            refine lv_aload_n hx hb dX6_slips_57 rfl (lv_at hl 1 rfl) ?_
            refine g6_wagon hx hb hts hin6 hown hK hP (hts (.fieldLink RX6 10 "LoadedForTheLane" "wagon" "LLoadedForTheLane$Wagon;") (by decide +kernel)) dX6_slips_58 ?_
            refine lv_iload_n hx hb dX6_slips_61 rfl (lv_at hl 2 rfl) ?_
            refine lv_iload_n hx hb dX6_slips_62 rfl (lv_at hl 0 rfl) ?_
            refine vp_callSi (va_Run.run (va_runVN (As := [.int a1, .int (sX4_pieceOfSlip (w 0) a1)]) (rest := []) ⟨hx, hb, hml, hown, hts⟩ (kX4_layerOfSlip l D cI cC cQ (ad 0) (w 0) a1 (sX4_pieceOfSlip (w 0) a1) (R6I_0 hI) (by omega) (by omega) (by omega) (by omega)) ⟨va_cnB 2 hts gX6_slips_X4_layerOfSlip_n183 rfl rfl rfl (nm_RX6_183 hN) (hts (.initialized RX4) (by decide +kernel)) mdsX4_layerOfSlip ⟨Nat.le_of_ble_eq_true rfl, Nat.le_of_ble_eq_true rfl⟩, hts (.instanceMethod yX4_layerOfSlip) (by decide +kernel), hts (.selects RX4 yX4_layerOfSlip yX4_layerOfSlip) (by decide +kernel)⟩ (x4_pre hK (mp_0 hP) hN) rfl rfl hl.1 rfl (lv_room (Nat.le_of_ble_eq_true rfl)) dX6_slips_63 ⟨Nat.zero_le _, Nat.zero_le _⟩)) (fun rn_9 hr_9 => ?_)
            subst hr_9
            exact W.iret (v := (sX4_layerOfSlip (w 0) a1 (sX4_pieceOfSlip (w 0) a1))) hx hb hr (fun t ht hW => ⟨⟨_, w, rfl, ⟨E.symm, hI⟩, by show va_P _ _ _ t.heap; rw [ht]; exact hP⟩, hS.F ht⟩) hS.2.2 dX6_slips_66
          · have E := E.trans (if_pos c_8)
            have fc_8 := i_eq c_8
            rw [q_0] at fc_8
            refine lv_iload_n hx hb dX6_slips_53 rfl (lv_at hl 0 rfl) ?_
            refine lv_goto (tgt := 66) hx hb dX6_slips_54 (by decide) ?_
            exact W.iret (v := (sX4_pieceOfSlip (w 0) a1)) hx hb hr (fun t ht hW => ⟨⟨_, w, rfl, ⟨E.symm, hI⟩, by show va_P _ _ _ t.heap; rw [ht]; exact hP⟩, hS.F ht⟩) hS.2.2 dX6_slips_66
        · have E := E.trans (if_neg c_7)
          have fc_7 := i_nle c_7
          rw [q_0] at fc_7
          refine lv_bipush (v := (-9)) hx hb dX6_slips_46 (by decide +kernel) ?_
          exact W.iret (v := (-9)) hx hb hr (fun t ht hW => ⟨⟨_, w, rfl, ⟨E.symm, hI⟩, by show va_P _ _ _ t.heap; rw [ht]; exact hP⟩, hS.F ht⟩) hS.2.2 dX6_slips_48
      · have E := E.trans (if_neg c_5)
        have fc_5 := i_nle c_5
        rw [q_1] at fc_5
        refine lv_aload_n hx hb dX6_slips_26 rfl (lv_at hl 0 rfl) ?_
        refine lv_bipush (v := (-2)) hx hb dX6_slips_27 (by decide +kernel) ?_
        refine va_calli (va_runV (As := [.int (-2)]) (rest := []) ⟨hx, hb, hml, hown, hts⟩ (kX6_refuse l D cI cC cQ ad sd aK aV w (-2) hd hI) (cwV 1 hts gX6_slips_X6_refuse rfl rfl rfl mdX6_refuse ⟨Nat.le_of_ble_eq_true rfl, Nat.le_of_ble_eq_true rfl⟩) (x6_pre hK hP hN hSE hST hS) rfl rfl hl.1 rfl (lv_room (Nat.le_of_ble_eq_true rfl)) dX6_slips_29 ⟨Nat.zero_le _, Nat.zero_le _⟩) hS (fun _ _ h => h) (fun _ h => h) (fun rn_10 wn_10 t H locs ht hvm hp_10 hB hz hfr hS => ?_)
        obtain ⟨hp_10, hJ_10⟩ := hp_10
        have E := bnd_e E hp_10
        have hP : va_P D vwCl (MWL cI cC cQ ad wn_10) H := ht ▸ hB
        exact W.iret (v := rn_10) hx hb hr (fun t ht hW => ⟨⟨_, wn_10, rfl, ⟨E.symm, hJ_10⟩, by show va_P _ _ _ t.heap; rw [ht]; exact hP⟩, hS.F ht⟩) hS.2.2 dX6_slips_32
  · have E := E.trans (if_pos c_2)
    have fc_2 := i_eq c_2
    rw [q_0] at fc_2
    refine lv_aload_n hx hb dX6_slips_11 rfl (lv_at hl 0 rfl) ?_
    refine lv_iconst (v := (-1)) hx hb dX6_slips_12 (by decide) ?_
    refine va_calli (va_runV (As := [.int (-1)]) (rest := []) ⟨hx, hb, hml, hown, hts⟩ (kX6_refuse l D cI cC cQ ad sd aK aV w (-1) hd hI) (cwV 1 hts gX6_slips_X6_refuse rfl rfl rfl mdX6_refuse ⟨Nat.le_of_ble_eq_true rfl, Nat.le_of_ble_eq_true rfl⟩) (x6_pre hK hP hN hSE hST hS) rfl rfl hl.1 rfl (lv_room (Nat.le_of_ble_eq_true rfl)) dX6_slips_13 ⟨Nat.zero_le _, Nat.zero_le _⟩) hS (fun _ _ h => h) (fun _ h => h) (fun rn_11 wn_11 t H locs ht hvm hp_11 hB hz hfr hS => ?_)
    obtain ⟨hp_11, hJ_11⟩ := hp_11
    have E := bnd_e E hp_11
    have hP : va_P D vwCl (MWL cI cC cQ ad wn_11) H := ht ▸ hB
    exact W.iret (v := rn_11) hx hb hr (fun t ht hW => ⟨⟨_, wn_11, rfl, ⟨E.symm, hJ_11⟩, by show va_P _ _ _ t.heap; rw [ht]; exact hP⟩, hS.F ht⟩) hS.2.2 dX6_slips_16
abbrev rmX6_margin : Room := { frames := 4, cells := 0, slots := 0, locals := 86 }
set_option maxHeartbeats 4000000 in
set_option maxRecDepth 100000 in
theorem kX6_margin (l : Launch) (D : va_G) (cI cC cQ : ClassId) (ad : Nat → Nat → Nat) (sd aK aV : Nat → Nat) (w : Nat → Nat → Nat → Int32) (a1 : Int32) (hd : MD ad) (hI : R6I w)  : Met l yX6_margin wsX6_margin rmX6_margin (va_Pc [Value.ref (ad 5 0), Value.int a1] (fun U => va_P D vwCl (MWL cI cC cQ ad w) U.heap ∧ va_K D vwCl [(cI, .int), (cC, .char), (cQ, .object "LoadedForTheLane$Way")] U ∧ NW U ∧ SE sd (MA ad) U U.heap ∧ STR aK aV (MA ad) U U.heap)) (va_Qi (fun r u => (r, u) = sX6_margin w a1 ∧ R6I u) (fun u t => va_P D vwCl (MWL cI cC cQ ad u) t.heap) (MA ad)) 0 0 (MA ad) := by
  refine Met.ofW (cc := cX6_margin) (maxL := 2) (ret := (some .int)) (by decide) rfl ?_
  intro p e s m args below meth c s₁ B hml hv
  obtain ⟨rfl, hP, hK, hN, hSE, hST⟩ := hv
  have hx := B.exec
  have hb := B.bytes
  have hr := B.returns
  have hts := atoms_spec (ws := wsX6_margin) B.pre
  have hown : s.vm.findClass RX6 = some m.cls := findClass_of_methodNamed B.named
  have hlocks := B.notSynchronized
  have hin6 : ∀ q ∈ wsX60, q ∈ wsX6_margin := by decide +kernel
  have hl := lv_entry ([.ref (ad 5 0), .int a1]) (n := 2) (Nat.le_of_ble_eq_true rfl)
  rw [lg_entry_eq]
  generalize (lg_sl ([.ref (ad 5 0), .int a1]) ++ List.replicate (2 - (lg_sl ([.ref (ad 5 0), .int a1])).length) Slot.unset).toArray = ls at hl ⊢
  have hl : lv_has ls 2 [(0, .ref (ad 5 0)), (1, .int a1)] := hl
  suffices hgo : ∀ (H : Heap) (locs : List Loc), va_P D vwCl (MWL cI cC cQ ad w) H → va_S (MA ad) s.heap H locs → W p l e (headSpec wsX6_margin rmX6_margin).room s m [Value.ref (ad 5 0), Value.int a1].toArray below meth c H locs 0 0 (MQ below (va_Qi (fun r u => (r, u) = sX6_margin w a1 ∧ R6I u) (fun u t => va_P D vwCl (MWL cI cC cQ ad u) t.heap) (MA ad)) [Value.ref (ad 5 0), Value.int a1].toArray s 0 0 (MA ad)) (F0 m 0 ls []) from hgo s.heap [] hP va_S.rf
  intro H locs hP hS
  have E := sX6_margin.eq_1 w a1
  refine lv_aload_n hx hb dX6_margin_0 rfl (lv_at hl 0 rfl) ?_
  refine g6_wagon hx hb hts hin6 hown hK hP (hts (.fieldLink RX6 10 "LoadedForTheLane" "wagon" "LLoadedForTheLane$Wagon;") (by decide +kernel)) dX6_margin_1 ?_
  refine lv_iload_n hx hb dX6_margin_4 rfl (lv_at hl 1 rfl) ?_
  refine vp_callSi (va_Run.run (va_runVN (As := [.int a1]) (rest := []) ⟨hx, hb, hml, hown, hts⟩ (kX4_hasWay l D cI cC cQ (ad 0) (w 0) a1) ⟨va_cnB 1 hts gX6_margin_X4_hasWay_n112 rfl rfl rfl (nm_RX6_112 hN) (hts (.initialized RX4) (by decide +kernel)) mdsX4_hasWay ⟨Nat.le_of_ble_eq_true rfl, Nat.le_of_ble_eq_true rfl⟩, hts (.instanceMethod yX4_hasWay) (by decide +kernel), hts (.selects RX4 yX4_hasWay yX4_hasWay) (by decide +kernel)⟩ (x4_pre hK (mp_0 hP) hN) rfl rfl hl.1 rfl (lv_room (Nat.le_of_ble_eq_true rfl)) dX6_margin_5 ⟨Nat.zero_le _, Nat.zero_le _⟩)) (fun rn_1 hr_1 => ?_)
  obtain ⟨rfl, hz_1⟩ := hr_1
  refine lv_if_ne (tgt := 17) hx hb dX6_margin_8 (by decide) (fun c_2 => ?_) (fun c_2 => ?_)
  · have E := E.trans (if_neg c_2)
    have fc_2 := i_ne c_2
    rw [q_0] at fc_2
    have gc_2 := fX4_hasWay c_2
    refine lv_aload_n hx hb dX6_margin_17 rfl (lv_at hl 0 rfl) ?_
    refine g6_wagon hx hb hts hin6 hown hK hP (hts (.fieldLink RX6 10 "LoadedForTheLane" "wagon" "LLoadedForTheLane$Wagon;") (by decide +kernel)) dX6_margin_18 ?_
    refine lv_iload_n hx hb dX6_margin_21 rfl (lv_at hl 1 rfl) ?_
    refine vp_callSi (va_Run.run (va_runVN (As := [.int a1]) (rest := []) ⟨hx, hb, hml, hown, hts⟩ (kX4_leastMargin l D cI cC cQ (ad 0) (w 0) a1 (R6I_0 hI) (by omega) (by omega)) ⟨va_cnB 1 hts gX6_margin_X4_leastMargin_n186 rfl rfl rfl (nm_RX6_186 hN) (hts (.initialized RX4) (by decide +kernel)) mdsX4_leastMargin ⟨Nat.le_of_ble_eq_true rfl, Nat.le_of_ble_eq_true rfl⟩, hts (.instanceMethod yX4_leastMargin) (by decide +kernel), hts (.selects RX4 yX4_leastMargin yX4_leastMargin) (by decide +kernel)⟩ (x4_pre hK (mp_0 hP) hN) rfl rfl hl.1 rfl (lv_room (Nat.le_of_ble_eq_true rfl)) dX6_margin_22 ⟨Nat.zero_le _, Nat.zero_le _⟩)) (fun rn_3 hr_3 => ?_)
    subst hr_3
    exact W.iret (v := (sX4_leastMargin (w 0) a1)) hx hb hr (fun t ht hW => ⟨⟨_, w, rfl, ⟨E.symm, hI⟩, by show va_P _ _ _ t.heap; rw [ht]; exact hP⟩, hS.F ht⟩) hS.2.2 dX6_margin_25
  · have E := E.trans (if_pos c_2)
    have fc_2 := i_eq c_2
    rw [q_0] at fc_2
    refine lv_aload_n hx hb dX6_margin_11 rfl (lv_at hl 0 rfl) ?_
    refine lv_iconst (v := (-1)) hx hb dX6_margin_12 (by decide) ?_
    refine va_calli (va_runV (As := [.int (-1)]) (rest := []) ⟨hx, hb, hml, hown, hts⟩ (kX6_refuseWide l D cI cC cQ ad sd aK aV w (-1) hd hI) (cwV 1 hts gX6_margin_X6_refuseWide rfl rfl rfl mdX6_refuseWide ⟨Nat.le_of_ble_eq_true rfl, Nat.le_of_ble_eq_true rfl⟩) (x6_pre hK hP hN hSE hST hS) rfl rfl hl.1 rfl (lv_room (Nat.le_of_ble_eq_true rfl)) dX6_margin_13 ⟨Nat.zero_le _, Nat.zero_le _⟩) hS (fun _ _ h => h) (fun _ h => h) (fun rn_4 wn_4 t H locs ht hvm hp_4 hB hz hfr hS => ?_)
    obtain ⟨hp_4, hJ_4⟩ := hp_4
    have E := bnd_e E hp_4
    have hP : va_P D vwCl (MWL cI cC cQ ad wn_4) H := ht ▸ hB
    exact W.iret (v := rn_4) hx hb hr (fun t ht hW => ⟨⟨_, wn_4, rfl, ⟨E.symm, hJ_4⟩, by show va_P _ _ _ t.heap; rw [ht]; exact hP⟩, hS.F ht⟩) hS.2.2 dX6_margin_16
