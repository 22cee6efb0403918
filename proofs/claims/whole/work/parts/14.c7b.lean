abbrev rmX7_no : Room := { frames := 0, cells := 0, slots := 0, locals := 0 }
set_option maxHeartbeats 4000000 in
set_option maxRecDepth 100000 in
theorem kX7_no (l : Launch) (D : va_G) (cI : ClassId) (ad : Nat → Nat) (w : Nat → Nat → Int32) (a1 : Int32) (hd : RD ad) (hI : R7I w) (h1 : -6 ≤ a1.toInt) (h2 : a1.toInt ≤ -1) : Met l yX7_no wsX7_no rmX7_no (va_Pc [Value.ref (ad 0), Value.int a1] (fun U => va_P D vwCl (RM cI ad w) U.heap ∧ va_K D vwCl [(cI, .int)] U)) (va_Qi (fun r u => (r, u) = sX7_no w a1 ∧ R7I u) (fun u t => va_P D vwCl (RM cI ad u) t.heap) (RA ad)) 0 0 (RA ad) := by
  refine Met.ofW (cc := cX7_no) (maxL := 2) (ret := (some .int)) (by decide) rfl ?_
  intro p e s m args below meth c s₁ B hml hv
  obtain ⟨rfl, hP, hK⟩ := hv
  have hx := B.exec
  have hb := B.bytes
  have hr := B.returns
  have hts := atoms_spec (ws := wsX7_no) B.pre
  have hown : s.vm.findClass RX7 = some m.cls := findClass_of_methodNamed B.named
  have hlocks := B.notSynchronized
  have hin : ∀ q ∈ wsX70, q ∈ wsX7_no := by decide +kernel
  have hl := lv_entry ([.ref (ad 0), .int a1]) (n := 2) (Nat.le_of_ble_eq_true rfl)
  rw [lg_entry_eq]
  generalize (lg_sl ([.ref (ad 0), .int a1]) ++ List.replicate (2 - (lg_sl ([.ref (ad 0), .int a1])).length) Slot.unset).toArray = ls at hl ⊢
  have hl : lv_has ls 2 [(0, .ref (ad 0)), (1, .int a1)] := hl
  suffices hgo : ∀ (H : Heap) (locs : List Loc), va_P D vwCl (RM cI ad w) H → va_S (RA ad) s.heap H locs → W p l e (headSpec wsX7_no rmX7_no).room s m [Value.ref (ad 0), Value.int a1].toArray below meth c H locs 0 0 (MQ below (va_Qi (fun r u => (r, u) = sX7_no w a1 ∧ R7I u) (fun u t => va_P D vwCl (RM cI ad u) t.heap) (RA ad)) [Value.ref (ad 0), Value.int a1].toArray s 0 0 (RA ad)) (F0 m 0 ls []) from hgo s.heap [] hP va_S.rf
  intro H locs hP hS
  have E := sX7_no.eq_1 w a1
  refine lv_aload_n hx hb dX7_no_0 rfl (lv_at hl 0 rfl) ?_
  refine g7_refused hx hb hts hin hown hK hP (hts (.fieldLink RX7 7 "LoadedForTheLaneModel" "refused" "[I") (by decide +kernel)) dX7_no_1 ?_
  refine lv_iload_n hx hb dX7_no_4 rfl (lv_at hl 1 rfl) ?_
  refine lv_ineg hx hb dX7_no_5 ?_
  refine lv_dup2_11 hx hb dX7_no_6 rfl rfl ?_
  have := i_neg (a := a1) (by omega)
  have ix_1 : vp_in (-a1) 7 := ix_of (by omega) (by omega)
  refine l7_refused (j := (-a1).toNatClampNeg) hx hb hK hP ix_1 rfl dX7_no_7 ?_
  refine lv_iconst (v := 1) hx hb dX7_no_8 (by decide) ?_
  refine lv_iadd hx hb dX7_no_9 ?_
  have := i_neg (a := a1) (by omega)
  have ix_2 : vp_in (-a1) 7 := ix_of (by omega) (by omega)
  refine a7_refused (j := (-a1).toNatClampNeg) hx hb hK hP hd hS ix_2 rfl dX7_no_10 (fun H locs hP hS => ?_)
  obtain ⟨wn_2, hwn_2⟩ : ∃ x, x = st w 0 ((-a1).toNatClampNeg) ((w 0 ((-a1).toNatClampNeg)) + 1) := ⟨_, rfl⟩
  rw [← hwn_2] at hP
  have E := bns_e E hwn_2
  have hI_2 : R7I wn_2 := by rw [hwn_2]; exact R7I_put_refused hI
  refine lv_iload_n hx hb dX7_no_11 rfl (lv_at hl 1 rfl) ?_
  exact W.iret (v := a1) hx hb hr (fun t ht hW => ⟨⟨_, wn_2, rfl, ⟨E.symm, hI_2⟩, by beta_reduce; rw [ht]; exact hP⟩, hS.F ht⟩) hS.2.2 dX7_no_12
abbrev rmX7_lower : Room := { frames := 0, cells := 0, slots := 0, locals := 0 }
set_option maxHeartbeats 4000000 in
set_option maxRecDepth 100000 in
theorem kX7_lower (l : Launch) (D : va_G) (cI : ClassId) (ad : Nat → Nat) (w : Nat → Nat → Int32) (a1 : Int32) (hd : RD ad) (hI : R7I w) (h1 : -6 ≤ a1.toInt) (h2 : a1.toInt ≤ -1) : Met l yX7_lower wsX7_lower rmX7_lower (va_Pc [Value.ref (ad 0), Value.int a1] (fun U => va_P D vwCl (RM cI ad w) U.heap ∧ va_K D vwCl [(cI, .int)] U)) (va_Qi (fun r u => (r, u) = sX7_lower w a1 ∧ R7I u) (fun u t => va_P D vwCl (RM cI ad u) t.heap) (RA ad)) 0 0 (RA ad) := by
  refine Met.ofW (cc := cX7_lower) (maxL := 2) (ret := (some .int)) (by decide) rfl ?_
  intro p e s m args below meth c s₁ B hml hv
  obtain ⟨rfl, hP, hK⟩ := hv
  have hx := B.exec
  have hb := B.bytes
  have hr := B.returns
  have hts := atoms_spec (ws := wsX7_lower) B.pre
  have hown : s.vm.findClass RX7 = some m.cls := findClass_of_methodNamed B.named
  have hlocks := B.notSynchronized
  have hin : ∀ q ∈ wsX70, q ∈ wsX7_lower := by decide +kernel
  have hl := lv_entry ([.ref (ad 0), .int a1]) (n := 2) (Nat.le_of_ble_eq_true rfl)
  rw [lg_entry_eq]
  generalize (lg_sl ([.ref (ad 0), .int a1]) ++ List.replicate (2 - (lg_sl ([.ref (ad 0), .int a1])).length) Slot.unset).toArray = ls at hl ⊢
  have hl : lv_has ls 2 [(0, .ref (ad 0)), (1, .int a1)] := hl
  suffices hgo : ∀ (H : Heap) (locs : List Loc), va_P D vwCl (RM cI ad w) H → va_S (RA ad) s.heap H locs → W p l e (headSpec wsX7_lower rmX7_lower).room s m [Value.ref (ad 0), Value.int a1].toArray below meth c H locs 0 0 (MQ below (va_Qi (fun r u => (r, u) = sX7_lower w a1 ∧ R7I u) (fun u t => va_P D vwCl (RM cI ad u) t.heap) (RA ad)) [Value.ref (ad 0), Value.int a1].toArray s 0 0 (RA ad)) (F0 m 0 ls []) from hgo s.heap [] hP va_S.rf
  intro H locs hP hS
  have E := sX7_lower.eq_1 w a1
  refine lv_aload_n hx hb dX7_lower_0 rfl (lv_at hl 0 rfl) ?_
  refine g7_refused hx hb hts hin hown hK hP (hts (.fieldLink RX7 7 "LoadedForTheLaneModel" "refused" "[I") (by decide +kernel)) dX7_lower_1 ?_
  refine lv_iload_n hx hb dX7_lower_4 rfl (lv_at hl 1 rfl) ?_
  refine lv_ineg hx hb dX7_lower_5 ?_
  refine lv_dup2_11 hx hb dX7_lower_6 rfl rfl ?_
  have := i_neg (a := a1) (by omega)
  have ix_1 : vp_in (-a1) 7 := ix_of (by omega) (by omega)
  refine l7_refused (j := (-a1).toNatClampNeg) hx hb hK hP ix_1 rfl dX7_lower_7 ?_
  refine lv_iconst (v := 1) hx hb dX7_lower_8 (by decide) ?_
  refine lv_iadd hx hb dX7_lower_9 ?_
  have := i_neg (a := a1) (by omega)
  have ix_2 : vp_in (-a1) 7 := ix_of (by omega) (by omega)
  refine a7_refused (j := (-a1).toNatClampNeg) hx hb hK hP hd hS ix_2 rfl dX7_lower_10 (fun H locs hP hS => ?_)
  obtain ⟨wn_2, hwn_2⟩ : ∃ x, x = st w 0 ((-a1).toNatClampNeg) ((w 0 ((-a1).toNatClampNeg)) + 1) := ⟨_, rfl⟩
  rw [← hwn_2] at hP
  have E := bns_e E hwn_2
  have hI_2 : R7I wn_2 := by rw [hwn_2]; exact R7I_put_refused hI
  refine lv_ldc (own := RX7) (v := 1000000000) hx hb hown (hts (.constant RX7 64 (1000000000)) (by decide +kernel)) dX7_lower_11 ?_
  refine lv_iload_n hx hb dX7_lower_13 rfl (lv_at hl 1 rfl) ?_
  refine lv_isub hx hb dX7_lower_14 ?_
  exact W.iret (v := 1000000000 - a1) hx hb hr (fun t ht hW => ⟨⟨_, wn_2, rfl, ⟨E.symm, hI_2⟩, by beta_reduce; rw [ht]; exact hP⟩, hS.F ht⟩) hS.2.2 dX7_lower_15
abbrev rmX7_lowest : Room := { frames := 0, cells := 0, slots := 0, locals := 0 }
set_option maxHeartbeats 4000000 in
set_option maxRecDepth 100000 in
theorem kX7_lowest (l : Launch) (D : va_G) (cI : ClassId) (ad : Nat → Nat) (w : Nat → Nat → Int32) (a1 : Int32) (hd : RD ad) (hI : R7I w) (h1 : -6 ≤ a1.toInt) (h2 : a1.toInt ≤ -1) : Met l yX7_lowest wsX7_lowest rmX7_lowest (va_Pc [Value.ref (ad 0), Value.int a1] (fun U => va_P D vwCl (RM cI ad w) U.heap ∧ va_K D vwCl [(cI, .int)] U)) (va_Ql (fun r u => (r, u) = sX7_lowest w a1 ∧ R7I u) (fun u t => va_P D vwCl (RM cI ad u) t.heap) (RA ad)) 0 0 (RA ad) := by
  refine Met.ofW (cc := cX7_lowest) (maxL := 2) (ret := (some .long)) (by decide) rfl ?_
  intro p e s m args below meth c s₁ B hml hv
  obtain ⟨rfl, hP, hK⟩ := hv
  have hx := B.exec
  have hb := B.bytes
  have hr := B.returns
  have hts := atoms_spec (ws := wsX7_lowest) B.pre
  have hown : s.vm.findClass RX7 = some m.cls := findClass_of_methodNamed B.named
  have hlocks := B.notSynchronized
  have hin : ∀ q ∈ wsX70, q ∈ wsX7_lowest := by decide +kernel
  have hl := lv_entry ([.ref (ad 0), .int a1]) (n := 2) (Nat.le_of_ble_eq_true rfl)
  rw [lg_entry_eq]
  generalize (lg_sl ([.ref (ad 0), .int a1]) ++ List.replicate (2 - (lg_sl ([.ref (ad 0), .int a1])).length) Slot.unset).toArray = ls at hl ⊢
  have hl : lv_has ls 2 [(0, .ref (ad 0)), (1, .int a1)] := hl
  suffices hgo : ∀ (H : Heap) (locs : List Loc), va_P D vwCl (RM cI ad w) H → va_S (RA ad) s.heap H locs → W p l e (headSpec wsX7_lowest rmX7_lowest).room s m [Value.ref (ad 0), Value.int a1].toArray below meth c H locs 0 0 (MQ below (va_Ql (fun r u => (r, u) = sX7_lowest w a1 ∧ R7I u) (fun u t => va_P D vwCl (RM cI ad u) t.heap) (RA ad)) [Value.ref (ad 0), Value.int a1].toArray s 0 0 (RA ad)) (F0 m 0 ls []) from hgo s.heap [] hP va_S.rf
  intro H locs hP hS
  have E := sX7_lowest.eq_1 w a1
  refine lv_aload_n hx hb dX7_lowest_0 rfl (lv_at hl 0 rfl) ?_
  refine g7_refused hx hb hts hin hown hK hP (hts (.fieldLink RX7 7 "LoadedForTheLaneModel" "refused" "[I") (by decide +kernel)) dX7_lowest_1 ?_
  refine lv_iload_n hx hb dX7_lowest_4 rfl (lv_at hl 1 rfl) ?_
  refine lv_ineg hx hb dX7_lowest_5 ?_
  refine lv_dup2_11 hx hb dX7_lowest_6 rfl rfl ?_
  have := i_neg (a := a1) (by omega)
  have ix_1 : vp_in (-a1) 7 := ix_of (by omega) (by omega)
  refine l7_refused (j := (-a1).toNatClampNeg) hx hb hK hP ix_1 rfl dX7_lowest_7 ?_
  refine lv_iconst (v := 1) hx hb dX7_lowest_8 (by decide) ?_
  refine lv_iadd hx hb dX7_lowest_9 ?_
  have := i_neg (a := a1) (by omega)
  have ix_2 : vp_in (-a1) 7 := ix_of (by omega) (by omega)
  refine a7_refused (j := (-a1).toNatClampNeg) hx hb hK hP hd hS ix_2 rfl dX7_lowest_10 (fun H locs hP hS => ?_)
  obtain ⟨wn_2, hwn_2⟩ : ∃ x, x = st w 0 ((-a1).toNatClampNeg) ((w 0 ((-a1).toNatClampNeg)) + 1) := ⟨_, rfl⟩
  rw [← hwn_2] at hP
  have E := bns_e E hwn_2
  have hI_2 : R7I wn_2 := by rw [hwn_2]; exact R7I_put_refused hI
  refine lv_ldc2 (own := RX7) (v := 4000000000000000000) hx hb hown (hts (.constantLong RX7 65 (4000000000000000000)) (by decide +kernel)) dX7_lowest_11 ?_
  refine lv_iload_n hx hb dX7_lowest_14 rfl (lv_at hl 1 rfl) ?_
  refine lv_i2l (v := a1.toInt64) hx hb dX7_lowest_15 rfl ?_
  refine lv_lsub hx hb dX7_lowest_16 ?_
  exact W.lret (v := 4000000000000000000 - a1.toInt64) hx hb hr (fun t ht hW => ⟨⟨_, wn_2, rfl, ⟨E.symm, hI_2⟩, by beta_reduce; rw [ht]; exact hP⟩, hS.F ht⟩) hS.2.2 dX7_lowest_17
abbrev rmX7_letter : Room := { frames := 1, cells := 0, slots := 0, locals := 22 }
set_option maxHeartbeats 4000000 in
set_option maxRecDepth 100000 in
theorem kX7_letter (l : Launch) (D : va_G) (cI : ClassId) (ad : Nat → Nat) (w : Nat → Nat → Int32) (a1 : Int32) (hd : RD ad) (hI : R7I w)  : Met l yX7_letter wsX7_letter rmX7_letter (va_Pc [Value.ref (ad 0), Value.int a1] (fun U => va_P D vwCl (RM cI ad w) U.heap ∧ va_K D vwCl [(cI, .int)] U)) (va_Qi (fun r u => (r, u) = sX7_letter w a1 ∧ R7I u) (fun u t => va_P D vwCl (RM cI ad u) t.heap) (RA ad)) 0 0 (RA ad) := by
  refine Met.ofW (cc := cX7_letter) (maxL := 3) (ret := (some .int)) (by decide) rfl ?_
  intro p e s m args below meth c s₁ B hml hv
  obtain ⟨rfl, hP, hK⟩ := hv
  have hx := B.exec
  have hb := B.bytes
  have hr := B.returns
  have hts := atoms_spec (ws := wsX7_letter) B.pre
  have hown : s.vm.findClass RX7 = some m.cls := findClass_of_methodNamed B.named
  have hlocks := B.notSynchronized
  have hin : ∀ q ∈ wsX70, q ∈ wsX7_letter := by decide +kernel
  have hl := lv_entry ([.ref (ad 0), .int a1]) (n := 3) (Nat.le_of_ble_eq_true rfl)
  rw [lg_entry_eq]
  generalize (lg_sl ([.ref (ad 0), .int a1]) ++ List.replicate (3 - (lg_sl ([.ref (ad 0), .int a1])).length) Slot.unset).toArray = ls at hl ⊢
  have hl : lv_has ls 3 [(0, .ref (ad 0)), (1, .int a1)] := hl
  suffices hgo : ∀ (H : Heap) (locs : List Loc), va_P D vwCl (RM cI ad w) H → va_S (RA ad) s.heap H locs → W p l e (headSpec wsX7_letter rmX7_letter).room s m [Value.ref (ad 0), Value.int a1].toArray below meth c H locs 0 0 (MQ below (va_Qi (fun r u => (r, u) = sX7_letter w a1 ∧ R7I u) (fun u t => va_P D vwCl (RM cI ad u) t.heap) (RA ad)) [Value.ref (ad 0), Value.int a1].toArray s 0 0 (RA ad)) (F0 m 0 ls []) from hgo s.heap [] hP va_S.rf
  intro H locs hP hS
  have E := sX7_letter.eq_1 w a1
  refine lv_iload_n hx hb dX7_letter_0 rfl (lv_at hl 1 rfl) ?_
  refine lv_iconst (v := 0) hx hb dX7_letter_1 (by decide) ?_
  refine lv_sipush (v := 255) hx hb dX7_letter_2 (by decide +kernel) ?_
  refine vp_callSi (va_Run.run (va_runS (As := [.int a1, .int 0, .int 255]) (rest := []) ⟨hx, hb, hml, hown, hts⟩ (kX7_bound l a1 0 255) (va_cwS 3 hts gX7_letter_X7_bound rfl rfl rfl mdX7_bound ⟨Nat.le_of_ble_eq_true rfl, Nat.le_of_ble_eq_true rfl⟩) s_pre rfl rfl hl.1 rfl (lv_room (Nat.le_of_ble_eq_true rfl)) dX7_letter_5 ⟨Nat.zero_le _, Nat.zero_le _⟩)) (fun r_1 hr_1 => ?_)
  subst hr_1
  have rf_1 := rX7_bound a1 0 255
  have := q_0
  have := q_255
  refine lv_istore_n (lv' := [(2, .int (sX7_bound a1 0 255)), (0, .ref (ad 0)), (1, .int a1)]) hx hb dX7_letter_8 rfl hl (by decide) rfl (fun ls hl => ?_)
  refine lv_iload_n hx hb dX7_letter_9 rfl (lv_at hl 0 rfl) ?_
  refine lv_if_ne (tgt := 25) hx hb dX7_letter_10 (by decide) (fun c_2 => ?_) (fun c_2 => ?_)
  · have E := E.trans (if_neg c_2)
    have fc_2 := i_ne c_2
    rw [q_0] at fc_2
    refine lv_iload_n hx hb dX7_letter_25 rfl (lv_at hl 0 rfl) ?_
    refine lv_if_eq (tgt := 35) hx hb dX7_letter_26 (by decide) (fun c_3 => ?_) (fun c_3 => ?_)
    · have E := E.trans (if_pos c_3)
      have fc_3 := i_eq c_3
      rw [q_0] at fc_3
      refine lv_aload_n hx hb dX7_letter_35 rfl (lv_at hl 1 rfl) ?_
      refine g7_tape hx hb hts hin hown hK hP (hts (.fieldLink RX7 43 "LoadedForTheLaneModel" "tape" "[I") (by decide +kernel)) dX7_letter_36 ?_
      refine lv_aload_n hx hb dX7_letter_39 rfl (lv_at hl 1 rfl) ?_
      refine g7_taped hx hb hts hin hown hK hP (hts (.fieldLink RX7 79 "LoadedForTheLaneModel" "taped" "I") (by decide +kernel)) dX7_letter_40 ?_
      have f_4 := R7I_taped hI
      refine lv_iload_n hx hb dX7_letter_43 rfl (lv_at hl 2 rfl) ?_
      have ix_5 : vp_in (w 16 0) 96 := ix_of (by omega) (by omega)
      refine a7_tape (j := (w 16 0).toNatClampNeg) hx hb hK hP hd hS ix_5 rfl dX7_letter_44 (fun H locs hP hS => ?_)
      obtain ⟨wn_5, hwn_5⟩ : ∃ x, x = st w 12 ((w 16 0).toNatClampNeg) a1 := ⟨_, rfl⟩
      rw [← hwn_5] at hP
      have E := bns_e E hwn_5
      have hI_5 : R7I wn_5 := by rw [hwn_5]; exact R7I_put_tape hI
      refine lv_aload_n hx hb dX7_letter_45 rfl (lv_at hl 1 rfl) ?_
      refine lv_dup hx hb dX7_letter_46 rfl ?_
      refine g7_taped hx hb hts hin hown hK hP (hts (.fieldLink RX7 79 "LoadedForTheLaneModel" "taped" "I") (by decide +kernel)) dX7_letter_47 ?_
      have f_6 := R7I_taped hI_5
      refine lv_iconst (v := 1) hx hb dX7_letter_50 (by decide) ?_
      refine lv_iadd hx hb dX7_letter_51 ?_
      refine p7_taped hx hb hts hin hown hK hP hd hS (hts (.fieldLink RX7 79 "LoadedForTheLaneModel" "taped" "I") (by decide +kernel)) dX7_letter_52 (fun H locs hP hS => ?_)
      obtain ⟨wn_7, hwn_7⟩ : ∃ x, x = st wn_5 16 0 ((wn_5 16 0) + 1) := ⟨_, rfl⟩
      rw [← hwn_7] at hP
      have E := bns_e E hwn_7
      have := q_1
      have := i_add (a := wn_5 16 0) (b := 1) (by omega) (by omega)
      have hI_7 : R7I wn_7 := by rw [hwn_7]; exact R7I_put_taped hI_5 (by omega) (by omega)
      refine lv_aload_n hx hb dX7_letter_55 rfl (lv_at hl 1 rfl) ?_
      refine g7_taped hx hb hts hin hown hK hP (hts (.fieldLink RX7 79 "LoadedForTheLaneModel" "taped" "I") (by decide +kernel)) dX7_letter_56 ?_
      have f_8 := R7I_taped hI_7
      exact W.iret (v := wn_7 16 0) hx hb hr (fun t ht hW => ⟨⟨_, wn_7, rfl, ⟨E.symm, hI_7⟩, by beta_reduce; rw [ht]; exact hP⟩, hS.F ht⟩) hS.2.2 dX7_letter_59
    · have E := E.trans (if_neg c_3)
      have fc_3 := i_ne c_3
      rw [q_0] at fc_3
      refine lv_aload_n hx hb dX7_letter_29 rfl (lv_at hl 1 rfl) ?_
      refine lv_iload_n hx hb dX7_letter_30 rfl (lv_at hl 0 rfl) ?_
      refine va_calli (va_runV (As := [.int (sX7_bound a1 0 255)]) (rest := []) ⟨hx, hb, hml, hown, hts⟩ (kX7_no l D cI ad w (sX7_bound a1 0 255) hd hI (by omega) (by omega)) (cwV 1 hts gX7_letter_X7_no rfl rfl rfl mdX7_no ⟨Nat.le_of_ble_eq_true rfl, Nat.le_of_ble_eq_true rfl⟩) (r7_pre hK hP) rfl rfl hl.1 rfl (lv_room (Nat.le_of_ble_eq_true rfl)) dX7_letter_31 ⟨Nat.zero_le _, Nat.zero_le _⟩) hS (fun _ _ h => h) (fun _ h => h) (fun rn_9 wn_9 t H locs ht hvm hp_9 hB hz hk hS => ?_)
      have hP : va_P D vwCl (RM cI ad wn_9) H := ht ▸ hB
      obtain ⟨hp_9, hI_9⟩ := hp_9
      have E := bnd_e E hp_9
      exact W.iret (v := rn_9) hx hb hr (fun t ht hW => ⟨⟨_, wn_9, rfl, ⟨E.symm, hI_9⟩, by beta_reduce; rw [ht]; exact hP⟩, hS.F ht⟩) hS.2.2 dX7_letter_34
  · have E := E.trans (if_pos c_2)
    have fc_2 := i_eq c_2
    rw [q_0] at fc_2
    refine lv_aload_n hx hb dX7_letter_13 rfl (lv_at hl 1 rfl) ?_
    refine g7_taped hx hb hts hin hown hK hP (hts (.fieldLink RX7 79 "LoadedForTheLaneModel" "taped" "I") (by decide +kernel)) dX7_letter_14 ?_
    have f_10 := R7I_taped hI
    refine lv_bipush (v := 96) hx hb dX7_letter_17 (by decide +kernel) ?_
    refine lv_icmp_ne (tgt := 25) hx hb dX7_letter_19 (by decide) (fun c_11 => ?_) (fun c_11 => ?_)
    · have E := E.trans (if_neg c_11)
      have fc_11 := i_ne c_11
      rw [q_96] at fc_11
      refine lv_iload_n hx hb dX7_letter_25 rfl (lv_at hl 0 rfl) ?_
      refine lv_if_eq (tgt := 35) hx hb dX7_letter_26 (by decide) (fun c_12 => ?_) (fun c_12 => ?_)
      · have E := E.trans (if_pos c_12)
        have fc_12 := i_eq c_12
        rw [q_0] at fc_12
        refine lv_aload_n hx hb dX7_letter_35 rfl (lv_at hl 1 rfl) ?_
        refine g7_tape hx hb hts hin hown hK hP (hts (.fieldLink RX7 43 "LoadedForTheLaneModel" "tape" "[I") (by decide +kernel)) dX7_letter_36 ?_
        refine lv_aload_n hx hb dX7_letter_39 rfl (lv_at hl 1 rfl) ?_
        refine g7_taped hx hb hts hin hown hK hP (hts (.fieldLink RX7 79 "LoadedForTheLaneModel" "taped" "I") (by decide +kernel)) dX7_letter_40 ?_
        have f_13 := R7I_taped hI
        refine lv_iload_n hx hb dX7_letter_43 rfl (lv_at hl 2 rfl) ?_
        have ix_14 : vp_in (w 16 0) 96 := ix_of (by omega) (by omega)
        refine a7_tape (j := (w 16 0).toNatClampNeg) hx hb hK hP hd hS ix_14 rfl dX7_letter_44 (fun H locs hP hS => ?_)
        obtain ⟨wn_14, hwn_14⟩ : ∃ x, x = st w 12 ((w 16 0).toNatClampNeg) a1 := ⟨_, rfl⟩
        rw [← hwn_14] at hP
        have E := bns_e E hwn_14
        have hI_14 : R7I wn_14 := by rw [hwn_14]; exact R7I_put_tape hI
        refine lv_aload_n hx hb dX7_letter_45 rfl (lv_at hl 1 rfl) ?_
        refine lv_dup hx hb dX7_letter_46 rfl ?_
        refine g7_taped hx hb hts hin hown hK hP (hts (.fieldLink RX7 79 "LoadedForTheLaneModel" "taped" "I") (by decide +kernel)) dX7_letter_47 ?_
        have f_15 := R7I_taped hI_14
        refine lv_iconst (v := 1) hx hb dX7_letter_50 (by decide) ?_
        refine lv_iadd hx hb dX7_letter_51 ?_
        refine p7_taped hx hb hts hin hown hK hP hd hS (hts (.fieldLink RX7 79 "LoadedForTheLaneModel" "taped" "I") (by decide +kernel)) dX7_letter_52 (fun H locs hP hS => ?_)
        obtain ⟨wn_16, hwn_16⟩ : ∃ x, x = st wn_14 16 0 ((wn_14 16 0) + 1) := ⟨_, rfl⟩
        rw [← hwn_16] at hP
        have E := bns_e E hwn_16
        have := q_1
        have := i_add (a := wn_14 16 0) (b := 1) (by omega) (by omega)
        have hI_16 : R7I wn_16 := by rw [hwn_16]; exact R7I_put_taped hI_14 (by omega) (by omega)
        refine lv_aload_n hx hb dX7_letter_55 rfl (lv_at hl 1 rfl) ?_
        refine g7_taped hx hb hts hin hown hK hP (hts (.fieldLink RX7 79 "LoadedForTheLaneModel" "taped" "I") (by decide +kernel)) dX7_letter_56 ?_
        have f_17 := R7I_taped hI_16
        exact W.iret (v := wn_16 16 0) hx hb hr (fun t ht hW => ⟨⟨_, wn_16, rfl, ⟨E.symm, hI_16⟩, by beta_reduce; rw [ht]; exact hP⟩, hS.F ht⟩) hS.2.2 dX7_letter_59
      · have E := E.trans (if_neg c_12)
        have fc_12 := i_ne c_12
        rw [q_0] at fc_12
        refine lv_aload_n hx hb dX7_letter_29 rfl (lv_at hl 1 rfl) ?_
        refine lv_iload_n hx hb dX7_letter_30 rfl (lv_at hl 0 rfl) ?_
        refine va_calli (va_runV (As := [.int (sX7_bound a1 0 255)]) (rest := []) ⟨hx, hb, hml, hown, hts⟩ (kX7_no l D cI ad w (sX7_bound a1 0 255) hd hI (by omega) (by omega)) (cwV 1 hts gX7_letter_X7_no rfl rfl rfl mdX7_no ⟨Nat.le_of_ble_eq_true rfl, Nat.le_of_ble_eq_true rfl⟩) (r7_pre hK hP) rfl rfl hl.1 rfl (lv_room (Nat.le_of_ble_eq_true rfl)) dX7_letter_31 ⟨Nat.zero_le _, Nat.zero_le _⟩) hS (fun _ _ h => h) (fun _ h => h) (fun rn_18 wn_18 t H locs ht hvm hp_18 hB hz hk hS => ?_)
        have hP : va_P D vwCl (RM cI ad wn_18) H := ht ▸ hB
        obtain ⟨hp_18, hI_18⟩ := hp_18
        have E := bnd_e E hp_18
        exact W.iret (v := rn_18) hx hb hr (fun t ht hW => ⟨⟨_, wn_18, rfl, ⟨E.symm, hI_18⟩, by beta_reduce; rw [ht]; exact hP⟩, hS.F ht⟩) hS.2.2 dX7_letter_34
    · have E := E.trans (if_pos c_11)
      have fc_11 := i_eq c_11
      rw [q_96] at fc_11
      refine lv_bipush (v := (-6)) hx hb dX7_letter_22 (by decide +kernel) ?_
      refine lv_istore_n (lv' := [(2, .int (-6)), (0, .ref (ad 0)), (1, .int a1)]) hx hb dX7_letter_24 rfl hl (by decide) rfl (fun ls hl => ?_)
      refine lv_iload_n hx hb dX7_letter_25 rfl (lv_at hl 0 rfl) ?_
      refine lv_if_eq (tgt := 35) hx hb dX7_letter_26 (by decide) (fun z => absurd z (by decide)) (fun _ => ?_)
      refine lv_aload_n hx hb dX7_letter_29 rfl (lv_at hl 1 rfl) ?_
      refine lv_iload_n hx hb dX7_letter_30 rfl (lv_at hl 0 rfl) ?_
      have := q_m6
      refine va_calli (va_runV (As := [.int (-6)]) (rest := []) ⟨hx, hb, hml, hown, hts⟩ (kX7_no l D cI ad w (-6) hd hI (by omega) (by omega)) (cwV 1 hts gX7_letter_X7_no rfl rfl rfl mdX7_no ⟨Nat.le_of_ble_eq_true rfl, Nat.le_of_ble_eq_true rfl⟩) (r7_pre hK hP) rfl rfl hl.1 rfl (lv_room (Nat.le_of_ble_eq_true rfl)) dX7_letter_31 ⟨Nat.zero_le _, Nat.zero_le _⟩) hS (fun _ _ h => h) (fun _ h => h) (fun rn_19 wn_19 t H locs ht hvm hp_19 hB hz hk hS => ?_)
      have hP : va_P D vwCl (RM cI ad wn_19) H := ht ▸ hB
      obtain ⟨hp_19, hI_19⟩ := hp_19
      have E := bnd_e E hp_19
      exact W.iret (v := rn_19) hx hb hr (fun t ht hW => ⟨⟨_, wn_19, rfl, ⟨E.symm, hI_19⟩, by beta_reduce; rw [ht]; exact hP⟩, hS.F ht⟩) hS.2.2 dX7_letter_34
abbrev rmX7_readsNumber : Room := { frames := 1, cells := 0, slots := 0, locals := 22 }
set_option maxHeartbeats 4000000 in
set_option maxRecDepth 100000 in
theorem kX7_readsNumber (l : Launch) (D : va_G) (cI : ClassId) (ad : Nat → Nat) (w : Nat → Nat → Int32) (a1 : Int32) (a2 : Int32) (a3 : Int32) (hd : RD ad) (hI : R7I w) (h1 : 0 ≤ a1.toInt) (h2 : a1.toInt < 192) : Met l yX7_readsNumber wsX7_readsNumber rmX7_readsNumber (va_Pc [Value.ref (ad 0), Value.int a1, Value.int a2, Value.int a3] (fun U => va_P D vwCl (RM cI ad w) U.heap ∧ va_K D vwCl [(cI, .int)] U)) (va_Qi (fun r u => (r, u) = sX7_readsNumber w a1 a2 a3 ∧ (r = 0 ∨ r = 1) ∧ R7I u ∧ ((w 17 0).toInt ≤ (u 17 0).toInt) ∧ ((u 16 0).toInt = (w 16 0).toInt) ∧ ((u 18 0).toInt = (w 18 0).toInt) ∧ ((u 11 0).toInt = (w 11 0).toInt)) (fun u t => va_P D vwCl (RM cI ad u) t.heap) (RA ad)) 0 0 (RA ad) := by
  refine Met.ofW (cc := cX7_readsNumber) (maxL := 6) (ret := (some .boolean)) (by decide) rfl ?_
  intro p e s m args below meth c s₁ B hml hv
  obtain ⟨rfl, hP, hK⟩ := hv
  have hx := B.exec
  have hb := B.bytes
  have hr := B.returns
  have hts := atoms_spec (ws := wsX7_readsNumber) B.pre
  have hown : s.vm.findClass RX7 = some m.cls := findClass_of_methodNamed B.named
  have hlocks := B.notSynchronized
  have hin : ∀ q ∈ wsX70, q ∈ wsX7_readsNumber := by decide +kernel
  have hl := lv_entry ([.ref (ad 0), .int a1, .int a2, .int a3]) (n := 6) (Nat.le_of_ble_eq_true rfl)
  rw [lg_entry_eq]
  generalize (lg_sl ([.ref (ad 0), .int a1, .int a2, .int a3]) ++ List.replicate (6 - (lg_sl ([.ref (ad 0), .int a1, .int a2, .int a3])).length) Slot.unset).toArray = ls at hl ⊢
  have hl : lv_has ls 6 [(0, .ref (ad 0)), (1, .int a1), (2, .int a2), (3, .int a3)] := hl
  suffices hgo : ∀ (H : Heap) (locs : List Loc), va_P D vwCl (RM cI ad w) H → va_S (RA ad) s.heap H locs → W p l e (headSpec wsX7_readsNumber rmX7_readsNumber).room s m [Value.ref (ad 0), Value.int a1, Value.int a2, Value.int a3].toArray below meth c H locs 0 0 (MQ below (va_Qi (fun r u => (r, u) = sX7_readsNumber w a1 a2 a3 ∧ (r = 0 ∨ r = 1) ∧ R7I u ∧ ((w 17 0).toInt ≤ (u 17 0).toInt) ∧ ((u 16 0).toInt = (w 16 0).toInt) ∧ ((u 18 0).toInt = (w 18 0).toInt) ∧ ((u 11 0).toInt = (w 11 0).toInt)) (fun u t => va_P D vwCl (RM cI ad u) t.heap) (RA ad)) [Value.ref (ad 0), Value.int a1, Value.int a2, Value.int a3].toArray s 0 0 (RA ad)) (F0 m 0 ls []) from hgo s.heap [] hP va_S.rf
  intro H locs hP hS
  have E := sX7_readsNumber.eq_1 w a1 a2 a3
  refine lv_iconst (v := 0) hx hb dX7_readsNumber_0 (by decide) ?_
  refine lv_istore (lv' := [(4, .int 0), (0, .ref (ad 0)), (1, .int a1), (2, .int a2), (3, .int a3)]) hx hb dX7_readsNumber_1 hl (by decide) rfl (fun ls hl => ?_)
  refine lv_iconst (v := 0) hx hb dX7_readsNumber_3 (by decide) ?_
  refine lv_istore (lv' := [(5, .int 0), (4, .int 0), (0, .ref (ad 0)), (1, .int a1), (2, .int a2), (3, .int a3)]) hx hb dX7_readsNumber_4 hl (by decide) rfl (fun ls hl => ?_)
  have L_6 : ∀ (n_6 : Nat) (x4_6 : Int32) (x5_6 : Int32) (w_6 : Nat → Nat → Int32) (H : Heap) (locs : List Loc) (ls : Array Slot), (0 ≤ (w_6 17 0).toInt ∧ (w_6 17 0).toInt ≤ 96 ∧ (w 17 0).toInt ≤ (w_6 17 0).toInt ∧ (w_6 16 0).toInt = (w 16 0).toInt ∧ (w_6 18 0).toInt = (w 18 0).toInt ∧ (w_6 11 0).toInt = (w 11 0).toInt) → (96 - (w_6 17 0).toInt < (n_6 : Int)) → R7I w_6 → va_P D vwCl (RM cI ad w_6) H → va_S (RA ad) s.heap H locs → lv_has ls 6 [(5, .int x5_6), (4, .int x4_6), (0, .ref (ad 0)), (1, .int a1), (2, .int a2), (3, .int a3)] → sX7_readsNumber w a1 a2 a3 = sX7_readsNumber_6 a1 a2 a3 n_6 x4_6 x5_6 w_6 → W p l e (headSpec wsX7_readsNumber rmX7_readsNumber).room s m [Value.ref (ad 0), Value.int a1, Value.int a2, Value.int a3].toArray below meth c H locs 0 0 (MQ below (va_Qi (fun r u => (r, u) = sX7_readsNumber w a1 a2 a3 ∧ (r = 0 ∨ r = 1) ∧ R7I u ∧ ((w 17 0).toInt ≤ (u 17 0).toInt) ∧ ((u 16 0).toInt = (w 16 0).toInt) ∧ ((u 18 0).toInt = (w 18 0).toInt) ∧ ((u 11 0).toInt = (w 11 0).toInt)) (fun u t => va_P D vwCl (RM cI ad u) t.heap) (RA ad)) [Value.ref (ad 0), Value.int a1, Value.int a2, Value.int a3].toArray s 0 0 (RA ad)) (F0 m 6 ls []) := by
    intro n_6
    induction n_6 with
    | zero =>
      intro x4_6 x5_6 w_6 H locs ls hinv hm
      obtain ⟨v0_6, v1_6, v2_6, v3_6, v4_6, v5_6⟩ := hinv
      exact absurd hm (by omega)
    | succ n_6 ih_6 =>
      intro x4_6 x5_6 w_6 H locs ls hinv hm_6 hI_6 hP hS hl E
      obtain ⟨v0_6, v1_6, v2_6, v3_6, v4_6, v5_6⟩ := hinv
      have E := E.trans (sX7_readsNumber_6.eq_2 ..)
      refine lv_iload hx hb dX7_readsNumber_6 (lv_at hl 0 rfl) ?_
      refine lv_iload_n hx hb dX7_readsNumber_8 rfl (lv_at hl 5 rfl) ?_
      refine lv_icmp_ge (tgt := 57) hx hb dX7_readsNumber_9 (by decide) (fun c_1 => ?_) (fun c_1 => ?_)
      · have E := E.trans (if_pos c_1)
        have fc_1 := i_le c_1
        refine lv_aload_n hx hb dX7_readsNumber_57 rfl (lv_at hl 2 rfl) ?_
        refine g7_told hx hb hts hin hown hK hP (hts (.fieldLink RX7 52 "LoadedForTheLaneModel" "told" "[I") (by decide +kernel)) dX7_readsNumber_58 ?_
        refine lv_iload_n hx hb dX7_readsNumber_61 rfl (lv_at hl 3 rfl) ?_
        refine lv_iload hx hb dX7_readsNumber_62 (lv_at hl 1 rfl) ?_
        have ix_2 : vp_in a1 192 := ix_of (by omega) (by omega)
        refine a7_told (j := a1.toNatClampNeg) hx hb hK hP hd hS ix_2 rfl dX7_readsNumber_64 (fun H locs hP hS => ?_)
        obtain ⟨wn_2, hwn_2⟩ : ∃ x, x = st w_6 15 (a1.toNatClampNeg) x4_6 := ⟨_, rfl⟩
        rw [← hwn_2] at hP
        have E := bns_e E hwn_2
        have ft2_taped : (wn_2 16 0).toInt = (w_6 16 0).toInt := by rw [hwn_2]; rfl
        have ft2_at : (wn_2 17 0).toInt = (w_6 17 0).toInt := by rw [hwn_2]; rfl
        have ft2_statements : (wn_2 18 0).toInt = (w_6 18 0).toInt := by rw [hwn_2]; rfl
        have ft2_layers : (wn_2 11 0).toInt = (w_6 11 0).toInt := by rw [hwn_2]; rfl
        have fv_2 : (wn_2 15 (a1.toNatClampNeg)).toInt = (x4_6).toInt := by rw [hwn_2, st_rd]
        have hI_2 : R7I wn_2 := by rw [hwn_2]; exact R7I_put_told hI_6
        refine lv_iload hx hb dX7_readsNumber_65 (lv_at hl 0 rfl) ?_
        refine lv_iload_n hx hb dX7_readsNumber_67 rfl (lv_at hl 4 rfl) ?_
        refine lv_icmp_lt (tgt := 75) hx hb dX7_readsNumber_68 (by decide) (fun c_3 => ?_) (fun c_3 => ?_)
        · have E := E.trans (if_pos c_3)
          have fc_3 := i_lt c_3
          refine lv_iconst (v := 0) hx hb dX7_readsNumber_75 (by decide) ?_
          have := q_0
          exact W.zret (ty := .boolean) (v := 0) hx hb hr (z_nar (Or.inl rfl)) (fun t ht hW => ⟨⟨_, wn_2, rfl, ⟨E.symm, (Or.inl rfl), hI_2, by omega, by omega, by omega, by omega⟩, by beta_reduce; rw [ht]; exact hP⟩, hS.F ht⟩) hS.2.2 dX7_readsNumber_76
        · have E := E.trans (if_neg c_3)
          have fc_3 := i_nlt c_3
          refine lv_iconst (v := 1) hx hb dX7_readsNumber_71 (by decide) ?_
          refine lv_goto (tgt := 76) hx hb dX7_readsNumber_72 (by decide) ?_
          have := q_1
          exact W.zret (ty := .boolean) (v := 1) hx hb hr (z_nar (Or.inr rfl)) (fun t ht hW => ⟨⟨_, wn_2, rfl, ⟨E.symm, (Or.inr rfl), hI_2, by omega, by omega, by omega, by omega⟩, by beta_reduce; rw [ht]; exact hP⟩, hS.F ht⟩) hS.2.2 dX7_readsNumber_76
      · have E := E.trans (if_neg c_1)
        have fc_1 := i_nle c_1
        refine lv_aload_n hx hb dX7_readsNumber_12 rfl (lv_at hl 2 rfl) ?_
        refine vp_callSi (va_Run.run (va_runV (As := []) (rest := []) ⟨hx, hb, hml, hown, hts⟩ (kX7_next l D cI ad w_6 hI_6) (cwV 0 hts gX7_readsNumber_X7_next rfl rfl rfl mdX7_next ⟨Nat.le_of_ble_eq_true rfl, Nat.le_of_ble_eq_true rfl⟩) (r7_pre hK hP) rfl rfl hl.1 rfl (lv_room (Nat.le_of_ble_eq_true rfl)) dX7_readsNumber_13 ⟨Nat.zero_le _, Nat.zero_le _⟩)) (fun r_4 hr_4 => ?_)
        subst hr_4
        have rf_4 := rX7_next w_6
        have rt_4 := R7I_taped hI_6
        refine lv_bipush (v := 48) hx hb dX7_readsNumber_16 (by decide +kernel) ?_
        refine lv_bipush (v := 57) hx hb dX7_readsNumber_18 (by decide +kernel) ?_
        refine vp_callSi (va_Run.run (va_runS (As := [.int (sX7_next w_6), .int 48, .int 57]) (rest := []) ⟨hx, hb, hml, hown, hts⟩ (kX7_isIn l (sX7_next w_6) 48 57) (va_cwS 3 hts gX7_readsNumber_X7_isIn rfl rfl rfl mdX7_isIn ⟨Nat.le_of_ble_eq_true rfl, Nat.le_of_ble_eq_true rfl⟩) s_pre rfl rfl hl.1 rfl (lv_room (Nat.le_of_ble_eq_true rfl)) dX7_readsNumber_20 ⟨Nat.zero_le _, Nat.zero_le _⟩)) (fun r_5 hr_5 => ?_)
        obtain ⟨rfl, hz_5⟩ := hr_5
        refine lv_if_eq (tgt := 57) hx hb dX7_readsNumber_23 (by decide) (fun c_6 => ?_) (fun c_6 => ?_)
        · have E := E.trans (if_pos c_6)
          have fc_6 := i_eq c_6
          rw [q_0] at fc_6
          refine lv_aload_n hx hb dX7_readsNumber_57 rfl (lv_at hl 2 rfl) ?_
          refine g7_told hx hb hts hin hown hK hP (hts (.fieldLink RX7 52 "LoadedForTheLaneModel" "told" "[I") (by decide +kernel)) dX7_readsNumber_58 ?_
          refine lv_iload_n hx hb dX7_readsNumber_61 rfl (lv_at hl 3 rfl) ?_
          refine lv_iload hx hb dX7_readsNumber_62 (lv_at hl 1 rfl) ?_
          have ix_7 : vp_in a1 192 := ix_of (by omega) (by omega)
          refine a7_told (j := a1.toNatClampNeg) hx hb hK hP hd hS ix_7 rfl dX7_readsNumber_64 (fun H locs hP hS => ?_)
          obtain ⟨wn_7, hwn_7⟩ : ∃ x, x = st w_6 15 (a1.toNatClampNeg) x4_6 := ⟨_, rfl⟩
          rw [← hwn_7] at hP
          have E := bns_e E hwn_7
          have ft7_taped : (wn_7 16 0).toInt = (w_6 16 0).toInt := by rw [hwn_7]; rfl
          have ft7_at : (wn_7 17 0).toInt = (w_6 17 0).toInt := by rw [hwn_7]; rfl
          have ft7_statements : (wn_7 18 0).toInt = (w_6 18 0).toInt := by rw [hwn_7]; rfl
          have ft7_layers : (wn_7 11 0).toInt = (w_6 11 0).toInt := by rw [hwn_7]; rfl
          have fv_7 : (wn_7 15 (a1.toNatClampNeg)).toInt = (x4_6).toInt := by rw [hwn_7, st_rd]
          have hI_7 : R7I wn_7 := by rw [hwn_7]; exact R7I_put_told hI_6
          refine lv_iload hx hb dX7_readsNumber_65 (lv_at hl 0 rfl) ?_
          refine lv_iload_n hx hb dX7_readsNumber_67 rfl (lv_at hl 4 rfl) ?_
          refine lv_icmp_lt (tgt := 75) hx hb dX7_readsNumber_68 (by decide) (fun c_8 => ?_) (fun c_8 => ?_)
          · have E := E.trans (if_pos c_8)
            have fc_8 := i_lt c_8
            refine lv_iconst (v := 0) hx hb dX7_readsNumber_75 (by decide) ?_
            have := q_0
            exact W.zret (ty := .boolean) (v := 0) hx hb hr (z_nar (Or.inl rfl)) (fun t ht hW => ⟨⟨_, wn_7, rfl, ⟨E.symm, (Or.inl rfl), hI_7, by omega, by omega, by omega, by omega⟩, by beta_reduce; rw [ht]; exact hP⟩, hS.F ht⟩) hS.2.2 dX7_readsNumber_76
          · have E := E.trans (if_neg c_8)
            have fc_8 := i_nlt c_8
            refine lv_iconst (v := 1) hx hb dX7_readsNumber_71 (by decide) ?_
            refine lv_goto (tgt := 76) hx hb dX7_readsNumber_72 (by decide) ?_
            have := q_1
            exact W.zret (ty := .boolean) (v := 1) hx hb hr (z_nar (Or.inr rfl)) (fun t ht hW => ⟨⟨_, wn_7, rfl, ⟨E.symm, (Or.inr rfl), hI_7, by omega, by omega, by omega, by omega⟩, by beta_reduce; rw [ht]; exact hP⟩, hS.F ht⟩) hS.2.2 dX7_readsNumber_76
        · have E := E.trans (if_neg c_6)
          have fc_6 := i_ne c_6
          rw [q_0] at fc_6
          have gc_6 := fX7_isIn c_6
          have := q_48
          have := q_57
          refine lv_bipush (v := 10) hx hb dX7_readsNumber_26 (by decide +kernel) ?_
          refine lv_iload hx hb dX7_readsNumber_28 (lv_at hl 1 rfl) ?_
          refine lv_imul hx hb dX7_readsNumber_30 ?_
          refine lv_aload_n hx hb dX7_readsNumber_31 rfl (lv_at hl 2 rfl) ?_
          refine vp_callSi (va_Run.run (va_runV (As := []) (rest := [.int (10 * x4_6)]) ⟨hx, hb, hml, hown, hts⟩ (kX7_next l D cI ad w_6 hI_6) (cwV 0 hts gX7_readsNumber_X7_next rfl rfl rfl mdX7_next ⟨Nat.le_of_ble_eq_true rfl, Nat.le_of_ble_eq_true rfl⟩) (r7_pre hK hP) rfl rfl hl.1 rfl (lv_room (Nat.le_of_ble_eq_true rfl)) dX7_readsNumber_32 ⟨Nat.zero_le _, Nat.zero_le _⟩)) (fun r_9 hr_9 => ?_)
          subst hr_9
          have rf_9 := rX7_next w_6
          have rt_9 := R7I_taped hI_6
          refine lv_iadd hx hb dX7_readsNumber_35 ?_
          refine lv_bipush (v := 48) hx hb dX7_readsNumber_36 (by decide +kernel) ?_
          refine lv_isub hx hb dX7_readsNumber_38 ?_
          refine lv_istore (lv' := [(4, .int (((10 * x4_6) + (sX7_next w_6)) - 48)), (5, .int x5_6), (0, .ref (ad 0)), (1, .int a1), (2, .int a2), (3, .int a3)]) hx hb dX7_readsNumber_39 hl (by decide) rfl (fun ls hl => ?_)
          refine lv_aload_n hx hb dX7_readsNumber_41 rfl (lv_at hl 2 rfl) ?_
          refine lv_dup hx hb dX7_readsNumber_42 rfl ?_
          refine g7_at hx hb hts hin hown hK hP (hts (.fieldLink RX7 86 "LoadedForTheLaneModel" "at" "I") (by decide +kernel)) dX7_readsNumber_43 ?_
          have f_10 := R7I_at hI_6
          refine lv_iconst (v := 1) hx hb dX7_readsNumber_46 (by decide) ?_
          refine lv_iadd hx hb dX7_readsNumber_47 ?_
          refine p7_at hx hb hts hin hown hK hP hd hS (hts (.fieldLink RX7 86 "LoadedForTheLaneModel" "at" "I") (by decide +kernel)) dX7_readsNumber_48 (fun H locs hP hS => ?_)
          obtain ⟨wn_11, hwn_11⟩ : ∃ x, x = st w_6 17 0 ((w_6 17 0) + 1) := ⟨_, rfl⟩
          rw [← hwn_11] at hP
          have E := bns_e E hwn_11
          have ft11_taped : (wn_11 16 0).toInt = (w_6 16 0).toInt := by rw [hwn_11]; rfl
          have ft11_at : (wn_11 17 0).toInt = ((w_6 17 0) + 1).toInt := by rw [hwn_11]; rfl
          have := q_1
          have := i_add (a := w_6 17 0) (b := 1) (by omega) (by omega)
          have ft11_statements : (wn_11 18 0).toInt = (w_6 18 0).toInt := by rw [hwn_11]; rfl
          have ft11_layers : (wn_11 11 0).toInt = (w_6 11 0).toInt := by rw [hwn_11]; rfl
          have := q_1
          have := i_add (a := w_6 17 0) (b := 1) (by omega) (by omega)
          have hI_11 : R7I wn_11 := by rw [hwn_11]; exact R7I_put_at hI_6 (by omega) (by omega)
          refine lv_iinc (v := x5_6 + 1) (lv' := [(5, .int (x5_6 + 1)), (4, .int (((10 * x4_6) + (sX7_next w_6)) - 48)), (0, .ref (ad 0)), (1, .int a1), (2, .int a2), (3, .int a3)]) hx hb dX7_readsNumber_51 hl (k := 1) rfl rfl (by decide) rfl (fun ls hl => ?_)
          refine lv_goto (tgt := 6) hx hb dX7_readsNumber_54 (by decide) ?_
          have := q_10
          try have := i_mull (a := 10) (b := x4_6) (n := 10) q_10 (by omega) (by omega)
          try have := i_add (a := 10 * x4_6) (b := (sX7_next w_6)) (by omega) (by omega)
          have := q_48
          try have := i_sub (a := (10 * x4_6) + (sX7_next w_6)) (b := 48) (by omega) (by omega)
          have := q_1
          try have := i_add (a := x5_6) (b := 1) (by omega) (by omega)
          exact ih_6 (((10 * x4_6) + (sX7_next w_6)) - 48) (x5_6 + 1) wn_11 H locs ls ⟨by omega, by omega, by omega, by omega, by omega, by omega⟩ (by omega) hI_11 hP hS (lv_sub hl [0, 1, 2, 3, 4, 5] rfl) E
  have := q_0
  have := R7I_at hI
  exact L_6 97 0 0 w H locs ls ⟨by omega, by omega, by omega, by omega, by omega, by omega⟩ (by omega) hI hP hS (lv_sub hl [0, 1, 2, 3, 4, 5] rfl) E
abbrev rmX7_readsLayer : Room := { frames := 2, cells := 0, slots := 0, locals := 47 }
set_option maxHeartbeats 4000000 in
set_option maxRecDepth 100000 in
theorem kX7_readsLayer (l : Launch) (D : va_G) (cI : ClassId) (ad : Nat → Nat) (w : Nat → Nat → Int32) (a1 : Int32) (hd : RD ad) (hI : R7I w) (h1 : 0 ≤ a1.toInt) (h2 : a1.toInt ≤ 188) : Met l yX7_readsLayer wsX7_readsLayer rmX7_readsLayer (va_Pc [Value.ref (ad 0), Value.int a1] (fun U => va_P D vwCl (RM cI ad w) U.heap ∧ va_K D vwCl [(cI, .int)] U)) (va_Qi (fun r u => (r, u) = sX7_readsLayer w a1 ∧ (r = 0 ∨ r = 1) ∧ R7I u ∧ ((w 17 0).toInt ≤ (u 17 0).toInt) ∧ ((u 16 0).toInt = (w 16 0).toInt) ∧ ((u 18 0).toInt = (w 18 0).toInt) ∧ ((u 11 0).toInt = (w 11 0).toInt)) (fun u t => va_P D vwCl (RM cI ad u) t.heap) (RA ad)) 0 0 (RA ad) := by
  refine Met.ofW (cc := cX7_readsLayer) (maxL := 3) (ret := (some .boolean)) (by decide) rfl ?_
  intro p e s m args below meth c s₁ B hml hv
  obtain ⟨rfl, hP, hK⟩ := hv
  have hx := B.exec
  have hb := B.bytes
  have hr := B.returns
  have hts := atoms_spec (ws := wsX7_readsLayer) B.pre
  have hown : s.vm.findClass RX7 = some m.cls := findClass_of_methodNamed B.named
  have hlocks := B.notSynchronized
  have hin : ∀ q ∈ wsX70, q ∈ wsX7_readsLayer := by decide +kernel
  have hl := lv_entry ([.ref (ad 0), .int a1]) (n := 3) (Nat.le_of_ble_eq_true rfl)
  rw [lg_entry_eq]
  generalize (lg_sl ([.ref (ad 0), .int a1]) ++ List.replicate (3 - (lg_sl ([.ref (ad 0), .int a1])).length) Slot.unset).toArray = ls at hl ⊢
  have hl : lv_has ls 3 [(0, .ref (ad 0)), (1, .int a1)] := hl
  suffices hgo : ∀ (H : Heap) (locs : List Loc), va_P D vwCl (RM cI ad w) H → va_S (RA ad) s.heap H locs → W p l e (headSpec wsX7_readsLayer rmX7_readsLayer).room s m [Value.ref (ad 0), Value.int a1].toArray below meth c H locs 0 0 (MQ below (va_Qi (fun r u => (r, u) = sX7_readsLayer w a1 ∧ (r = 0 ∨ r = 1) ∧ R7I u ∧ ((w 17 0).toInt ≤ (u 17 0).toInt) ∧ ((u 16 0).toInt = (w 16 0).toInt) ∧ ((u 18 0).toInt = (w 18 0).toInt) ∧ ((u 11 0).toInt = (w 11 0).toInt)) (fun u t => va_P D vwCl (RM cI ad u) t.heap) (RA ad)) [Value.ref (ad 0), Value.int a1].toArray s 0 0 (RA ad)) (F0 m 0 ls []) from hgo s.heap [] hP va_S.rf
  intro H locs hP hS
  have E := sX7_readsLayer.eq_1 w a1
  refine lv_aload_n hx hb dX7_readsLayer_0 rfl (lv_at hl 0 rfl) ?_
  refine g7_told hx hb hts hin hown hK hP (hts (.fieldLink RX7 52 "LoadedForTheLaneModel" "told" "[I") (by decide +kernel)) dX7_readsLayer_1 ?_
  refine lv_iload_n hx hb dX7_readsLayer_4 rfl (lv_at hl 1 rfl) ?_
  refine lv_aload_n hx hb dX7_readsLayer_5 rfl (lv_at hl 0 rfl) ?_
  refine vp_callSi (va_Run.run (va_runV (As := []) (rest := [.int a1, .ref (ad 15)]) ⟨hx, hb, hml, hown, hts⟩ (kX7_next l D cI ad w hI) (cwV 0 hts gX7_readsLayer_X7_next rfl rfl rfl mdX7_next ⟨Nat.le_of_ble_eq_true rfl, Nat.le_of_ble_eq_true rfl⟩) (r7_pre hK hP) rfl rfl hl.1 rfl (lv_room (Nat.le_of_ble_eq_true rfl)) dX7_readsLayer_6 ⟨Nat.zero_le _, Nat.zero_le _⟩)) (fun r_1 hr_1 => ?_)
  subst hr_1
  have rf_1 := rX7_next w
  have rt_1 := R7I_taped hI
  refine vp_callSi (va_Run.run (va_runS (As := [.int (sX7_next w)]) (rest := [.int a1, .ref (ad 15)]) ⟨hx, hb, hml, hown, hts⟩ (kX7_layerOf l (sX7_next w)) (va_cwS 1 hts gX7_readsLayer_X7_layerOf rfl rfl rfl mdX7_layerOf ⟨Nat.le_of_ble_eq_true rfl, Nat.le_of_ble_eq_true rfl⟩) s_pre rfl rfl hl.1 rfl (lv_room (Nat.le_of_ble_eq_true rfl)) dX7_readsLayer_9 ⟨Nat.zero_le _, Nat.zero_le _⟩)) (fun r_2 hr_2 => ?_)
  subst hr_2
  have rf_2 := rX7_layerOf (sX7_next w)
  have ix_3 : vp_in a1 192 := ix_of (by omega) (by omega)
  refine a7_told (j := a1.toNatClampNeg) hx hb hK hP hd hS ix_3 rfl dX7_readsLayer_12 (fun H locs hP hS => ?_)
  obtain ⟨wn_3, hwn_3⟩ : ∃ x, x = st w 15 (a1.toNatClampNeg) (sX7_layerOf (sX7_next w)) := ⟨_, rfl⟩
  rw [← hwn_3] at hP
  have E := bns_e E hwn_3
  have ft3_taped : (wn_3 16 0).toInt = (w 16 0).toInt := by rw [hwn_3]; rfl
  have ft3_at : (wn_3 17 0).toInt = (w 17 0).toInt := by rw [hwn_3]; rfl
  have ft3_statements : (wn_3 18 0).toInt = (w 18 0).toInt := by rw [hwn_3]; rfl
  have ft3_layers : (wn_3 11 0).toInt = (w 11 0).toInt := by rw [hwn_3]; rfl
  have fv_3 : (wn_3 15 (a1.toNatClampNeg)).toInt = ((sX7_layerOf (sX7_next w))).toInt := by rw [hwn_3, st_rd]
  have hI_3 : R7I wn_3 := by rw [hwn_3]; exact R7I_put_told hI
  refine lv_aload_n hx hb dX7_readsLayer_13 rfl (lv_at hl 0 rfl) ?_
  refine g7_told hx hb hts hin hown hK hP (hts (.fieldLink RX7 52 "LoadedForTheLaneModel" "told" "[I") (by decide +kernel)) dX7_readsLayer_14 ?_
  refine lv_iload_n hx hb dX7_readsLayer_17 rfl (lv_at hl 1 rfl) ?_
  have ix_4 : vp_in a1 192 := ix_of (by omega) (by omega)
  refine l7_told (j := a1.toNatClampNeg) hx hb hK hP ix_4 rfl dX7_readsLayer_18 ?_
  refine lv_if_ge (tgt := 24) hx hb dX7_readsLayer_19 (by decide) (fun c_5 => ?_) (fun c_5 => ?_)
  · have E := E.trans (if_pos c_5)
    have fc_5 := i_le c_5
    rw [q_0] at fc_5
    refine lv_aload_n hx hb dX7_readsLayer_24 rfl (lv_at hl 0 rfl) ?_
    refine lv_dup hx hb dX7_readsLayer_25 rfl ?_
    refine g7_at hx hb hts hin hown hK hP (hts (.fieldLink RX7 86 "LoadedForTheLaneModel" "at" "I") (by decide +kernel)) dX7_readsLayer_26 ?_
    have f_6 := R7I_at hI_3
    refine lv_iconst (v := 1) hx hb dX7_readsLayer_29 (by decide) ?_
    refine lv_iadd hx hb dX7_readsLayer_30 ?_
    refine p7_at hx hb hts hin hown hK hP hd hS (hts (.fieldLink RX7 86 "LoadedForTheLaneModel" "at" "I") (by decide +kernel)) dX7_readsLayer_31 (fun H locs hP hS => ?_)
    obtain ⟨wn_7, hwn_7⟩ : ∃ x, x = st wn_3 17 0 ((wn_3 17 0) + 1) := ⟨_, rfl⟩
    rw [← hwn_7] at hP
    have E := bns_e E hwn_7
    have ft7_taped : (wn_7 16 0).toInt = (wn_3 16 0).toInt := by rw [hwn_7]; rfl
    have ft7_at : (wn_7 17 0).toInt = ((wn_3 17 0) + 1).toInt := by rw [hwn_7]; rfl
    have := q_1
    have := i_add (a := wn_3 17 0) (b := 1) (by omega) (by omega)
    have ft7_statements : (wn_7 18 0).toInt = (wn_3 18 0).toInt := by rw [hwn_7]; rfl
    have ft7_layers : (wn_7 11 0).toInt = (wn_3 11 0).toInt := by rw [hwn_7]; rfl
    have := q_1
    have := i_add (a := wn_3 17 0) (b := 1) (by omega) (by omega)
    have hI_7 : R7I wn_7 := by rw [hwn_7]; exact R7I_put_at hI_3 (by omega) (by omega)
    refine lv_aload_n hx hb dX7_readsLayer_34 rfl (lv_at hl 0 rfl) ?_
    refine lv_iload_n hx hb dX7_readsLayer_35 rfl (lv_at hl 1 rfl) ?_
    refine lv_iconst (v := 1) hx hb dX7_readsLayer_36 (by decide) ?_
    refine lv_iadd hx hb dX7_readsLayer_37 ?_
    refine lv_iconst (v := 2) hx hb dX7_readsLayer_38 (by decide) ?_
    refine lv_iconst (v := 2) hx hb dX7_readsLayer_39 (by decide) ?_
    have := q_1
    have := i_add (a := a1) (b := 1) (by omega) (by omega)
    have := q_2
    refine va_calli (va_runV (As := [.int (a1 + 1), .int 2, .int 2]) (rest := []) ⟨hx, hb, hml, hown, hts⟩ (kX7_readsNumber l D cI ad wn_7 (a1 + 1) 2 2 hd hI_7 (by omega) (by omega)) (cwV 3 hts gX7_readsLayer_X7_readsNumber rfl rfl rfl mdX7_readsNumber ⟨Nat.le_of_ble_eq_true rfl, Nat.le_of_ble_eq_true rfl⟩) (r7_pre hK hP) rfl rfl hl.1 rfl (lv_room (Nat.le_of_ble_eq_true rfl)) dX7_readsLayer_40 ⟨Nat.zero_le _, Nat.zero_le _⟩) hS (fun _ _ h => h) (fun _ h => h) (fun rn_8 wn_8 t H locs ht hvm hp_8 hB hz hk hS => ?_)
    have hP : va_P D vwCl (RM cI ad wn_8) H := ht ▸ hB
    obtain ⟨hp_8, hz_8, hI_8, hq0_8, hq1_8, hq2_8, hq3_8⟩ := hp_8
    have E := bnd_e E hp_8
    have hzi_8 := z_int hz_8
    refine lv_if_eq (tgt := 58) hx hb dX7_readsLayer_43 (by decide) (fun c_9 => ?_) (fun c_9 => ?_)
    · have E := E.trans (if_pos c_9)
      have fc_9 := i_eq c_9
      rw [q_0] at fc_9
      refine lv_iconst (v := 0) hx hb dX7_readsLayer_58 (by decide) ?_
      have := q_0
      exact W.zret (ty := .boolean) (v := 0) hx hb hr (z_nar (Or.inl rfl)) (fun t ht hW => ⟨⟨_, wn_8, rfl, ⟨E.symm, (Or.inl rfl), hI_8, by omega, by omega, by omega, by omega⟩, by beta_reduce; rw [ht]; exact hP⟩, hS.F ht⟩) hS.2.2 dX7_readsLayer_59
    · have E := E.trans (if_neg c_9)
      have fc_9 := i_ne c_9
      rw [q_0] at fc_9
      refine lv_aload_n hx hb dX7_readsLayer_46 rfl (lv_at hl 0 rfl) ?_
      refine lv_iload_n hx hb dX7_readsLayer_47 rfl (lv_at hl 1 rfl) ?_
      refine lv_iconst (v := 2) hx hb dX7_readsLayer_48 (by decide) ?_
      refine lv_iadd hx hb dX7_readsLayer_49 ?_
      refine lv_iconst (v := 1) hx hb dX7_readsLayer_50 (by decide) ?_
      refine lv_iconst (v := 1) hx hb dX7_readsLayer_51 (by decide) ?_
      have := q_2
      have := i_add (a := a1) (b := 2) (by omega) (by omega)
      have := q_1
      refine va_calli (va_runV (As := [.int (a1 + 2), .int 1, .int 1]) (rest := []) ⟨hx, hb, hml, hown, hts⟩ (kX7_readsNumber l D cI ad wn_8 (a1 + 2) 1 1 hd hI_8 (by omega) (by omega)) (cwV 3 hts gX7_readsLayer_X7_readsNumber rfl rfl rfl mdX7_readsNumber ⟨Nat.le_of_ble_eq_true rfl, Nat.le_of_ble_eq_true rfl⟩) (r7_pre hK hP) rfl rfl hl.1 rfl (lv_room (Nat.le_of_ble_eq_true rfl)) dX7_readsLayer_52 ⟨Nat.zero_le _, Nat.zero_le _⟩) hS (fun _ _ h => h) (fun _ h => h) (fun rn_10 wn_10 t H locs ht hvm hp_10 hB hz hk hS => ?_)
      have hP : va_P D vwCl (RM cI ad wn_10) H := ht ▸ hB
      obtain ⟨hp_10, hz_10, hI_10, hq0_10, hq1_10, hq2_10, hq3_10⟩ := hp_10
      have E := bnd_e E hp_10
      have hzi_10 := z_int hz_10
      refine lv_if_ne (tgt := 60) hx hb dX7_readsLayer_55 (by decide) (fun c_11 => ?_) (fun c_11 => ?_)
      · have E := E.trans (if_neg c_11)
        have fc_11 := i_ne c_11
        rw [q_0] at fc_11
        refine lv_aload_n hx hb dX7_readsLayer_60 rfl (lv_at hl 0 rfl) ?_
        refine vp_callSi (va_Run.run (va_runV (As := []) (rest := []) ⟨hx, hb, hml, hown, hts⟩ (kX7_next l D cI ad wn_10 hI_10) (cwV 0 hts gX7_readsLayer_X7_next rfl rfl rfl mdX7_next ⟨Nat.le_of_ble_eq_true rfl, Nat.le_of_ble_eq_true rfl⟩) (r7_pre hK hP) rfl rfl hl.1 rfl (lv_room (Nat.le_of_ble_eq_true rfl)) dX7_readsLayer_61 ⟨Nat.zero_le _, Nat.zero_le _⟩)) (fun r_12 hr_12 => ?_)
        subst hr_12
        have rf_12 := rX7_next wn_10
        have rt_12 := R7I_taped hI_10
        refine lv_bipush (v := 43) hx hb dX7_readsLayer_64 (by decide +kernel) ?_
        refine lv_icmp_ne (tgt := 73) hx hb dX7_readsLayer_66 (by decide) (fun c_13 => ?_) (fun c_13 => ?_)
        · have E := E.trans (if_neg c_13)
          have fc_13 := i_ne c_13
          rw [q_43] at fc_13
          refine lv_aload_n hx hb dX7_readsLayer_73 rfl (lv_at hl 0 rfl) ?_
          refine vp_callSi (va_Run.run (va_runV (As := []) (rest := []) ⟨hx, hb, hml, hown, hts⟩ (kX7_next l D cI ad wn_10 hI_10) (cwV 0 hts gX7_readsLayer_X7_next rfl rfl rfl mdX7_next ⟨Nat.le_of_ble_eq_true rfl, Nat.le_of_ble_eq_true rfl⟩) (r7_pre hK hP) rfl rfl hl.1 rfl (lv_room (Nat.le_of_ble_eq_true rfl)) dX7_readsLayer_74 ⟨Nat.zero_le _, Nat.zero_le _⟩)) (fun r_14 hr_14 => ?_)
          subst hr_14
          have rf_14 := rX7_next wn_10
          have rt_14 := R7I_taped hI_10
          refine lv_bipush (v := 45) hx hb dX7_readsLayer_77 (by decide +kernel) ?_
          refine lv_icmp_ne (tgt := 86) hx hb dX7_readsLayer_79 (by decide) (fun c_15 => ?_) (fun c_15 => ?_)
          · have E := E.trans (if_neg c_15)
            have fc_15 := i_ne c_15
            rw [q_45] at fc_15
            refine lv_iconst (v := 0) hx hb dX7_readsLayer_86 (by decide) ?_
            refine lv_istore_n (lv' := [(2, .int 0), (0, .ref (ad 0)), (1, .int a1)]) hx hb dX7_readsLayer_87 rfl hl (by decide) rfl (fun ls hl => ?_)
            refine lv_iload_n hx hb dX7_readsLayer_88 rfl (lv_at hl 0 rfl) ?_
            refine lv_if_ne (tgt := 94) hx hb dX7_readsLayer_89 (by decide) (fun z => absurd z (by decide)) (fun _ => ?_)
            refine lv_iconst (v := 0) hx hb dX7_readsLayer_92 (by decide) ?_
            have := q_0
            exact W.zret (ty := .boolean) (v := 0) hx hb hr (z_nar (Or.inl rfl)) (fun t ht hW => ⟨⟨_, wn_10, rfl, ⟨E.symm, (Or.inl rfl), hI_10, by omega, by omega, by omega, by omega⟩, by beta_reduce; rw [ht]; exact hP⟩, hS.F ht⟩) hS.2.2 dX7_readsLayer_93
          · have E := E.trans (if_pos c_15)
            have fc_15 := i_eq c_15
            rw [q_45] at fc_15
            refine lv_iconst (v := (-1)) hx hb dX7_readsLayer_82 (by decide) ?_
            refine lv_goto (tgt := 87) hx hb dX7_readsLayer_83 (by decide) ?_
            refine lv_istore_n (lv' := [(2, .int (-1)), (0, .ref (ad 0)), (1, .int a1)]) hx hb dX7_readsLayer_87 rfl hl (by decide) rfl (fun ls hl => ?_)
            refine lv_iload_n hx hb dX7_readsLayer_88 rfl (lv_at hl 0 rfl) ?_
            refine lv_if_ne (tgt := 94) hx hb dX7_readsLayer_89 (by decide) (fun _ => ?_) (fun z => absurd z (by decide))
            refine lv_aload_n hx hb dX7_readsLayer_94 rfl (lv_at hl 1 rfl) ?_
            refine lv_dup hx hb dX7_readsLayer_95 rfl ?_
            refine g7_at hx hb hts hin hown hK hP (hts (.fieldLink RX7 86 "LoadedForTheLaneModel" "at" "I") (by decide +kernel)) dX7_readsLayer_96 ?_
            have f_16 := R7I_at hI_10
            refine lv_iconst (v := 1) hx hb dX7_readsLayer_99 (by decide) ?_
            refine lv_iadd hx hb dX7_readsLayer_100 ?_
            refine p7_at hx hb hts hin hown hK hP hd hS (hts (.fieldLink RX7 86 "LoadedForTheLaneModel" "at" "I") (by decide +kernel)) dX7_readsLayer_101 (fun H locs hP hS => ?_)
            obtain ⟨wn_17, hwn_17⟩ : ∃ x, x = st wn_10 17 0 ((wn_10 17 0) + 1) := ⟨_, rfl⟩
            rw [← hwn_17] at hP
            have E := bns_e E hwn_17
            have ft17_taped : (wn_17 16 0).toInt = (wn_10 16 0).toInt := by rw [hwn_17]; rfl
            have ft17_at : (wn_17 17 0).toInt = ((wn_10 17 0) + 1).toInt := by rw [hwn_17]; rfl
            have := q_1
            have := i_add (a := wn_10 17 0) (b := 1) (by omega) (by omega)
            have ft17_statements : (wn_17 18 0).toInt = (wn_10 18 0).toInt := by rw [hwn_17]; rfl
            have ft17_layers : (wn_17 11 0).toInt = (wn_10 11 0).toInt := by rw [hwn_17]; rfl
            have := q_1
            have := i_add (a := wn_10 17 0) (b := 1) (by omega) (by omega)
            have hI_17 : R7I wn_17 := by rw [hwn_17]; exact R7I_put_at hI_10 (by omega) (by omega)
            refine lv_aload_n hx hb dX7_readsLayer_104 rfl (lv_at hl 1 rfl) ?_
            refine lv_iload_n hx hb dX7_readsLayer_105 rfl (lv_at hl 2 rfl) ?_
            refine lv_iconst (v := 3) hx hb dX7_readsLayer_106 (by decide) ?_
            refine lv_iadd hx hb dX7_readsLayer_107 ?_
            refine lv_iconst (v := 1) hx hb dX7_readsLayer_108 (by decide) ?_
            refine lv_iconst (v := 1) hx hb dX7_readsLayer_109 (by decide) ?_
            have := q_3
            have := i_add (a := a1) (b := 3) (by omega) (by omega)
            have := q_1
            refine va_calli (va_runV (As := [.int (a1 + 3), .int 1, .int 1]) (rest := []) ⟨hx, hb, hml, hown, hts⟩ (kX7_readsNumber l D cI ad wn_17 (a1 + 3) 1 1 hd hI_17 (by omega) (by omega)) (cwV 3 hts gX7_readsLayer_X7_readsNumber rfl rfl rfl mdX7_readsNumber ⟨Nat.le_of_ble_eq_true rfl, Nat.le_of_ble_eq_true rfl⟩) (r7_pre hK hP) rfl rfl hl.1 rfl (lv_room (Nat.le_of_ble_eq_true rfl)) dX7_readsLayer_110 ⟨Nat.zero_le _, Nat.zero_le _⟩) hS (fun _ _ h => h) (fun _ h => h) (fun rn_18 wn_18 t H locs ht hvm hp_18 hB hz hk hS => ?_)
            have hP : va_P D vwCl (RM cI ad wn_18) H := ht ▸ hB
            obtain ⟨hp_18, hz_18, hI_18, hq0_18, hq1_18, hq2_18, hq3_18⟩ := hp_18
            have E := bnd_e E hp_18
            have hzi_18 := z_int hz_18
            refine lv_if_ne (tgt := 118) hx hb dX7_readsLayer_113 (by decide) (fun c_19 => ?_) (fun c_19 => ?_)
            · have E := E.trans (if_neg c_19)
              have fc_19 := i_ne c_19
              rw [q_0] at fc_19
              refine lv_aload_n hx hb dX7_readsLayer_118 rfl (lv_at hl 1 rfl) ?_
              refine g7_told hx hb hts hin hown hK hP (hts (.fieldLink RX7 52 "LoadedForTheLaneModel" "told" "[I") (by decide +kernel)) dX7_readsLayer_119 ?_
              refine lv_iload_n hx hb dX7_readsLayer_122 rfl (lv_at hl 2 rfl) ?_
              refine lv_iconst (v := 3) hx hb dX7_readsLayer_123 (by decide) ?_
              refine lv_iadd hx hb dX7_readsLayer_124 ?_
              refine lv_dup2_11 hx hb dX7_readsLayer_125 rfl rfl ?_
              have := q_3
              have := i_add (a := a1) (b := 3) (by omega) (by omega)
              have ix_20 : vp_in (a1 + 3) 192 := ix_of (by omega) (by omega)
              refine l7_told (j := (a1 + 3).toNatClampNeg) hx hb hK hP ix_20 rfl dX7_readsLayer_126 ?_
              refine lv_iload_n hx hb dX7_readsLayer_127 rfl (lv_at hl 0 rfl) ?_
              refine lv_imul hx hb dX7_readsLayer_128 ?_
              have := q_3
              have := i_add (a := a1) (b := 3) (by omega) (by omega)
              have ix_21 : vp_in (a1 + 3) 192 := ix_of (by omega) (by omega)
              refine a7_told (j := (a1 + 3).toNatClampNeg) hx hb hK hP hd hS ix_21 rfl dX7_readsLayer_129 (fun H locs hP hS => ?_)
              obtain ⟨wn_21, hwn_21⟩ : ∃ x, x = st wn_18 15 ((a1 + 3).toNatClampNeg) ((wn_18 15 ((a1 + 3).toNatClampNeg)) * (-1)) := ⟨_, rfl⟩
              rw [← hwn_21] at hP
              have E := bns_e E hwn_21
              have ft21_taped : (wn_21 16 0).toInt = (wn_18 16 0).toInt := by rw [hwn_21]; rfl
              have ft21_at : (wn_21 17 0).toInt = (wn_18 17 0).toInt := by rw [hwn_21]; rfl
              have ft21_statements : (wn_21 18 0).toInt = (wn_18 18 0).toInt := by rw [hwn_21]; rfl
              have ft21_layers : (wn_21 11 0).toInt = (wn_18 11 0).toInt := by rw [hwn_21]; rfl
              have fv_21 : (wn_21 15 ((a1 + 3).toNatClampNeg)).toInt = ((wn_18 15 ((a1 + 3).toNatClampNeg)) * (-1)).toInt := by rw [hwn_21, st_rd]
              have hI_21 : R7I wn_21 := by rw [hwn_21]; exact R7I_put_told hI_18
              refine lv_iconst (v := 1) hx hb dX7_readsLayer_130 (by decide) ?_
              have := q_1
              exact W.zret (ty := .boolean) (v := 1) hx hb hr (z_nar (Or.inr rfl)) (fun t ht hW => ⟨⟨_, wn_21, rfl, ⟨E.symm, (Or.inr rfl), hI_21, by omega, by omega, by omega, by omega⟩, by beta_reduce; rw [ht]; exact hP⟩, hS.F ht⟩) hS.2.2 dX7_readsLayer_131
            · have E := E.trans (if_pos c_19)
              have fc_19 := i_eq c_19
              rw [q_0] at fc_19
              refine lv_iconst (v := 0) hx hb dX7_readsLayer_116 (by decide) ?_
              have := q_0
              exact W.zret (ty := .boolean) (v := 0) hx hb hr (z_nar (Or.inl rfl)) (fun t ht hW => ⟨⟨_, wn_18, rfl, ⟨E.symm, (Or.inl rfl), hI_18, by omega, by omega, by omega, by omega⟩, by beta_reduce; rw [ht]; exact hP⟩, hS.F ht⟩) hS.2.2 dX7_readsLayer_117
        · have E := E.trans (if_pos c_13)
          have fc_13 := i_eq c_13
          rw [q_43] at fc_13
          refine lv_iconst (v := 1) hx hb dX7_readsLayer_69 (by decide) ?_
          refine lv_goto (tgt := 87) hx hb dX7_readsLayer_70 (by decide) ?_
          refine lv_istore_n (lv' := [(2, .int 1), (0, .ref (ad 0)), (1, .int a1)]) hx hb dX7_readsLayer_87 rfl hl (by decide) rfl (fun ls hl => ?_)
          refine lv_iload_n hx hb dX7_readsLayer_88 rfl (lv_at hl 0 rfl) ?_
          refine lv_if_ne (tgt := 94) hx hb dX7_readsLayer_89 (by decide) (fun _ => ?_) (fun z => absurd z (by decide))
          refine lv_aload_n hx hb dX7_readsLayer_94 rfl (lv_at hl 1 rfl) ?_
          refine lv_dup hx hb dX7_readsLayer_95 rfl ?_
          refine g7_at hx hb hts hin hown hK hP (hts (.fieldLink RX7 86 "LoadedForTheLaneModel" "at" "I") (by decide +kernel)) dX7_readsLayer_96 ?_
          have f_22 := R7I_at hI_10
          refine lv_iconst (v := 1) hx hb dX7_readsLayer_99 (by decide) ?_
          refine lv_iadd hx hb dX7_readsLayer_100 ?_
          refine p7_at hx hb hts hin hown hK hP hd hS (hts (.fieldLink RX7 86 "LoadedForTheLaneModel" "at" "I") (by decide +kernel)) dX7_readsLayer_101 (fun H locs hP hS => ?_)
          obtain ⟨wn_23, hwn_23⟩ : ∃ x, x = st wn_10 17 0 ((wn_10 17 0) + 1) := ⟨_, rfl⟩
          rw [← hwn_23] at hP
          have E := bns_e E hwn_23
          have ft23_taped : (wn_23 16 0).toInt = (wn_10 16 0).toInt := by rw [hwn_23]; rfl
          have ft23_at : (wn_23 17 0).toInt = ((wn_10 17 0) + 1).toInt := by rw [hwn_23]; rfl
          have := q_1
          have := i_add (a := wn_10 17 0) (b := 1) (by omega) (by omega)
          have ft23_statements : (wn_23 18 0).toInt = (wn_10 18 0).toInt := by rw [hwn_23]; rfl
          have ft23_layers : (wn_23 11 0).toInt = (wn_10 11 0).toInt := by rw [hwn_23]; rfl
          have := q_1
          have := i_add (a := wn_10 17 0) (b := 1) (by omega) (by omega)
          have hI_23 : R7I wn_23 := by rw [hwn_23]; exact R7I_put_at hI_10 (by omega) (by omega)
          refine lv_aload_n hx hb dX7_readsLayer_104 rfl (lv_at hl 1 rfl) ?_
          refine lv_iload_n hx hb dX7_readsLayer_105 rfl (lv_at hl 2 rfl) ?_
          refine lv_iconst (v := 3) hx hb dX7_readsLayer_106 (by decide) ?_
          refine lv_iadd hx hb dX7_readsLayer_107 ?_
          refine lv_iconst (v := 1) hx hb dX7_readsLayer_108 (by decide) ?_
          refine lv_iconst (v := 1) hx hb dX7_readsLayer_109 (by decide) ?_
          have := q_3
          have := i_add (a := a1) (b := 3) (by omega) (by omega)
          have := q_1
          refine va_calli (va_runV (As := [.int (a1 + 3), .int 1, .int 1]) (rest := []) ⟨hx, hb, hml, hown, hts⟩ (kX7_readsNumber l D cI ad wn_23 (a1 + 3) 1 1 hd hI_23 (by omega) (by omega)) (cwV 3 hts gX7_readsLayer_X7_readsNumber rfl rfl rfl mdX7_readsNumber ⟨Nat.le_of_ble_eq_true rfl, Nat.le_of_ble_eq_true rfl⟩) (r7_pre hK hP) rfl rfl hl.1 rfl (lv_room (Nat.le_of_ble_eq_true rfl)) dX7_readsLayer_110 ⟨Nat.zero_le _, Nat.zero_le _⟩) hS (fun _ _ h => h) (fun _ h => h) (fun rn_24 wn_24 t H locs ht hvm hp_24 hB hz hk hS => ?_)
          have hP : va_P D vwCl (RM cI ad wn_24) H := ht ▸ hB
          obtain ⟨hp_24, hz_24, hI_24, hq0_24, hq1_24, hq2_24, hq3_24⟩ := hp_24
          have E := bnd_e E hp_24
          have hzi_24 := z_int hz_24
          refine lv_if_ne (tgt := 118) hx hb dX7_readsLayer_113 (by decide) (fun c_25 => ?_) (fun c_25 => ?_)
          · have E := E.trans (if_neg c_25)
            have fc_25 := i_ne c_25
            rw [q_0] at fc_25
            refine lv_aload_n hx hb dX7_readsLayer_118 rfl (lv_at hl 1 rfl) ?_
            refine g7_told hx hb hts hin hown hK hP (hts (.fieldLink RX7 52 "LoadedForTheLaneModel" "told" "[I") (by decide +kernel)) dX7_readsLayer_119 ?_
            refine lv_iload_n hx hb dX7_readsLayer_122 rfl (lv_at hl 2 rfl) ?_
            refine lv_iconst (v := 3) hx hb dX7_readsLayer_123 (by decide) ?_
            refine lv_iadd hx hb dX7_readsLayer_124 ?_
            refine lv_dup2_11 hx hb dX7_readsLayer_125 rfl rfl ?_
            have := q_3
            have := i_add (a := a1) (b := 3) (by omega) (by omega)
            have ix_26 : vp_in (a1 + 3) 192 := ix_of (by omega) (by omega)
            refine l7_told (j := (a1 + 3).toNatClampNeg) hx hb hK hP ix_26 rfl dX7_readsLayer_126 ?_
            refine lv_iload_n hx hb dX7_readsLayer_127 rfl (lv_at hl 0 rfl) ?_
            refine lv_imul hx hb dX7_readsLayer_128 ?_
            have := q_3
            have := i_add (a := a1) (b := 3) (by omega) (by omega)
            have ix_27 : vp_in (a1 + 3) 192 := ix_of (by omega) (by omega)
            refine a7_told (j := (a1 + 3).toNatClampNeg) hx hb hK hP hd hS ix_27 rfl dX7_readsLayer_129 (fun H locs hP hS => ?_)
            obtain ⟨wn_27, hwn_27⟩ : ∃ x, x = st wn_24 15 ((a1 + 3).toNatClampNeg) ((wn_24 15 ((a1 + 3).toNatClampNeg)) * 1) := ⟨_, rfl⟩
            rw [← hwn_27] at hP
            have E := bns_e E hwn_27
            have ft27_taped : (wn_27 16 0).toInt = (wn_24 16 0).toInt := by rw [hwn_27]; rfl
            have ft27_at : (wn_27 17 0).toInt = (wn_24 17 0).toInt := by rw [hwn_27]; rfl
            have ft27_statements : (wn_27 18 0).toInt = (wn_24 18 0).toInt := by rw [hwn_27]; rfl
            have ft27_layers : (wn_27 11 0).toInt = (wn_24 11 0).toInt := by rw [hwn_27]; rfl
            have fv_27 : (wn_27 15 ((a1 + 3).toNatClampNeg)).toInt = ((wn_24 15 ((a1 + 3).toNatClampNeg)) * 1).toInt := by rw [hwn_27, st_rd]
            have hI_27 : R7I wn_27 := by rw [hwn_27]; exact R7I_put_told hI_24
            refine lv_iconst (v := 1) hx hb dX7_readsLayer_130 (by decide) ?_
            have := q_1
            exact W.zret (ty := .boolean) (v := 1) hx hb hr (z_nar (Or.inr rfl)) (fun t ht hW => ⟨⟨_, wn_27, rfl, ⟨E.symm, (Or.inr rfl), hI_27, by omega, by omega, by omega, by omega⟩, by beta_reduce; rw [ht]; exact hP⟩, hS.F ht⟩) hS.2.2 dX7_readsLayer_131
          · have E := E.trans (if_pos c_25)
            have fc_25 := i_eq c_25
            rw [q_0] at fc_25
            refine lv_iconst (v := 0) hx hb dX7_readsLayer_116 (by decide) ?_
            have := q_0
            exact W.zret (ty := .boolean) (v := 0) hx hb hr (z_nar (Or.inl rfl)) (fun t ht hW => ⟨⟨_, wn_24, rfl, ⟨E.symm, (Or.inl rfl), hI_24, by omega, by omega, by omega, by omega⟩, by beta_reduce; rw [ht]; exact hP⟩, hS.F ht⟩) hS.2.2 dX7_readsLayer_117
      · have E := E.trans (if_pos c_11)
        have fc_11 := i_eq c_11
        rw [q_0] at fc_11
        refine lv_iconst (v := 0) hx hb dX7_readsLayer_58 (by decide) ?_
        have := q_0
        exact W.zret (ty := .boolean) (v := 0) hx hb hr (z_nar (Or.inl rfl)) (fun t ht hW => ⟨⟨_, wn_10, rfl, ⟨E.symm, (Or.inl rfl), hI_10, by omega, by omega, by omega, by omega⟩, by beta_reduce; rw [ht]; exact hP⟩, hS.F ht⟩) hS.2.2 dX7_readsLayer_59
  · have E := E.trans (if_neg c_5)
    have fc_5 := i_nle c_5
    rw [q_0] at fc_5
    refine lv_iconst (v := 0) hx hb dX7_readsLayer_22 (by decide) ?_
    have := q_0
    exact W.zret (ty := .boolean) (v := 0) hx hb hr (z_nar (Or.inl rfl)) (fun t ht hW => ⟨⟨_, wn_3, rfl, ⟨E.symm, (Or.inl rfl), hI_3, by omega, by omega, by omega, by omega⟩, by beta_reduce; rw [ht]; exact hP⟩, hS.F ht⟩) hS.2.2 dX7_readsLayer_23
abbrev rmX7_readsPiece : Room := { frames := 2, cells := 0, slots := 0, locals := 47 }
set_option maxHeartbeats 4000000 in
set_option maxRecDepth 100000 in
theorem kX7_readsPiece (l : Launch) (D : va_G) (cI : ClassId) (ad : Nat → Nat) (w : Nat → Nat → Int32) (a1 : Int32) (hd : RD ad) (hI : R7I w) (h1 : 0 ≤ a1.toInt) (h2 : a1.toInt ≤ 188) : Met l yX7_readsPiece wsX7_readsPiece rmX7_readsPiece (va_Pc [Value.ref (ad 0), Value.int a1] (fun U => va_P D vwCl (RM cI ad w) U.heap ∧ va_K D vwCl [(cI, .int)] U)) (va_Qi (fun r u => (r, u) = sX7_readsPiece w a1 ∧ (r = 0 ∨ r = 1) ∧ R7I u ∧ ((w 17 0).toInt ≤ (u 17 0).toInt) ∧ ((u 16 0).toInt = (w 16 0).toInt) ∧ ((u 18 0).toInt = (w 18 0).toInt) ∧ ((u 11 0).toInt = (w 11 0).toInt)) (fun u t => va_P D vwCl (RM cI ad u) t.heap) (RA ad)) 0 0 (RA ad) := by
  refine Met.ofW (cc := cX7_readsPiece) (maxL := 2) (ret := (some .boolean)) (by decide) rfl ?_
  intro p e s m args below meth c s₁ B hml hv
  obtain ⟨rfl, hP, hK⟩ := hv
  have hx := B.exec
  have hb := B.bytes
  have hr := B.returns
  have hts := atoms_spec (ws := wsX7_readsPiece) B.pre
  have hown : s.vm.findClass RX7 = some m.cls := findClass_of_methodNamed B.named
  have hlocks := B.notSynchronized
  have hin : ∀ q ∈ wsX70, q ∈ wsX7_readsPiece := by decide +kernel
  have hl := lv_entry ([.ref (ad 0), .int a1]) (n := 2) (Nat.le_of_ble_eq_true rfl)
  rw [lg_entry_eq]
  generalize (lg_sl ([.ref (ad 0), .int a1]) ++ List.replicate (2 - (lg_sl ([.ref (ad 0), .int a1])).length) Slot.unset).toArray = ls at hl ⊢
  have hl : lv_has ls 2 [(0, .ref (ad 0)), (1, .int a1)] := hl
  suffices hgo : ∀ (H : Heap) (locs : List Loc), va_P D vwCl (RM cI ad w) H → va_S (RA ad) s.heap H locs → W p l e (headSpec wsX7_readsPiece rmX7_readsPiece).room s m [Value.ref (ad 0), Value.int a1].toArray below meth c H locs 0 0 (MQ below (va_Qi (fun r u => (r, u) = sX7_readsPiece w a1 ∧ (r = 0 ∨ r = 1) ∧ R7I u ∧ ((w 17 0).toInt ≤ (u 17 0).toInt) ∧ ((u 16 0).toInt = (w 16 0).toInt) ∧ ((u 18 0).toInt = (w 18 0).toInt) ∧ ((u 11 0).toInt = (w 11 0).toInt)) (fun u t => va_P D vwCl (RM cI ad u) t.heap) (RA ad)) [Value.ref (ad 0), Value.int a1].toArray s 0 0 (RA ad)) (F0 m 0 ls []) from hgo s.heap [] hP va_S.rf
  intro H locs hP hS
  have E := sX7_readsPiece.eq_1 w a1
  refine lv_aload_n hx hb dX7_readsPiece_0 rfl (lv_at hl 0 rfl) ?_
  refine lv_iload_n hx hb dX7_readsPiece_1 rfl (lv_at hl 1 rfl) ?_
  refine lv_iconst (v := 1) hx hb dX7_readsPiece_2 (by decide) ?_
  refine lv_iconst (v := 1) hx hb dX7_readsPiece_3 (by decide) ?_
  have := q_1
  refine va_calli (va_runV (As := [.int a1, .int 1, .int 1]) (rest := []) ⟨hx, hb, hml, hown, hts⟩ (kX7_readsNumber l D cI ad w a1 1 1 hd hI (by omega) (by omega)) (cwV 3 hts gX7_readsPiece_X7_readsNumber rfl rfl rfl mdX7_readsNumber ⟨Nat.le_of_ble_eq_true rfl, Nat.le_of_ble_eq_true rfl⟩) (r7_pre hK hP) rfl rfl hl.1 rfl (lv_room (Nat.le_of_ble_eq_true rfl)) dX7_readsPiece_4 ⟨Nat.zero_le _, Nat.zero_le _⟩) hS (fun _ _ h => h) (fun _ h => h) (fun rn_1 wn_1 t H locs ht hvm hp_1 hB hz hk hS => ?_)
  have hP : va_P D vwCl (RM cI ad wn_1) H := ht ▸ hB
  obtain ⟨hp_1, hz_1, hI_1, hq0_1, hq1_1, hq2_1, hq3_1⟩ := hp_1
  have E := bnd_e E hp_1
  have hzi_1 := z_int hz_1
  refine lv_if_ne (tgt := 12) hx hb dX7_readsPiece_7 (by decide) (fun c_2 => ?_) (fun c_2 => ?_)
  · have E := E.trans (if_neg c_2)
    have fc_2 := i_ne c_2
    rw [q_0] at fc_2
    refine lv_aload_n hx hb dX7_readsPiece_12 rfl (lv_at hl 0 rfl) ?_
    refine g7_told hx hb hts hin hown hK hP (hts (.fieldLink RX7 52 "LoadedForTheLaneModel" "told" "[I") (by decide +kernel)) dX7_readsPiece_13 ?_
    refine lv_iload_n hx hb dX7_readsPiece_16 rfl (lv_at hl 1 rfl) ?_
    refine lv_iconst (v := 1) hx hb dX7_readsPiece_17 (by decide) ?_
    refine lv_iadd hx hb dX7_readsPiece_18 ?_
    refine lv_aload_n hx hb dX7_readsPiece_19 rfl (lv_at hl 0 rfl) ?_
    refine vp_callSi (va_Run.run (va_runV (As := []) (rest := [.int (a1 + 1), .ref (ad 15)]) ⟨hx, hb, hml, hown, hts⟩ (kX7_next l D cI ad wn_1 hI_1) (cwV 0 hts gX7_readsPiece_X7_next rfl rfl rfl mdX7_next ⟨Nat.le_of_ble_eq_true rfl, Nat.le_of_ble_eq_true rfl⟩) (r7_pre hK hP) rfl rfl hl.1 rfl (lv_room (Nat.le_of_ble_eq_true rfl)) dX7_readsPiece_20 ⟨Nat.zero_le _, Nat.zero_le _⟩)) (fun r_3 hr_3 => ?_)
    subst hr_3
    have rf_3 := rX7_next wn_1
    have rt_3 := R7I_taped hI_1
    refine vp_callSi (va_Run.run (va_runS (As := [.int (sX7_next wn_1)]) (rest := [.int (a1 + 1), .ref (ad 15)]) ⟨hx, hb, hml, hown, hts⟩ (kX7_pieceOf l (sX7_next wn_1)) (va_cwS 1 hts gX7_readsPiece_X7_pieceOf rfl rfl rfl mdX7_pieceOf ⟨Nat.le_of_ble_eq_true rfl, Nat.le_of_ble_eq_true rfl⟩) s_pre rfl rfl hl.1 rfl (lv_room (Nat.le_of_ble_eq_true rfl)) dX7_readsPiece_23 ⟨Nat.zero_le _, Nat.zero_le _⟩)) (fun r_4 hr_4 => ?_)
    subst hr_4
    have rf_4 := rX7_pieceOf (sX7_next wn_1)
    have := q_1
    have := i_add (a := a1) (b := 1) (by omega) (by omega)
    have ix_5 : vp_in (a1 + 1) 192 := ix_of (by omega) (by omega)
    refine a7_told (j := (a1 + 1).toNatClampNeg) hx hb hK hP hd hS ix_5 rfl dX7_readsPiece_26 (fun H locs hP hS => ?_)
    obtain ⟨wn_5, hwn_5⟩ : ∃ x, x = st wn_1 15 ((a1 + 1).toNatClampNeg) (sX7_pieceOf (sX7_next wn_1)) := ⟨_, rfl⟩
    rw [← hwn_5] at hP
    have E := bns_e E hwn_5
    have ft5_taped : (wn_5 16 0).toInt = (wn_1 16 0).toInt := by rw [hwn_5]; rfl
    have ft5_at : (wn_5 17 0).toInt = (wn_1 17 0).toInt := by rw [hwn_5]; rfl
    have ft5_statements : (wn_5 18 0).toInt = (wn_1 18 0).toInt := by rw [hwn_5]; rfl
    have ft5_layers : (wn_5 11 0).toInt = (wn_1 11 0).toInt := by rw [hwn_5]; rfl
    have fv_5 : (wn_5 15 ((a1 + 1).toNatClampNeg)).toInt = ((sX7_pieceOf (sX7_next wn_1))).toInt := by rw [hwn_5, st_rd]
    have hI_5 : R7I wn_5 := by rw [hwn_5]; exact R7I_put_told hI_1
    refine lv_aload_n hx hb dX7_readsPiece_27 rfl (lv_at hl 0 rfl) ?_
    refine g7_told hx hb hts hin hown hK hP (hts (.fieldLink RX7 52 "LoadedForTheLaneModel" "told" "[I") (by decide +kernel)) dX7_readsPiece_28 ?_
    refine lv_iload_n hx hb dX7_readsPiece_31 rfl (lv_at hl 1 rfl) ?_
    refine lv_iconst (v := 1) hx hb dX7_readsPiece_32 (by decide) ?_
    refine lv_iadd hx hb dX7_readsPiece_33 ?_
    have := q_1
    have := i_add (a := a1) (b := 1) (by omega) (by omega)
    have ix_6 : vp_in (a1 + 1) 192 := ix_of (by omega) (by omega)
    refine l7_told (j := (a1 + 1).toNatClampNeg) hx hb hK hP ix_6 rfl dX7_readsPiece_34 ?_
    refine lv_if_ge (tgt := 40) hx hb dX7_readsPiece_35 (by decide) (fun c_7 => ?_) (fun c_7 => ?_)
    · have E := E.trans (if_pos c_7)
      have fc_7 := i_le c_7
      rw [q_0] at fc_7
      refine lv_aload_n hx hb dX7_readsPiece_40 rfl (lv_at hl 0 rfl) ?_
      refine lv_dup hx hb dX7_readsPiece_41 rfl ?_
      refine g7_at hx hb hts hin hown hK hP (hts (.fieldLink RX7 86 "LoadedForTheLaneModel" "at" "I") (by decide +kernel)) dX7_readsPiece_42 ?_
      have f_8 := R7I_at hI_5
      refine lv_iconst (v := 1) hx hb dX7_readsPiece_45 (by decide) ?_
      refine lv_iadd hx hb dX7_readsPiece_46 ?_
      refine p7_at hx hb hts hin hown hK hP hd hS (hts (.fieldLink RX7 86 "LoadedForTheLaneModel" "at" "I") (by decide +kernel)) dX7_readsPiece_47 (fun H locs hP hS => ?_)
      obtain ⟨wn_9, hwn_9⟩ : ∃ x, x = st wn_5 17 0 ((wn_5 17 0) + 1) := ⟨_, rfl⟩
      rw [← hwn_9] at hP
      have E := bns_e E hwn_9
      have ft9_taped : (wn_9 16 0).toInt = (wn_5 16 0).toInt := by rw [hwn_9]; rfl
      have ft9_at : (wn_9 17 0).toInt = ((wn_5 17 0) + 1).toInt := by rw [hwn_9]; rfl
      have := q_1
      have := i_add (a := wn_5 17 0) (b := 1) (by omega) (by omega)
      have ft9_statements : (wn_9 18 0).toInt = (wn_5 18 0).toInt := by rw [hwn_9]; rfl
      have ft9_layers : (wn_9 11 0).toInt = (wn_5 11 0).toInt := by rw [hwn_9]; rfl
      have := q_1
      have := i_add (a := wn_5 17 0) (b := 1) (by omega) (by omega)
      have hI_9 : R7I wn_9 := by rw [hwn_9]; exact R7I_put_at hI_5 (by omega) (by omega)
      refine lv_aload_n hx hb dX7_readsPiece_50 rfl (lv_at hl 0 rfl) ?_
      refine lv_iload_n hx hb dX7_readsPiece_51 rfl (lv_at hl 1 rfl) ?_
      refine lv_iconst (v := 2) hx hb dX7_readsPiece_52 (by decide) ?_
      refine lv_iadd hx hb dX7_readsPiece_53 ?_
      refine lv_iconst (v := 2) hx hb dX7_readsPiece_54 (by decide) ?_
      refine lv_iconst (v := 2) hx hb dX7_readsPiece_55 (by decide) ?_
      have := q_2
      have := i_add (a := a1) (b := 2) (by omega) (by omega)
      refine va_calli (va_runV (As := [.int (a1 + 2), .int 2, .int 2]) (rest := []) ⟨hx, hb, hml, hown, hts⟩ (kX7_readsNumber l D cI ad wn_9 (a1 + 2) 2 2 hd hI_9 (by omega) (by omega)) (cwV 3 hts gX7_readsPiece_X7_readsNumber rfl rfl rfl mdX7_readsNumber ⟨Nat.le_of_ble_eq_true rfl, Nat.le_of_ble_eq_true rfl⟩) (r7_pre hK hP) rfl rfl hl.1 rfl (lv_room (Nat.le_of_ble_eq_true rfl)) dX7_readsPiece_56 ⟨Nat.zero_le _, Nat.zero_le _⟩) hS (fun _ _ h => h) (fun _ h => h) (fun rn_10 wn_10 t H locs ht hvm hp_10 hB hz hk hS => ?_)
      have hP : va_P D vwCl (RM cI ad wn_10) H := ht ▸ hB
      obtain ⟨hp_10, hz_10, hI_10, hq0_10, hq1_10, hq2_10, hq3_10⟩ := hp_10
      have E := bnd_e E hp_10
      have hzi_10 := z_int hz_10
      refine lv_if_eq (tgt := 78) hx hb dX7_readsPiece_59 (by decide) (fun c_11 => ?_) (fun c_11 => ?_)
      · have E := E.trans (if_pos c_11)
        have fc_11 := i_eq c_11
        rw [q_0] at fc_11
        refine lv_iconst (v := 0) hx hb dX7_readsPiece_78 (by decide) ?_
        have := q_0
        exact W.zret (ty := .boolean) (v := 0) hx hb hr (z_nar (Or.inl rfl)) (fun t ht hW => ⟨⟨_, wn_10, rfl, ⟨E.symm, (Or.inl rfl), hI_10, by omega, by omega, by omega, by omega⟩, by beta_reduce; rw [ht]; exact hP⟩, hS.F ht⟩) hS.2.2 dX7_readsPiece_79
      · have E := E.trans (if_neg c_11)
        have fc_11 := i_ne c_11
        rw [q_0] at fc_11
        refine lv_aload_n hx hb dX7_readsPiece_62 rfl (lv_at hl 0 rfl) ?_
        refine lv_iload_n hx hb dX7_readsPiece_63 rfl (lv_at hl 1 rfl) ?_
        refine lv_iconst (v := 3) hx hb dX7_readsPiece_64 (by decide) ?_
        refine lv_iadd hx hb dX7_readsPiece_65 ?_
        refine lv_iconst (v := 1) hx hb dX7_readsPiece_66 (by decide) ?_
        refine lv_iconst (v := 1) hx hb dX7_readsPiece_67 (by decide) ?_
        have := q_3
        have := i_add (a := a1) (b := 3) (by omega) (by omega)
        have := q_1
        refine va_calli (va_runV (As := [.int (a1 + 3), .int 1, .int 1]) (rest := []) ⟨hx, hb, hml, hown, hts⟩ (kX7_readsNumber l D cI ad wn_10 (a1 + 3) 1 1 hd hI_10 (by omega) (by omega)) (cwV 3 hts gX7_readsPiece_X7_readsNumber rfl rfl rfl mdX7_readsNumber ⟨Nat.le_of_ble_eq_true rfl, Nat.le_of_ble_eq_true rfl⟩) (r7_pre hK hP) rfl rfl hl.1 rfl (lv_room (Nat.le_of_ble_eq_true rfl)) dX7_readsPiece_68 ⟨Nat.zero_le _, Nat.zero_le _⟩) hS (fun _ _ h => h) (fun _ h => h) (fun rn_12 wn_12 t H locs ht hvm hp_12 hB hz hk hS => ?_)
        have hP : va_P D vwCl (RM cI ad wn_12) H := ht ▸ hB
        obtain ⟨hp_12, hz_12, hI_12, hq0_12, hq1_12, hq2_12, hq3_12⟩ := hp_12
        have E := bnd_e E hp_12
        have hzi_12 := z_int hz_12
        refine lv_if_eq (tgt := 78) hx hb dX7_readsPiece_71 (by decide) (fun c_13 => ?_) (fun c_13 => ?_)
        · have E := E.trans (if_pos c_13)
          have fc_13 := i_eq c_13
          rw [q_0] at fc_13
          refine lv_iconst (v := 0) hx hb dX7_readsPiece_78 (by decide) ?_
          have := q_0
          exact W.zret (ty := .boolean) (v := 0) hx hb hr (z_nar (Or.inl rfl)) (fun t ht hW => ⟨⟨_, wn_12, rfl, ⟨E.symm, (Or.inl rfl), hI_12, by omega, by omega, by omega, by omega⟩, by beta_reduce; rw [ht]; exact hP⟩, hS.F ht⟩) hS.2.2 dX7_readsPiece_79
        · have E := E.trans (if_neg c_13)
          have fc_13 := i_ne c_13
          rw [q_0] at fc_13
          refine lv_iconst (v := 1) hx hb dX7_readsPiece_74 (by decide) ?_
          refine lv_goto (tgt := 79) hx hb dX7_readsPiece_75 (by decide) ?_
          have := q_1
          exact W.zret (ty := .boolean) (v := 1) hx hb hr (z_nar (Or.inr rfl)) (fun t ht hW => ⟨⟨_, wn_12, rfl, ⟨E.symm, (Or.inr rfl), hI_12, by omega, by omega, by omega, by omega⟩, by beta_reduce; rw [ht]; exact hP⟩, hS.F ht⟩) hS.2.2 dX7_readsPiece_79
    · have E := E.trans (if_neg c_7)
      have fc_7 := i_nle c_7
      rw [q_0] at fc_7
      refine lv_iconst (v := 0) hx hb dX7_readsPiece_38 (by decide) ?_
      have := q_0
      exact W.zret (ty := .boolean) (v := 0) hx hb hr (z_nar (Or.inl rfl)) (fun t ht hW => ⟨⟨_, wn_5, rfl, ⟨E.symm, (Or.inl rfl), hI_5, by omega, by omega, by omega, by omega⟩, by beta_reduce; rw [ht]; exact hP⟩, hS.F ht⟩) hS.2.2 dX7_readsPiece_39
  · have E := E.trans (if_pos c_2)
    have fc_2 := i_eq c_2
    rw [q_0] at fc_2
    refine lv_iconst (v := 0) hx hb dX7_readsPiece_10 (by decide) ?_
    have := q_0
    exact W.zret (ty := .boolean) (v := 0) hx hb hr (z_nar (Or.inl rfl)) (fun t ht hW => ⟨⟨_, wn_1, rfl, ⟨E.symm, (Or.inl rfl), hI_1, by omega, by omega, by omega, by omega⟩, by beta_reduce; rw [ht]; exact hP⟩, hS.F ht⟩) hS.2.2 dX7_readsPiece_11
abbrev rmX7_readsAll : Room := { frames := 3, cells := 0, slots := 0, locals := 69 }
set_option maxHeartbeats 4000000 in
set_option maxRecDepth 100000 in
theorem kX7_readsAll (l : Launch) (D : va_G) (cI : ClassId) (ad : Nat → Nat) (w : Nat → Nat → Int32) (a1 : Int32) (a2 : Int32) (hd : RD ad) (hI : R7I w) (h1 : 0 ≤ a2.toInt) (h2 : a2.toInt ≤ 188) : Met l yX7_readsAll wsX7_readsAll rmX7_readsAll (va_Pc [Value.ref (ad 0), Value.int a1, Value.int a2] (fun U => va_P D vwCl (RM cI ad w) U.heap ∧ va_K D vwCl [(cI, .int)] U)) (va_Qi (fun r u => (r, u) = sX7_readsAll w a1 a2 ∧ (r = 0 ∨ r = 1) ∧ R7I u ∧ ((w 17 0).toInt ≤ (u 17 0).toInt) ∧ ((u 16 0).toInt = (w 16 0).toInt) ∧ ((u 18 0).toInt = (w 18 0).toInt) ∧ ((u 11 0).toInt = (w 11 0).toInt)) (fun u t => va_P D vwCl (RM cI ad u) t.heap) (RA ad)) 0 0 (RA ad) := by
  refine Met.ofW (cc := cX7_readsAll) (maxL := 3) (ret := (some .boolean)) (by decide) rfl ?_
  intro p e s m args below meth c s₁ B hml hv
  obtain ⟨rfl, hP, hK⟩ := hv
  have hx := B.exec
  have hb := B.bytes
  have hr := B.returns
  have hts := atoms_spec (ws := wsX7_readsAll) B.pre
  have hown : s.vm.findClass RX7 = some m.cls := findClass_of_methodNamed B.named
  have hlocks := B.notSynchronized
  have hin : ∀ q ∈ wsX70, q ∈ wsX7_readsAll := by decide +kernel
  have hl := lv_entry ([.ref (ad 0), .int a1, .int a2]) (n := 3) (Nat.le_of_ble_eq_true rfl)
  rw [lg_entry_eq]
  generalize (lg_sl ([.ref (ad 0), .int a1, .int a2]) ++ List.replicate (3 - (lg_sl ([.ref (ad 0), .int a1, .int a2])).length) Slot.unset).toArray = ls at hl ⊢
  have hl : lv_has ls 3 [(0, .ref (ad 0)), (1, .int a1), (2, .int a2)] := hl
  suffices hgo : ∀ (H : Heap) (locs : List Loc), va_P D vwCl (RM cI ad w) H → va_S (RA ad) s.heap H locs → W p l e (headSpec wsX7_readsAll rmX7_readsAll).room s m [Value.ref (ad 0), Value.int a1, Value.int a2].toArray below meth c H locs 0 0 (MQ below (va_Qi (fun r u => (r, u) = sX7_readsAll w a1 a2 ∧ (r = 0 ∨ r = 1) ∧ R7I u ∧ ((w 17 0).toInt ≤ (u 17 0).toInt) ∧ ((u 16 0).toInt = (w 16 0).toInt) ∧ ((u 18 0).toInt = (w 18 0).toInt) ∧ ((u 11 0).toInt = (w 11 0).toInt)) (fun u t => va_P D vwCl (RM cI ad u) t.heap) (RA ad)) [Value.ref (ad 0), Value.int a1, Value.int a2].toArray s 0 0 (RA ad)) (F0 m 0 ls []) from hgo s.heap [] hP va_S.rf
  intro H locs hP hS
  have E := sX7_readsAll.eq_1 w a1 a2
  refine lv_iload_n hx hb dX7_readsAll_0 rfl (lv_at hl 1 rfl) ?_
  by_cases c_1 : a1 = 102
  · have E := E.trans (if_pos c_1)
    refine lv_lookup (off := 99) (tgt := 100) hx hb dX7_readsAll_1 (by decide) (by rw [c_1]; decide) (by decide) ?_
    have fc_1 := i_eq c_1
    rw [q_102] at fc_1
    refine lv_aload_n hx hb dX7_readsAll_100 rfl (lv_at hl 0 rfl) ?_
    refine lv_iload_n hx hb dX7_readsAll_101 rfl (lv_at hl 2 rfl) ?_
    refine lv_iconst (v := 1) hx hb dX7_readsAll_102 (by decide) ?_
    refine lv_iconst (v := 3) hx hb dX7_readsAll_103 (by decide) ?_
    have := q_1
    have := q_3
    refine va_calli (va_runV (As := [.int a2, .int 1, .int 3]) (rest := []) ⟨hx, hb, hml, hown, hts⟩ (kX7_readsNumber l D cI ad w a2 1 3 hd hI (by omega) (by omega)) (cwV 3 hts gX7_readsAll_X7_readsNumber rfl rfl rfl mdX7_readsNumber ⟨Nat.le_of_ble_eq_true rfl, Nat.le_of_ble_eq_true rfl⟩) (r7_pre hK hP) rfl rfl hl.1 rfl (lv_room (Nat.le_of_ble_eq_true rfl)) dX7_readsAll_104 ⟨Nat.zero_le _, Nat.zero_le _⟩) hS (fun _ _ h => h) (fun _ h => h) (fun rn_2 wn_2 t H locs ht hvm hp_2 hB hz hk hS => ?_)
    have hP : va_P D vwCl (RM cI ad wn_2) H := ht ▸ hB
    obtain ⟨hp_2, hz_2, hI_2, hq0_2, hq1_2, hq2_2, hq3_2⟩ := hp_2
    have E := bnd_e E hp_2
    have hzi_2 := z_int hz_2
    exact W.zret (ty := .boolean) (v := rn_2) hx hb hr (z_nar hz_2) (fun t ht hW => ⟨⟨_, wn_2, rfl, ⟨E.symm, hz_2, hI_2, by omega, by omega, by omega, by omega⟩, by beta_reduce; rw [ht]; exact hP⟩, hS.F ht⟩) hS.2.2 dX7_readsAll_107
  have E := E.trans (if_neg c_1)
  have fc_1 := i_ne c_1
  rw [q_102] at fc_1
  by_cases c_3 : a1 = 107
  · have E := E.trans (if_pos c_3)
    refine lv_lookup (off := 71) (tgt := 72) hx hb dX7_readsAll_1 (by decide) (by rw [c_3]; decide) (by decide) ?_
    have fc_3 := i_eq c_3
    rw [q_107] at fc_3
    refine lv_aload_n hx hb dX7_readsAll_72 rfl (lv_at hl 0 rfl) ?_
    refine lv_iload_n hx hb dX7_readsAll_73 rfl (lv_at hl 2 rfl) ?_
    refine lv_iconst (v := 1) hx hb dX7_readsAll_74 (by decide) ?_
    refine lv_iconst (v := 1) hx hb dX7_readsAll_75 (by decide) ?_
    have := q_1
    refine va_calli (va_runV (As := [.int a2, .int 1, .int 1]) (rest := []) ⟨hx, hb, hml, hown, hts⟩ (kX7_readsNumber l D cI ad w a2 1 1 hd hI (by omega) (by omega)) (cwV 3 hts gX7_readsAll_X7_readsNumber rfl rfl rfl mdX7_readsNumber ⟨Nat.le_of_ble_eq_true rfl, Nat.le_of_ble_eq_true rfl⟩) (r7_pre hK hP) rfl rfl hl.1 rfl (lv_room (Nat.le_of_ble_eq_true rfl)) dX7_readsAll_76 ⟨Nat.zero_le _, Nat.zero_le _⟩) hS (fun _ _ h => h) (fun _ h => h) (fun rn_4 wn_4 t H locs ht hvm hp_4 hB hz hk hS => ?_)
    have hP : va_P D vwCl (RM cI ad wn_4) H := ht ▸ hB
    obtain ⟨hp_4, hz_4, hI_4, hq0_4, hq1_4, hq2_4, hq3_4⟩ := hp_4
    have E := bnd_e E hp_4
    have hzi_4 := z_int hz_4
    refine lv_if_eq (tgt := 98) hx hb dX7_readsAll_79 (by decide) (fun c_5 => ?_) (fun c_5 => ?_)
    · have E := E.trans (if_pos c_5)
      have fc_5 := i_eq c_5
      rw [q_0] at fc_5
      refine lv_iconst (v := 0) hx hb dX7_readsAll_98 (by decide) ?_
      have := q_0
      exact W.zret (ty := .boolean) (v := 0) hx hb hr (z_nar (Or.inl rfl)) (fun t ht hW => ⟨⟨_, wn_4, rfl, ⟨E.symm, (Or.inl rfl), hI_4, by omega, by omega, by omega, by omega⟩, by beta_reduce; rw [ht]; exact hP⟩, hS.F ht⟩) hS.2.2 dX7_readsAll_99
    · have E := E.trans (if_neg c_5)
      have fc_5 := i_ne c_5
      rw [q_0] at fc_5
      refine lv_aload_n hx hb dX7_readsAll_82 rfl (lv_at hl 0 rfl) ?_
      refine lv_iload_n hx hb dX7_readsAll_83 rfl (lv_at hl 2 rfl) ?_
      refine lv_iconst (v := 1) hx hb dX7_readsAll_84 (by decide) ?_
      refine lv_iadd hx hb dX7_readsAll_85 ?_
      refine lv_iconst (v := 1) hx hb dX7_readsAll_86 (by decide) ?_
      refine lv_iconst (v := 1) hx hb dX7_readsAll_87 (by decide) ?_
      have := q_1
      have := i_add (a := a2) (b := 1) (by omega) (by omega)
      refine va_calli (va_runV (As := [.int (a2 + 1), .int 1, .int 1]) (rest := []) ⟨hx, hb, hml, hown, hts⟩ (kX7_readsNumber l D cI ad wn_4 (a2 + 1) 1 1 hd hI_4 (by omega) (by omega)) (cwV 3 hts gX7_readsAll_X7_readsNumber rfl rfl rfl mdX7_readsNumber ⟨Nat.le_of_ble_eq_true rfl, Nat.le_of_ble_eq_true rfl⟩) (r7_pre hK hP) rfl rfl hl.1 rfl (lv_room (Nat.le_of_ble_eq_true rfl)) dX7_readsAll_88 ⟨Nat.zero_le _, Nat.zero_le _⟩) hS (fun _ _ h => h) (fun _ h => h) (fun rn_6 wn_6 t H locs ht hvm hp_6 hB hz hk hS => ?_)
      have hP : va_P D vwCl (RM cI ad wn_6) H := ht ▸ hB
      obtain ⟨hp_6, hz_6, hI_6, hq0_6, hq1_6, hq2_6, hq3_6⟩ := hp_6
      have E := bnd_e E hp_6
      have hzi_6 := z_int hz_6
      refine lv_if_eq (tgt := 98) hx hb dX7_readsAll_91 (by decide) (fun c_7 => ?_) (fun c_7 => ?_)
      · have E := E.trans (if_pos c_7)
        have fc_7 := i_eq c_7
        rw [q_0] at fc_7
        refine lv_iconst (v := 0) hx hb dX7_readsAll_98 (by decide) ?_
        have := q_0
        exact W.zret (ty := .boolean) (v := 0) hx hb hr (z_nar (Or.inl rfl)) (fun t ht hW => ⟨⟨_, wn_6, rfl, ⟨E.symm, (Or.inl rfl), hI_6, by omega, by omega, by omega, by omega⟩, by beta_reduce; rw [ht]; exact hP⟩, hS.F ht⟩) hS.2.2 dX7_readsAll_99
      · have E := E.trans (if_neg c_7)
        have fc_7 := i_ne c_7
        rw [q_0] at fc_7
        refine lv_iconst (v := 1) hx hb dX7_readsAll_94 (by decide) ?_
        refine lv_goto (tgt := 99) hx hb dX7_readsAll_95 (by decide) ?_
        have := q_1
        exact W.zret (ty := .boolean) (v := 1) hx hb hr (z_nar (Or.inr rfl)) (fun t ht hW => ⟨⟨_, wn_6, rfl, ⟨E.symm, (Or.inr rfl), hI_6, by omega, by omega, by omega, by omega⟩, by beta_reduce; rw [ht]; exact hP⟩, hS.F ht⟩) hS.2.2 dX7_readsAll_99
  have E := E.trans (if_neg c_3)
  have fc_3 := i_ne c_3
  rw [q_107] at fc_3
  by_cases c_8 : a1 = 114
  · have E := E.trans (if_pos c_8)
    refine lv_lookup (off := 63) (tgt := 64) hx hb dX7_readsAll_1 (by decide) (by rw [c_8]; decide) (by decide) ?_
    have fc_8 := i_eq c_8
    rw [q_114] at fc_8
    refine lv_aload_n hx hb dX7_readsAll_64 rfl (lv_at hl 0 rfl) ?_
    refine lv_iload_n hx hb dX7_readsAll_65 rfl (lv_at hl 2 rfl) ?_
    refine lv_iconst (v := 1) hx hb dX7_readsAll_66 (by decide) ?_
    refine lv_iconst (v := 1) hx hb dX7_readsAll_67 (by decide) ?_
    have := q_1
    refine va_calli (va_runV (As := [.int a2, .int 1, .int 1]) (rest := []) ⟨hx, hb, hml, hown, hts⟩ (kX7_readsNumber l D cI ad w a2 1 1 hd hI (by omega) (by omega)) (cwV 3 hts gX7_readsAll_X7_readsNumber rfl rfl rfl mdX7_readsNumber ⟨Nat.le_of_ble_eq_true rfl, Nat.le_of_ble_eq_true rfl⟩) (r7_pre hK hP) rfl rfl hl.1 rfl (lv_room (Nat.le_of_ble_eq_true rfl)) dX7_readsAll_68 ⟨Nat.zero_le _, Nat.zero_le _⟩) hS (fun _ _ h => h) (fun _ h => h) (fun rn_9 wn_9 t H locs ht hvm hp_9 hB hz hk hS => ?_)
    have hP : va_P D vwCl (RM cI ad wn_9) H := ht ▸ hB
    obtain ⟨hp_9, hz_9, hI_9, hq0_9, hq1_9, hq2_9, hq3_9⟩ := hp_9
    have E := bnd_e E hp_9
    have hzi_9 := z_int hz_9
    exact W.zret (ty := .boolean) (v := rn_9) hx hb hr (z_nar hz_9) (fun t ht hW => ⟨⟨_, wn_9, rfl, ⟨E.symm, hz_9, hI_9, by omega, by omega, by omega, by omega⟩, by beta_reduce; rw [ht]; exact hP⟩, hS.F ht⟩) hS.2.2 dX7_readsAll_71
  have E := E.trans (if_neg c_8)
  have fc_8 := i_ne c_8
  rw [q_114] at fc_8
  by_cases c_10 : a1 = 119
  · have E := E.trans (if_pos c_10)
    refine lv_lookup (off := 57) (tgt := 58) hx hb dX7_readsAll_1 (by decide) (by rw [c_10]; decide) (by decide) ?_
    have fc_10 := i_eq c_10
    rw [q_119] at fc_10
    refine lv_aload_n hx hb dX7_readsAll_58 rfl (lv_at hl 0 rfl) ?_
    refine lv_iload_n hx hb dX7_readsAll_59 rfl (lv_at hl 2 rfl) ?_
    refine va_calli (va_runV (As := [.int a2]) (rest := []) ⟨hx, hb, hml, hown, hts⟩ (kX7_readsPiece l D cI ad w a2 hd hI (by omega) (by omega)) (cwV 1 hts gX7_readsAll_X7_readsPiece rfl rfl rfl mdX7_readsPiece ⟨Nat.le_of_ble_eq_true rfl, Nat.le_of_ble_eq_true rfl⟩) (r7_pre hK hP) rfl rfl hl.1 rfl (lv_room (Nat.le_of_ble_eq_true rfl)) dX7_readsAll_60 ⟨Nat.zero_le _, Nat.zero_le _⟩) hS (fun _ _ h => h) (fun _ h => h) (fun rn_11 wn_11 t H locs ht hvm hp_11 hB hz hk hS => ?_)
    have hP : va_P D vwCl (RM cI ad wn_11) H := ht ▸ hB
    obtain ⟨hp_11, hz_11, hI_11, hq0_11, hq1_11, hq2_11, hq3_11⟩ := hp_11
    have E := bnd_e E hp_11
    have hzi_11 := z_int hz_11
    exact W.zret (ty := .boolean) (v := rn_11) hx hb hr (z_nar hz_11) (fun t ht hW => ⟨⟨_, wn_11, rfl, ⟨E.symm, hz_11, hI_11, by omega, by omega, by omega, by omega⟩, by beta_reduce; rw [ht]; exact hP⟩, hS.F ht⟩) hS.2.2 dX7_readsAll_63
  have E := E.trans (if_neg c_10)
  have fc_10 := i_ne c_10
  rw [q_119] at fc_10
  by_cases c_12 : a1 = 121
  · have E := E.trans (if_pos c_12)
    refine lv_lookup (off := 51) (tgt := 52) hx hb dX7_readsAll_1 (by decide) (by rw [c_12]; decide) (by decide) ?_
    have fc_12 := i_eq c_12
    rw [q_121] at fc_12
    refine lv_aload_n hx hb dX7_readsAll_52 rfl (lv_at hl 0 rfl) ?_
    refine lv_iload_n hx hb dX7_readsAll_53 rfl (lv_at hl 2 rfl) ?_
    refine va_calli (va_runV (As := [.int a2]) (rest := []) ⟨hx, hb, hml, hown, hts⟩ (kX7_readsLayer l D cI ad w a2 hd hI (by omega) (by omega)) (cwV 1 hts gX7_readsAll_X7_readsLayer rfl rfl rfl mdX7_readsLayer ⟨Nat.le_of_ble_eq_true rfl, Nat.le_of_ble_eq_true rfl⟩) (r7_pre hK hP) rfl rfl hl.1 rfl (lv_room (Nat.le_of_ble_eq_true rfl)) dX7_readsAll_54 ⟨Nat.zero_le _, Nat.zero_le _⟩) hS (fun _ _ h => h) (fun _ h => h) (fun rn_13 wn_13 t H locs ht hvm hp_13 hB hz hk hS => ?_)
    have hP : va_P D vwCl (RM cI ad wn_13) H := ht ▸ hB
    obtain ⟨hp_13, hz_13, hI_13, hq0_13, hq1_13, hq2_13, hq3_13⟩ := hp_13
    have E := bnd_e E hp_13
    have hzi_13 := z_int hz_13
    exact W.zret (ty := .boolean) (v := rn_13) hx hb hr (z_nar hz_13) (fun t ht hW => ⟨⟨_, wn_13, rfl, ⟨E.symm, hz_13, hI_13, by omega, by omega, by omega, by omega⟩, by beta_reduce; rw [ht]; exact hP⟩, hS.F ht⟩) hS.2.2 dX7_readsAll_57
  have E := E.trans (if_neg c_12)
  have fc_12 := i_ne c_12
  rw [q_121] at fc_12
  refine lv_lookup (off := 107) (tgt := 108) hx hb dX7_readsAll_1 (by decide) ((lv_osw c_1 rfl).trans ((lv_osw c_3 rfl).trans ((lv_osw c_8 rfl).trans ((lv_osw c_10 rfl).trans ((lv_osw c_12 rfl).trans rfl))))) (by decide) ?_
  refine lv_iconst (v := 1) hx hb dX7_readsAll_108 (by decide) ?_
  have := q_1
  exact W.zret (ty := .boolean) (v := 1) hx hb hr (z_nar (Or.inr rfl)) (fun t ht hW => ⟨⟨_, w, rfl, ⟨E.symm, (Or.inr rfl), hI, by omega, by omega, by omega, by omega⟩, by beta_reduce; rw [ht]; exact hP⟩, hS.F ht⟩) hS.2.2 dX7_readsAll_109
abbrev rmX7_statement : Room := { frames := 4, cells := 0, slots := 0, locals := 91 }
set_option maxHeartbeats 4000000 in
set_option maxRecDepth 100000 in
theorem kX7_statement (l : Launch) (D : va_G) (cI : ClassId) (ad : Nat → Nat) (w : Nat → Nat → Int32) (hd : RD ad) (hI : R7I w) (h1 : (w 18 0).toInt < 48) : Met l yX7_statement wsX7_statement rmX7_statement (va_Pc [Value.ref (ad 0)] (fun U => va_P D vwCl (RM cI ad w) U.heap ∧ va_K D vwCl [(cI, .int)] U)) (va_Qi (fun r u => (r, u) = sX7_statement w ∧ (r = 0 ∨ r = 1) ∧ R7I u ∧ ((w 17 0).toInt ≤ (u 17 0).toInt) ∧ ((u 16 0).toInt = (w 16 0).toInt) ∧ ((u 18 0).toInt = (w 18 0).toInt) ∧ ((u 11 0).toInt = (w 11 0).toInt) ∧ (r.toInt = 0 ∨ (w 17 0).toInt + 2 ≤ (u 17 0).toInt)) (fun u t => va_P D vwCl (RM cI ad u) t.heap) (RA ad)) 0 0 (RA ad) := by
  refine Met.ofW (cc := cX7_statement) (maxL := 2) (ret := (some .boolean)) (by decide) rfl ?_
  intro p e s m args below meth c s₁ B hml hv
  obtain ⟨rfl, hP, hK⟩ := hv
  have hx := B.exec
  have hb := B.bytes
  have hr := B.returns
  have hts := atoms_spec (ws := wsX7_statement) B.pre
  have hown : s.vm.findClass RX7 = some m.cls := findClass_of_methodNamed B.named
  have hlocks := B.notSynchronized
  have hin : ∀ q ∈ wsX70, q ∈ wsX7_statement := by decide +kernel
  have hl := lv_entry ([.ref (ad 0)]) (n := 2) (Nat.le_of_ble_eq_true rfl)
  rw [lg_entry_eq]
  generalize (lg_sl ([.ref (ad 0)]) ++ List.replicate (2 - (lg_sl ([.ref (ad 0)])).length) Slot.unset).toArray = ls at hl ⊢
  have hl : lv_has ls 2 [(0, .ref (ad 0))] := hl
  suffices hgo : ∀ (H : Heap) (locs : List Loc), va_P D vwCl (RM cI ad w) H → va_S (RA ad) s.heap H locs → W p l e (headSpec wsX7_statement rmX7_statement).room s m [Value.ref (ad 0)].toArray below meth c H locs 0 0 (MQ below (va_Qi (fun r u => (r, u) = sX7_statement w ∧ (r = 0 ∨ r = 1) ∧ R7I u ∧ ((w 17 0).toInt ≤ (u 17 0).toInt) ∧ ((u 16 0).toInt = (w 16 0).toInt) ∧ ((u 18 0).toInt = (w 18 0).toInt) ∧ ((u 11 0).toInt = (w 11 0).toInt) ∧ (r.toInt = 0 ∨ (w 17 0).toInt + 2 ≤ (u 17 0).toInt)) (fun u t => va_P D vwCl (RM cI ad u) t.heap) (RA ad)) [Value.ref (ad 0)].toArray s 0 0 (RA ad)) (F0 m 0 ls []) from hgo s.heap [] hP va_S.rf
  intro H locs hP hS
  have E := sX7_statement.eq_1 w
  refine lv_aload_n hx hb dX7_statement_0 rfl (lv_at hl 0 rfl) ?_
  refine vp_callSi (va_Run.run (va_runV (As := []) (rest := []) ⟨hx, hb, hml, hown, hts⟩ (kX7_next l D cI ad w hI) (cwV 0 hts gX7_statement_X7_next rfl rfl rfl mdX7_next ⟨Nat.le_of_ble_eq_true rfl, Nat.le_of_ble_eq_true rfl⟩) (r7_pre hK hP) rfl rfl hl.1 rfl (lv_room (Nat.le_of_ble_eq_true rfl)) dX7_statement_1 ⟨Nat.zero_le _, Nat.zero_le _⟩)) (fun r_1 hr_1 => ?_)
  subst hr_1
  have rf_1 := rX7_next w
  have rt_1 := R7I_taped hI
  refine lv_istore_n (lv' := [(1, .int (sX7_next w)), (0, .ref (ad 0))]) hx hb dX7_statement_4 rfl hl (by decide) rfl (fun ls hl => ?_)
  refine lv_iload_n hx hb dX7_statement_5 rfl (lv_at hl 0 rfl) ?_
  refine lv_bipush (v := 121) hx hb dX7_statement_6 (by decide +kernel) ?_
  refine lv_icmp_eq (tgt := 43) hx hb dX7_statement_8 (by decide) (fun c_2 => ?_) (fun c_2 => ?_)
  · have E := E.trans (if_pos c_2)
    have fc_2 := i_eq c_2
    rw [q_121] at fc_2
    refine lv_aload_n hx hb dX7_statement_43 rfl (lv_at hl 1 rfl) ?_
    refine g7_letter hx hb hts hin hown hK hP (hts (.fieldLink RX7 46 "LoadedForTheLaneModel" "letter" "[I") (by decide +kernel)) dX7_statement_44 ?_
    refine lv_aload_n hx hb dX7_statement_47 rfl (lv_at hl 1 rfl) ?_
    refine g7_statements hx hb hts hin hown hK hP (hts (.fieldLink RX7 112 "LoadedForTheLaneModel" "statements" "I") (by decide +kernel)) dX7_statement_48 ?_
    have f_3 := R7I_statements hI
    refine lv_iload_n hx hb dX7_statement_51 rfl (lv_at hl 0 rfl) ?_
    have ix_4 : vp_in (w 18 0) 48 := ix_of (by omega) (by omega)
    refine a7_letter (j := (w 18 0).toNatClampNeg) hx hb hK hP hd hS ix_4 rfl dX7_statement_52 (fun H locs hP hS => ?_)
    obtain ⟨wn_4, hwn_4⟩ : ∃ x, x = st w 13 ((w 18 0).toNatClampNeg) (sX7_next w) := ⟨_, rfl⟩
    rw [← hwn_4] at hP
    have E := bns_e E hwn_4
    have ft4_taped : (wn_4 16 0).toInt = (w 16 0).toInt := by rw [hwn_4]; rfl
    have ft4_at : (wn_4 17 0).toInt = (w 17 0).toInt := by rw [hwn_4]; rfl
    have ft4_statements : (wn_4 18 0).toInt = (w 18 0).toInt := by rw [hwn_4]; rfl
    have ft4_layers : (wn_4 11 0).toInt = (w 11 0).toInt := by rw [hwn_4]; rfl
    have fv_4 : (wn_4 13 ((w 18 0).toNatClampNeg)).toInt = ((sX7_next w)).toInt := by rw [hwn_4, st_rd]
    have hI_4 : R7I wn_4 := by rw [hwn_4]; exact R7I_put_letter hI
    refine lv_aload_n hx hb dX7_statement_53 rfl (lv_at hl 1 rfl) ?_
    refine g7_letterAt hx hb hts hin hown hK hP (hts (.fieldLink RX7 49 "LoadedForTheLaneModel" "letterAt" "[I") (by decide +kernel)) dX7_statement_54 ?_
    refine lv_aload_n hx hb dX7_statement_57 rfl (lv_at hl 1 rfl) ?_
    refine g7_statements hx hb hts hin hown hK hP (hts (.fieldLink RX7 112 "LoadedForTheLaneModel" "statements" "I") (by decide +kernel)) dX7_statement_58 ?_
    have f_5 := R7I_statements hI_4
    refine lv_aload_n hx hb dX7_statement_61 rfl (lv_at hl 1 rfl) ?_
    refine g7_at hx hb hts hin hown hK hP (hts (.fieldLink RX7 86 "LoadedForTheLaneModel" "at" "I") (by decide +kernel)) dX7_statement_62 ?_
    have f_6 := R7I_at hI_4
    have ix_7 : vp_in (wn_4 18 0) 48 := ix_of (by omega) (by omega)
    refine a7_letterAt (j := (wn_4 18 0).toNatClampNeg) hx hb hK hP hd hS ix_7 rfl dX7_statement_65 (fun H locs hP hS => ?_)
    obtain ⟨wn_7, hwn_7⟩ : ∃ x, x = st wn_4 14 ((wn_4 18 0).toNatClampNeg) (wn_4 17 0) := ⟨_, rfl⟩
    rw [← hwn_7] at hP
    have E := bns_e E hwn_7
    have ft7_taped : (wn_7 16 0).toInt = (wn_4 16 0).toInt := by rw [hwn_7]; rfl
    have ft7_at : (wn_7 17 0).toInt = (wn_4 17 0).toInt := by rw [hwn_7]; rfl
    have ft7_statements : (wn_7 18 0).toInt = (wn_4 18 0).toInt := by rw [hwn_7]; rfl
    have ft7_layers : (wn_7 11 0).toInt = (wn_4 11 0).toInt := by rw [hwn_7]; rfl
    have fv_7 : (wn_7 14 ((wn_4 18 0).toNatClampNeg)).toInt = (wn_4 17 0).toInt := by rw [hwn_7, st_rd]
    have hI_7 : R7I wn_7 := by rw [hwn_7]; exact R7I_put_letterAt hI_4
    refine lv_aload_n hx hb dX7_statement_66 rfl (lv_at hl 1 rfl) ?_
    refine lv_dup hx hb dX7_statement_67 rfl ?_
    refine g7_at hx hb hts hin hown hK hP (hts (.fieldLink RX7 86 "LoadedForTheLaneModel" "at" "I") (by decide +kernel)) dX7_statement_68 ?_
    have f_8 := R7I_at hI_7
    refine lv_iconst (v := 1) hx hb dX7_statement_71 (by decide) ?_
    refine lv_iadd hx hb dX7_statement_72 ?_
    refine p7_at hx hb hts hin hown hK hP hd hS (hts (.fieldLink RX7 86 "LoadedForTheLaneModel" "at" "I") (by decide +kernel)) dX7_statement_73 (fun H locs hP hS => ?_)
    obtain ⟨wn_9, hwn_9⟩ : ∃ x, x = st wn_7 17 0 ((wn_7 17 0) + 1) := ⟨_, rfl⟩
    rw [← hwn_9] at hP
    have E := bns_e E hwn_9
    have ft9_taped : (wn_9 16 0).toInt = (wn_7 16 0).toInt := by rw [hwn_9]; rfl
    have ft9_at : (wn_9 17 0).toInt = ((wn_7 17 0) + 1).toInt := by rw [hwn_9]; rfl
    have := q_1
    have := i_add (a := wn_7 17 0) (b := 1) (by omega) (by omega)
    have ft9_statements : (wn_9 18 0).toInt = (wn_7 18 0).toInt := by rw [hwn_9]; rfl
    have ft9_layers : (wn_9 11 0).toInt = (wn_7 11 0).toInt := by rw [hwn_9]; rfl
    have := q_1
    have := i_add (a := wn_7 17 0) (b := 1) (by omega) (by omega)
    have hI_9 : R7I wn_9 := by rw [hwn_9]; exact R7I_put_at hI_7 (by omega) (by omega)
    refine lv_aload_n hx hb dX7_statement_76 rfl (lv_at hl 1 rfl) ?_
    refine lv_iload_n hx hb dX7_statement_77 rfl (lv_at hl 0 rfl) ?_
    refine lv_iconst (v := 4) hx hb dX7_statement_78 (by decide) ?_
    refine lv_aload_n hx hb dX7_statement_79 rfl (lv_at hl 1 rfl) ?_
    refine g7_statements hx hb hts hin hown hK hP (hts (.fieldLink RX7 112 "LoadedForTheLaneModel" "statements" "I") (by decide +kernel)) dX7_statement_80 ?_
    have f_10 := R7I_statements hI_9
    refine lv_imul hx hb dX7_statement_83 ?_
    have := q_4
    have := i_mull (a := 4) (b := wn_9 18 0) (n := 4) q_4 (by omega) (by omega)
    refine va_calli (va_runV (As := [.int (sX7_next w), .int (4 * (wn_9 18 0))]) (rest := []) ⟨hx, hb, hml, hown, hts⟩ (kX7_readsAll l D cI ad wn_9 (sX7_next w) (4 * (wn_9 18 0)) hd hI_9 (by omega) (by omega)) (cwV 2 hts gX7_statement_X7_readsAll rfl rfl rfl mdX7_readsAll ⟨Nat.le_of_ble_eq_true rfl, Nat.le_of_ble_eq_true rfl⟩) (r7_pre hK hP) rfl rfl hl.1 rfl (lv_room (Nat.le_of_ble_eq_true rfl)) dX7_statement_84 ⟨Nat.zero_le _, Nat.zero_le _⟩) hS (fun _ _ h => h) (fun _ h => h) (fun rn_11 wn_11 t H locs ht hvm hp_11 hB hz hk hS => ?_)
    have hP : va_P D vwCl (RM cI ad wn_11) H := ht ▸ hB
    obtain ⟨hp_11, hz_11, hI_11, hq0_11, hq1_11, hq2_11, hq3_11⟩ := hp_11
    have E := bnd_e E hp_11
    have hzi_11 := z_int hz_11
    refine lv_if_eq (tgt := 99) hx hb dX7_statement_87 (by decide) (fun c_12 => ?_) (fun c_12 => ?_)
    · have E := E.trans (if_pos c_12)
      have fc_12 := i_eq c_12
      rw [q_0] at fc_12
      refine lv_iconst (v := 0) hx hb dX7_statement_99 (by decide) ?_
      have := q_0
      exact W.zret (ty := .boolean) (v := 0) hx hb hr (z_nar (Or.inl rfl)) (fun t ht hW => ⟨⟨_, wn_11, rfl, ⟨E.symm, (Or.inl rfl), hI_11, by omega, by omega, by omega, by omega, by omega⟩, by beta_reduce; rw [ht]; exact hP⟩, hS.F ht⟩) hS.2.2 dX7_statement_100
    · have E := E.trans (if_neg c_12)
      have fc_12 := i_ne c_12
      rw [q_0] at fc_12
      refine lv_aload_n hx hb dX7_statement_90 rfl (lv_at hl 1 rfl) ?_
      refine vp_callSi (va_Run.run (va_runV (As := []) (rest := []) ⟨hx, hb, hml, hown, hts⟩ (kX7_next l D cI ad wn_11 hI_11) (cwV 0 hts gX7_statement_X7_next rfl rfl rfl mdX7_next ⟨Nat.le_of_ble_eq_true rfl, Nat.le_of_ble_eq_true rfl⟩) (r7_pre hK hP) rfl rfl hl.1 rfl (lv_room (Nat.le_of_ble_eq_true rfl)) dX7_statement_91 ⟨Nat.zero_le _, Nat.zero_le _⟩)) (fun r_13 hr_13 => ?_)
      subst hr_13
      have rf_13 := rX7_next wn_11
      have rt_13 := R7I_taped hI_11
      refine lv_bipush (v := 59) hx hb dX7_statement_94 (by decide +kernel) ?_
      refine lv_icmp_eq (tgt := 101) hx hb dX7_statement_96 (by decide) (fun c_14 => ?_) (fun c_14 => ?_)
      · have E := E.trans (if_pos c_14)
        have fc_14 := i_eq c_14
        rw [q_59] at fc_14
        refine lv_aload_n hx hb dX7_statement_101 rfl (lv_at hl 1 rfl) ?_
        refine lv_dup hx hb dX7_statement_102 rfl ?_
        refine g7_at hx hb hts hin hown hK hP (hts (.fieldLink RX7 86 "LoadedForTheLaneModel" "at" "I") (by decide +kernel)) dX7_statement_103 ?_
        have f_15 := R7I_at hI_11
        refine lv_iconst (v := 1) hx hb dX7_statement_106 (by decide) ?_
        refine lv_iadd hx hb dX7_statement_107 ?_
        refine p7_at hx hb hts hin hown hK hP hd hS (hts (.fieldLink RX7 86 "LoadedForTheLaneModel" "at" "I") (by decide +kernel)) dX7_statement_108 (fun H locs hP hS => ?_)
        obtain ⟨wn_16, hwn_16⟩ : ∃ x, x = st wn_11 17 0 ((wn_11 17 0) + 1) := ⟨_, rfl⟩
        rw [← hwn_16] at hP
        have E := bns_e E hwn_16
        have ft16_taped : (wn_16 16 0).toInt = (wn_11 16 0).toInt := by rw [hwn_16]; rfl
        have ft16_at : (wn_16 17 0).toInt = ((wn_11 17 0) + 1).toInt := by rw [hwn_16]; rfl
        have := q_1
        have := i_add (a := wn_11 17 0) (b := 1) (by omega) (by omega)
        have ft16_statements : (wn_16 18 0).toInt = (wn_11 18 0).toInt := by rw [hwn_16]; rfl
        have ft16_layers : (wn_16 11 0).toInt = (wn_11 11 0).toInt := by rw [hwn_16]; rfl
        have := q_1
        have := i_add (a := wn_11 17 0) (b := 1) (by omega) (by omega)
        have hI_16 : R7I wn_16 := by rw [hwn_16]; exact R7I_put_at hI_11 (by omega) (by omega)
        refine lv_iconst (v := 1) hx hb dX7_statement_111 (by decide) ?_
        have := q_1
        exact W.zret (ty := .boolean) (v := 1) hx hb hr (z_nar (Or.inr rfl)) (fun t ht hW => ⟨⟨_, wn_16, rfl, ⟨E.symm, (Or.inr rfl), hI_16, by omega, by omega, by omega, by omega, by omega⟩, by beta_reduce; rw [ht]; exact hP⟩, hS.F ht⟩) hS.2.2 dX7_statement_112
      · have E := E.trans (if_neg c_14)
        have fc_14 := i_ne c_14
        rw [q_59] at fc_14
        refine lv_iconst (v := 0) hx hb dX7_statement_99 (by decide) ?_
        have := q_0
        exact W.zret (ty := .boolean) (v := 0) hx hb hr (z_nar (Or.inl rfl)) (fun t ht hW => ⟨⟨_, wn_11, rfl, ⟨E.symm, (Or.inl rfl), hI_11, by omega, by omega, by omega, by omega, by omega⟩, by beta_reduce; rw [ht]; exact hP⟩, hS.F ht⟩) hS.2.2 dX7_statement_100
  · have E := E.trans (if_neg c_2)
    have fc_2 := i_ne c_2
    rw [q_121] at fc_2
    refine lv_iload_n hx hb dX7_statement_11 rfl (lv_at hl 0 rfl) ?_
    refine lv_bipush (v := 119) hx hb dX7_statement_12 (by decide +kernel) ?_
    refine lv_icmp_eq (tgt := 43) hx hb dX7_statement_14 (by decide) (fun c_17 => ?_) (fun c_17 => ?_)
    · have E := E.trans (if_pos c_17)
      have fc_17 := i_eq c_17
      rw [q_119] at fc_17
      refine lv_aload_n hx hb dX7_statement_43 rfl (lv_at hl 1 rfl) ?_
      refine g7_letter hx hb hts hin hown hK hP (hts (.fieldLink RX7 46 "LoadedForTheLaneModel" "letter" "[I") (by decide +kernel)) dX7_statement_44 ?_
      refine lv_aload_n hx hb dX7_statement_47 rfl (lv_at hl 1 rfl) ?_
      refine g7_statements hx hb hts hin hown hK hP (hts (.fieldLink RX7 112 "LoadedForTheLaneModel" "statements" "I") (by decide +kernel)) dX7_statement_48 ?_
      have f_18 := R7I_statements hI
      refine lv_iload_n hx hb dX7_statement_51 rfl (lv_at hl 0 rfl) ?_
      have ix_19 : vp_in (w 18 0) 48 := ix_of (by omega) (by omega)
      refine a7_letter (j := (w 18 0).toNatClampNeg) hx hb hK hP hd hS ix_19 rfl dX7_statement_52 (fun H locs hP hS => ?_)
      obtain ⟨wn_19, hwn_19⟩ : ∃ x, x = st w 13 ((w 18 0).toNatClampNeg) (sX7_next w) := ⟨_, rfl⟩
      rw [← hwn_19] at hP
      have E := bns_e E hwn_19
      have ft19_taped : (wn_19 16 0).toInt = (w 16 0).toInt := by rw [hwn_19]; rfl
      have ft19_at : (wn_19 17 0).toInt = (w 17 0).toInt := by rw [hwn_19]; rfl
      have ft19_statements : (wn_19 18 0).toInt = (w 18 0).toInt := by rw [hwn_19]; rfl
      have ft19_layers : (wn_19 11 0).toInt = (w 11 0).toInt := by rw [hwn_19]; rfl
      have fv_19 : (wn_19 13 ((w 18 0).toNatClampNeg)).toInt = ((sX7_next w)).toInt := by rw [hwn_19, st_rd]
      have hI_19 : R7I wn_19 := by rw [hwn_19]; exact R7I_put_letter hI
      refine lv_aload_n hx hb dX7_statement_53 rfl (lv_at hl 1 rfl) ?_
      refine g7_letterAt hx hb hts hin hown hK hP (hts (.fieldLink RX7 49 "LoadedForTheLaneModel" "letterAt" "[I") (by decide +kernel)) dX7_statement_54 ?_
      refine lv_aload_n hx hb dX7_statement_57 rfl (lv_at hl 1 rfl) ?_
      refine g7_statements hx hb hts hin hown hK hP (hts (.fieldLink RX7 112 "LoadedForTheLaneModel" "statements" "I") (by decide +kernel)) dX7_statement_58 ?_
      have f_20 := R7I_statements hI_19
      refine lv_aload_n hx hb dX7_statement_61 rfl (lv_at hl 1 rfl) ?_
      refine g7_at hx hb hts hin hown hK hP (hts (.fieldLink RX7 86 "LoadedForTheLaneModel" "at" "I") (by decide +kernel)) dX7_statement_62 ?_
      have f_21 := R7I_at hI_19
      have ix_22 : vp_in (wn_19 18 0) 48 := ix_of (by omega) (by omega)
      refine a7_letterAt (j := (wn_19 18 0).toNatClampNeg) hx hb hK hP hd hS ix_22 rfl dX7_statement_65 (fun H locs hP hS => ?_)
      obtain ⟨wn_22, hwn_22⟩ : ∃ x, x = st wn_19 14 ((wn_19 18 0).toNatClampNeg) (wn_19 17 0) := ⟨_, rfl⟩
      rw [← hwn_22] at hP
      have E := bns_e E hwn_22
      have ft22_taped : (wn_22 16 0).toInt = (wn_19 16 0).toInt := by rw [hwn_22]; rfl
      have ft22_at : (wn_22 17 0).toInt = (wn_19 17 0).toInt := by rw [hwn_22]; rfl
      have ft22_statements : (wn_22 18 0).toInt = (wn_19 18 0).toInt := by rw [hwn_22]; rfl
      have ft22_layers : (wn_22 11 0).toInt = (wn_19 11 0).toInt := by rw [hwn_22]; rfl
      have fv_22 : (wn_22 14 ((wn_19 18 0).toNatClampNeg)).toInt = (wn_19 17 0).toInt := by rw [hwn_22, st_rd]
      have hI_22 : R7I wn_22 := by rw [hwn_22]; exact R7I_put_letterAt hI_19
      refine lv_aload_n hx hb dX7_statement_66 rfl (lv_at hl 1 rfl) ?_
      refine lv_dup hx hb dX7_statement_67 rfl ?_
      refine g7_at hx hb hts hin hown hK hP (hts (.fieldLink RX7 86 "LoadedForTheLaneModel" "at" "I") (by decide +kernel)) dX7_statement_68 ?_
      have f_23 := R7I_at hI_22
      refine lv_iconst (v := 1) hx hb dX7_statement_71 (by decide) ?_
      refine lv_iadd hx hb dX7_statement_72 ?_
      refine p7_at hx hb hts hin hown hK hP hd hS (hts (.fieldLink RX7 86 "LoadedForTheLaneModel" "at" "I") (by decide +kernel)) dX7_statement_73 (fun H locs hP hS => ?_)
      obtain ⟨wn_24, hwn_24⟩ : ∃ x, x = st wn_22 17 0 ((wn_22 17 0) + 1) := ⟨_, rfl⟩
      rw [← hwn_24] at hP
      have E := bns_e E hwn_24
      have ft24_taped : (wn_24 16 0).toInt = (wn_22 16 0).toInt := by rw [hwn_24]; rfl
      have ft24_at : (wn_24 17 0).toInt = ((wn_22 17 0) + 1).toInt := by rw [hwn_24]; rfl
      have := q_1
      have := i_add (a := wn_22 17 0) (b := 1) (by omega) (by omega)
      have ft24_statements : (wn_24 18 0).toInt = (wn_22 18 0).toInt := by rw [hwn_24]; rfl
      have ft24_layers : (wn_24 11 0).toInt = (wn_22 11 0).toInt := by rw [hwn_24]; rfl
      have := q_1
      have := i_add (a := wn_22 17 0) (b := 1) (by omega) (by omega)
      have hI_24 : R7I wn_24 := by rw [hwn_24]; exact R7I_put_at hI_22 (by omega) (by omega)
      refine lv_aload_n hx hb dX7_statement_76 rfl (lv_at hl 1 rfl) ?_
      refine lv_iload_n hx hb dX7_statement_77 rfl (lv_at hl 0 rfl) ?_
      refine lv_iconst (v := 4) hx hb dX7_statement_78 (by decide) ?_
      refine lv_aload_n hx hb dX7_statement_79 rfl (lv_at hl 1 rfl) ?_
      refine g7_statements hx hb hts hin hown hK hP (hts (.fieldLink RX7 112 "LoadedForTheLaneModel" "statements" "I") (by decide +kernel)) dX7_statement_80 ?_
      have f_25 := R7I_statements hI_24
      refine lv_imul hx hb dX7_statement_83 ?_
      have := q_4
      have := i_mull (a := 4) (b := wn_24 18 0) (n := 4) q_4 (by omega) (by omega)
      refine va_calli (va_runV (As := [.int (sX7_next w), .int (4 * (wn_24 18 0))]) (rest := []) ⟨hx, hb, hml, hown, hts⟩ (kX7_readsAll l D cI ad wn_24 (sX7_next w) (4 * (wn_24 18 0)) hd hI_24 (by omega) (by omega)) (cwV 2 hts gX7_statement_X7_readsAll rfl rfl rfl mdX7_readsAll ⟨Nat.le_of_ble_eq_true rfl, Nat.le_of_ble_eq_true rfl⟩) (r7_pre hK hP) rfl rfl hl.1 rfl (lv_room (Nat.le_of_ble_eq_true rfl)) dX7_statement_84 ⟨Nat.zero_le _, Nat.zero_le _⟩) hS (fun _ _ h => h) (fun _ h => h) (fun rn_26 wn_26 t H locs ht hvm hp_26 hB hz hk hS => ?_)
      have hP : va_P D vwCl (RM cI ad wn_26) H := ht ▸ hB
      obtain ⟨hp_26, hz_26, hI_26, hq0_26, hq1_26, hq2_26, hq3_26⟩ := hp_26
      have E := bnd_e E hp_26
      have hzi_26 := z_int hz_26
      refine lv_if_eq (tgt := 99) hx hb dX7_statement_87 (by decide) (fun c_27 => ?_) (fun c_27 => ?_)
      · have E := E.trans (if_pos c_27)
        have fc_27 := i_eq c_27
        rw [q_0] at fc_27
        refine lv_iconst (v := 0) hx hb dX7_statement_99 (by decide) ?_
        have := q_0
        exact W.zret (ty := .boolean) (v := 0) hx hb hr (z_nar (Or.inl rfl)) (fun t ht hW => ⟨⟨_, wn_26, rfl, ⟨E.symm, (Or.inl rfl), hI_26, by omega, by omega, by omega, by omega, by omega⟩, by beta_reduce; rw [ht]; exact hP⟩, hS.F ht⟩) hS.2.2 dX7_statement_100
      · have E := E.trans (if_neg c_27)
        have fc_27 := i_ne c_27
        rw [q_0] at fc_27
        refine lv_aload_n hx hb dX7_statement_90 rfl (lv_at hl 1 rfl) ?_
        refine vp_callSi (va_Run.run (va_runV (As := []) (rest := []) ⟨hx, hb, hml, hown, hts⟩ (kX7_next l D cI ad wn_26 hI_26) (cwV 0 hts gX7_statement_X7_next rfl rfl rfl mdX7_next ⟨Nat.le_of_ble_eq_true rfl, Nat.le_of_ble_eq_true rfl⟩) (r7_pre hK hP) rfl rfl hl.1 rfl (lv_room (Nat.le_of_ble_eq_true rfl)) dX7_statement_91 ⟨Nat.zero_le _, Nat.zero_le _⟩)) (fun r_28 hr_28 => ?_)
        subst hr_28
        have rf_28 := rX7_next wn_26
        have rt_28 := R7I_taped hI_26
        refine lv_bipush (v := 59) hx hb dX7_statement_94 (by decide +kernel) ?_
        refine lv_icmp_eq (tgt := 101) hx hb dX7_statement_96 (by decide) (fun c_29 => ?_) (fun c_29 => ?_)
        · have E := E.trans (if_pos c_29)
          have fc_29 := i_eq c_29
          rw [q_59] at fc_29
          refine lv_aload_n hx hb dX7_statement_101 rfl (lv_at hl 1 rfl) ?_
          refine lv_dup hx hb dX7_statement_102 rfl ?_
          refine g7_at hx hb hts hin hown hK hP (hts (.fieldLink RX7 86 "LoadedForTheLaneModel" "at" "I") (by decide +kernel)) dX7_statement_103 ?_
          have f_30 := R7I_at hI_26
          refine lv_iconst (v := 1) hx hb dX7_statement_106 (by decide) ?_
          refine lv_iadd hx hb dX7_statement_107 ?_
          refine p7_at hx hb hts hin hown hK hP hd hS (hts (.fieldLink RX7 86 "LoadedForTheLaneModel" "at" "I") (by decide +kernel)) dX7_statement_108 (fun H locs hP hS => ?_)
          obtain ⟨wn_31, hwn_31⟩ : ∃ x, x = st wn_26 17 0 ((wn_26 17 0) + 1) := ⟨_, rfl⟩
          rw [← hwn_31] at hP
          have E := bns_e E hwn_31
          have ft31_taped : (wn_31 16 0).toInt = (wn_26 16 0).toInt := by rw [hwn_31]; rfl
          have ft31_at : (wn_31 17 0).toInt = ((wn_26 17 0) + 1).toInt := by rw [hwn_31]; rfl
          have := q_1
          have := i_add (a := wn_26 17 0) (b := 1) (by omega) (by omega)
          have ft31_statements : (wn_31 18 0).toInt = (wn_26 18 0).toInt := by rw [hwn_31]; rfl
          have ft31_layers : (wn_31 11 0).toInt = (wn_26 11 0).toInt := by rw [hwn_31]; rfl
          have := q_1
          have := i_add (a := wn_26 17 0) (b := 1) (by omega) (by omega)
          have hI_31 : R7I wn_31 := by rw [hwn_31]; exact R7I_put_at hI_26 (by omega) (by omega)
          refine lv_iconst (v := 1) hx hb dX7_statement_111 (by decide) ?_
          have := q_1
          exact W.zret (ty := .boolean) (v := 1) hx hb hr (z_nar (Or.inr rfl)) (fun t ht hW => ⟨⟨_, wn_31, rfl, ⟨E.symm, (Or.inr rfl), hI_31, by omega, by omega, by omega, by omega, by omega⟩, by beta_reduce; rw [ht]; exact hP⟩, hS.F ht⟩) hS.2.2 dX7_statement_112
        · have E := E.trans (if_neg c_29)
          have fc_29 := i_ne c_29
          rw [q_59] at fc_29
          refine lv_iconst (v := 0) hx hb dX7_statement_99 (by decide) ?_
          have := q_0
          exact W.zret (ty := .boolean) (v := 0) hx hb hr (z_nar (Or.inl rfl)) (fun t ht hW => ⟨⟨_, wn_26, rfl, ⟨E.symm, (Or.inl rfl), hI_26, by omega, by omega, by omega, by omega, by omega⟩, by beta_reduce; rw [ht]; exact hP⟩, hS.F ht⟩) hS.2.2 dX7_statement_100
    · have E := E.trans (if_neg c_17)
      have fc_17 := i_ne c_17
      rw [q_119] at fc_17
      refine lv_iload_n hx hb dX7_statement_17 rfl (lv_at hl 0 rfl) ?_
      refine lv_bipush (v := 114) hx hb dX7_statement_18 (by decide +kernel) ?_
      refine lv_icmp_eq (tgt := 43) hx hb dX7_statement_20 (by decide) (fun c_32 => ?_) (fun c_32 => ?_)
      · have E := E.trans (if_pos c_32)
        have fc_32 := i_eq c_32
        rw [q_114] at fc_32
        refine lv_aload_n hx hb dX7_statement_43 rfl (lv_at hl 1 rfl) ?_
        refine g7_letter hx hb hts hin hown hK hP (hts (.fieldLink RX7 46 "LoadedForTheLaneModel" "letter" "[I") (by decide +kernel)) dX7_statement_44 ?_
        refine lv_aload_n hx hb dX7_statement_47 rfl (lv_at hl 1 rfl) ?_
        refine g7_statements hx hb hts hin hown hK hP (hts (.fieldLink RX7 112 "LoadedForTheLaneModel" "statements" "I") (by decide +kernel)) dX7_statement_48 ?_
        have f_33 := R7I_statements hI
        refine lv_iload_n hx hb dX7_statement_51 rfl (lv_at hl 0 rfl) ?_
        have ix_34 : vp_in (w 18 0) 48 := ix_of (by omega) (by omega)
        refine a7_letter (j := (w 18 0).toNatClampNeg) hx hb hK hP hd hS ix_34 rfl dX7_statement_52 (fun H locs hP hS => ?_)
        obtain ⟨wn_34, hwn_34⟩ : ∃ x, x = st w 13 ((w 18 0).toNatClampNeg) (sX7_next w) := ⟨_, rfl⟩
        rw [← hwn_34] at hP
        have E := bns_e E hwn_34
        have ft34_taped : (wn_34 16 0).toInt = (w 16 0).toInt := by rw [hwn_34]; rfl
        have ft34_at : (wn_34 17 0).toInt = (w 17 0).toInt := by rw [hwn_34]; rfl
        have ft34_statements : (wn_34 18 0).toInt = (w 18 0).toInt := by rw [hwn_34]; rfl
        have ft34_layers : (wn_34 11 0).toInt = (w 11 0).toInt := by rw [hwn_34]; rfl
        have fv_34 : (wn_34 13 ((w 18 0).toNatClampNeg)).toInt = ((sX7_next w)).toInt := by rw [hwn_34, st_rd]
        have hI_34 : R7I wn_34 := by rw [hwn_34]; exact R7I_put_letter hI
        refine lv_aload_n hx hb dX7_statement_53 rfl (lv_at hl 1 rfl) ?_
        refine g7_letterAt hx hb hts hin hown hK hP (hts (.fieldLink RX7 49 "LoadedForTheLaneModel" "letterAt" "[I") (by decide +kernel)) dX7_statement_54 ?_
        refine lv_aload_n hx hb dX7_statement_57 rfl (lv_at hl 1 rfl) ?_
        refine g7_statements hx hb hts hin hown hK hP (hts (.fieldLink RX7 112 "LoadedForTheLaneModel" "statements" "I") (by decide +kernel)) dX7_statement_58 ?_
        have f_35 := R7I_statements hI_34
        refine lv_aload_n hx hb dX7_statement_61 rfl (lv_at hl 1 rfl) ?_
        refine g7_at hx hb hts hin hown hK hP (hts (.fieldLink RX7 86 "LoadedForTheLaneModel" "at" "I") (by decide +kernel)) dX7_statement_62 ?_
        have f_36 := R7I_at hI_34
        have ix_37 : vp_in (wn_34 18 0) 48 := ix_of (by omega) (by omega)
        refine a7_letterAt (j := (wn_34 18 0).toNatClampNeg) hx hb hK hP hd hS ix_37 rfl dX7_statement_65 (fun H locs hP hS => ?_)
        obtain ⟨wn_37, hwn_37⟩ : ∃ x, x = st wn_34 14 ((wn_34 18 0).toNatClampNeg) (wn_34 17 0) := ⟨_, rfl⟩
        rw [← hwn_37] at hP
        have E := bns_e E hwn_37
        have ft37_taped : (wn_37 16 0).toInt = (wn_34 16 0).toInt := by rw [hwn_37]; rfl
        have ft37_at : (wn_37 17 0).toInt = (wn_34 17 0).toInt := by rw [hwn_37]; rfl
        have ft37_statements : (wn_37 18 0).toInt = (wn_34 18 0).toInt := by rw [hwn_37]; rfl
        have ft37_layers : (wn_37 11 0).toInt = (wn_34 11 0).toInt := by rw [hwn_37]; rfl
        have fv_37 : (wn_37 14 ((wn_34 18 0).toNatClampNeg)).toInt = (wn_34 17 0).toInt := by rw [hwn_37, st_rd]
        have hI_37 : R7I wn_37 := by rw [hwn_37]; exact R7I_put_letterAt hI_34
        refine lv_aload_n hx hb dX7_statement_66 rfl (lv_at hl 1 rfl) ?_
        refine lv_dup hx hb dX7_statement_67 rfl ?_
        refine g7_at hx hb hts hin hown hK hP (hts (.fieldLink RX7 86 "LoadedForTheLaneModel" "at" "I") (by decide +kernel)) dX7_statement_68 ?_
        have f_38 := R7I_at hI_37
        refine lv_iconst (v := 1) hx hb dX7_statement_71 (by decide) ?_
        refine lv_iadd hx hb dX7_statement_72 ?_
        refine p7_at hx hb hts hin hown hK hP hd hS (hts (.fieldLink RX7 86 "LoadedForTheLaneModel" "at" "I") (by decide +kernel)) dX7_statement_73 (fun H locs hP hS => ?_)
        obtain ⟨wn_39, hwn_39⟩ : ∃ x, x = st wn_37 17 0 ((wn_37 17 0) + 1) := ⟨_, rfl⟩
        rw [← hwn_39] at hP
        have E := bns_e E hwn_39
        have ft39_taped : (wn_39 16 0).toInt = (wn_37 16 0).toInt := by rw [hwn_39]; rfl
        have ft39_at : (wn_39 17 0).toInt = ((wn_37 17 0) + 1).toInt := by rw [hwn_39]; rfl
        have := q_1
        have := i_add (a := wn_37 17 0) (b := 1) (by omega) (by omega)
        have ft39_statements : (wn_39 18 0).toInt = (wn_37 18 0).toInt := by rw [hwn_39]; rfl
        have ft39_layers : (wn_39 11 0).toInt = (wn_37 11 0).toInt := by rw [hwn_39]; rfl
        have := q_1
        have := i_add (a := wn_37 17 0) (b := 1) (by omega) (by omega)
        have hI_39 : R7I wn_39 := by rw [hwn_39]; exact R7I_put_at hI_37 (by omega) (by omega)
        refine lv_aload_n hx hb dX7_statement_76 rfl (lv_at hl 1 rfl) ?_
        refine lv_iload_n hx hb dX7_statement_77 rfl (lv_at hl 0 rfl) ?_
        refine lv_iconst (v := 4) hx hb dX7_statement_78 (by decide) ?_
        refine lv_aload_n hx hb dX7_statement_79 rfl (lv_at hl 1 rfl) ?_
        refine g7_statements hx hb hts hin hown hK hP (hts (.fieldLink RX7 112 "LoadedForTheLaneModel" "statements" "I") (by decide +kernel)) dX7_statement_80 ?_
        have f_40 := R7I_statements hI_39
        refine lv_imul hx hb dX7_statement_83 ?_
        have := q_4
        have := i_mull (a := 4) (b := wn_39 18 0) (n := 4) q_4 (by omega) (by omega)
        refine va_calli (va_runV (As := [.int (sX7_next w), .int (4 * (wn_39 18 0))]) (rest := []) ⟨hx, hb, hml, hown, hts⟩ (kX7_readsAll l D cI ad wn_39 (sX7_next w) (4 * (wn_39 18 0)) hd hI_39 (by omega) (by omega)) (cwV 2 hts gX7_statement_X7_readsAll rfl rfl rfl mdX7_readsAll ⟨Nat.le_of_ble_eq_true rfl, Nat.le_of_ble_eq_true rfl⟩) (r7_pre hK hP) rfl rfl hl.1 rfl (lv_room (Nat.le_of_ble_eq_true rfl)) dX7_statement_84 ⟨Nat.zero_le _, Nat.zero_le _⟩) hS (fun _ _ h => h) (fun _ h => h) (fun rn_41 wn_41 t H locs ht hvm hp_41 hB hz hk hS => ?_)
        have hP : va_P D vwCl (RM cI ad wn_41) H := ht ▸ hB
        obtain ⟨hp_41, hz_41, hI_41, hq0_41, hq1_41, hq2_41, hq3_41⟩ := hp_41
        have E := bnd_e E hp_41
        have hzi_41 := z_int hz_41
        refine lv_if_eq (tgt := 99) hx hb dX7_statement_87 (by decide) (fun c_42 => ?_) (fun c_42 => ?_)
        · have E := E.trans (if_pos c_42)
          have fc_42 := i_eq c_42
          rw [q_0] at fc_42
          refine lv_iconst (v := 0) hx hb dX7_statement_99 (by decide) ?_
          have := q_0
          exact W.zret (ty := .boolean) (v := 0) hx hb hr (z_nar (Or.inl rfl)) (fun t ht hW => ⟨⟨_, wn_41, rfl, ⟨E.symm, (Or.inl rfl), hI_41, by omega, by omega, by omega, by omega, by omega⟩, by beta_reduce; rw [ht]; exact hP⟩, hS.F ht⟩) hS.2.2 dX7_statement_100
        · have E := E.trans (if_neg c_42)
          have fc_42 := i_ne c_42
          rw [q_0] at fc_42
          refine lv_aload_n hx hb dX7_statement_90 rfl (lv_at hl 1 rfl) ?_
          refine vp_callSi (va_Run.run (va_runV (As := []) (rest := []) ⟨hx, hb, hml, hown, hts⟩ (kX7_next l D cI ad wn_41 hI_41) (cwV 0 hts gX7_statement_X7_next rfl rfl rfl mdX7_next ⟨Nat.le_of_ble_eq_true rfl, Nat.le_of_ble_eq_true rfl⟩) (r7_pre hK hP) rfl rfl hl.1 rfl (lv_room (Nat.le_of_ble_eq_true rfl)) dX7_statement_91 ⟨Nat.zero_le _, Nat.zero_le _⟩)) (fun r_43 hr_43 => ?_)
          subst hr_43
          have rf_43 := rX7_next wn_41
          have rt_43 := R7I_taped hI_41
          refine lv_bipush (v := 59) hx hb dX7_statement_94 (by decide +kernel) ?_
          refine lv_icmp_eq (tgt := 101) hx hb dX7_statement_96 (by decide) (fun c_44 => ?_) (fun c_44 => ?_)
          · have E := E.trans (if_pos c_44)
            have fc_44 := i_eq c_44
            rw [q_59] at fc_44
            refine lv_aload_n hx hb dX7_statement_101 rfl (lv_at hl 1 rfl) ?_
            refine lv_dup hx hb dX7_statement_102 rfl ?_
            refine g7_at hx hb hts hin hown hK hP (hts (.fieldLink RX7 86 "LoadedForTheLaneModel" "at" "I") (by decide +kernel)) dX7_statement_103 ?_
            have f_45 := R7I_at hI_41
            refine lv_iconst (v := 1) hx hb dX7_statement_106 (by decide) ?_
            refine lv_iadd hx hb dX7_statement_107 ?_
            refine p7_at hx hb hts hin hown hK hP hd hS (hts (.fieldLink RX7 86 "LoadedForTheLaneModel" "at" "I") (by decide +kernel)) dX7_statement_108 (fun H locs hP hS => ?_)
            obtain ⟨wn_46, hwn_46⟩ : ∃ x, x = st wn_41 17 0 ((wn_41 17 0) + 1) := ⟨_, rfl⟩
            rw [← hwn_46] at hP
            have E := bns_e E hwn_46
            have ft46_taped : (wn_46 16 0).toInt = (wn_41 16 0).toInt := by rw [hwn_46]; rfl
            have ft46_at : (wn_46 17 0).toInt = ((wn_41 17 0) + 1).toInt := by rw [hwn_46]; rfl
            have := q_1
            have := i_add (a := wn_41 17 0) (b := 1) (by omega) (by omega)
            have ft46_statements : (wn_46 18 0).toInt = (wn_41 18 0).toInt := by rw [hwn_46]; rfl
            have ft46_layers : (wn_46 11 0).toInt = (wn_41 11 0).toInt := by rw [hwn_46]; rfl
            have := q_1
            have := i_add (a := wn_41 17 0) (b := 1) (by omega) (by omega)
            have hI_46 : R7I wn_46 := by rw [hwn_46]; exact R7I_put_at hI_41 (by omega) (by omega)
            refine lv_iconst (v := 1) hx hb dX7_statement_111 (by decide) ?_
            have := q_1
            exact W.zret (ty := .boolean) (v := 1) hx hb hr (z_nar (Or.inr rfl)) (fun t ht hW => ⟨⟨_, wn_46, rfl, ⟨E.symm, (Or.inr rfl), hI_46, by omega, by omega, by omega, by omega, by omega⟩, by beta_reduce; rw [ht]; exact hP⟩, hS.F ht⟩) hS.2.2 dX7_statement_112
          · have E := E.trans (if_neg c_44)
            have fc_44 := i_ne c_44
            rw [q_59] at fc_44
            refine lv_iconst (v := 0) hx hb dX7_statement_99 (by decide) ?_
            have := q_0
            exact W.zret (ty := .boolean) (v := 0) hx hb hr (z_nar (Or.inl rfl)) (fun t ht hW => ⟨⟨_, wn_41, rfl, ⟨E.symm, (Or.inl rfl), hI_41, by omega, by omega, by omega, by omega, by omega⟩, by beta_reduce; rw [ht]; exact hP⟩, hS.F ht⟩) hS.2.2 dX7_statement_100
      · have E := E.trans (if_neg c_32)
        have fc_32 := i_ne c_32
        rw [q_114] at fc_32
        refine lv_iload_n hx hb dX7_statement_23 rfl (lv_at hl 0 rfl) ?_
        refine lv_bipush (v := 107) hx hb dX7_statement_24 (by decide +kernel) ?_
        refine lv_icmp_eq (tgt := 43) hx hb dX7_statement_26 (by decide) (fun c_47 => ?_) (fun c_47 => ?_)
        · have E := E.trans (if_pos c_47)
          have fc_47 := i_eq c_47
          rw [q_107] at fc_47
          refine lv_aload_n hx hb dX7_statement_43 rfl (lv_at hl 1 rfl) ?_
          refine g7_letter hx hb hts hin hown hK hP (hts (.fieldLink RX7 46 "LoadedForTheLaneModel" "letter" "[I") (by decide +kernel)) dX7_statement_44 ?_
          refine lv_aload_n hx hb dX7_statement_47 rfl (lv_at hl 1 rfl) ?_
          refine g7_statements hx hb hts hin hown hK hP (hts (.fieldLink RX7 112 "LoadedForTheLaneModel" "statements" "I") (by decide +kernel)) dX7_statement_48 ?_
          have f_48 := R7I_statements hI
          refine lv_iload_n hx hb dX7_statement_51 rfl (lv_at hl 0 rfl) ?_
          have ix_49 : vp_in (w 18 0) 48 := ix_of (by omega) (by omega)
          refine a7_letter (j := (w 18 0).toNatClampNeg) hx hb hK hP hd hS ix_49 rfl dX7_statement_52 (fun H locs hP hS => ?_)
          obtain ⟨wn_49, hwn_49⟩ : ∃ x, x = st w 13 ((w 18 0).toNatClampNeg) (sX7_next w) := ⟨_, rfl⟩
          rw [← hwn_49] at hP
          have E := bns_e E hwn_49
          have ft49_taped : (wn_49 16 0).toInt = (w 16 0).toInt := by rw [hwn_49]; rfl
          have ft49_at : (wn_49 17 0).toInt = (w 17 0).toInt := by rw [hwn_49]; rfl
          have ft49_statements : (wn_49 18 0).toInt = (w 18 0).toInt := by rw [hwn_49]; rfl
          have ft49_layers : (wn_49 11 0).toInt = (w 11 0).toInt := by rw [hwn_49]; rfl
          have fv_49 : (wn_49 13 ((w 18 0).toNatClampNeg)).toInt = ((sX7_next w)).toInt := by rw [hwn_49, st_rd]
          have hI_49 : R7I wn_49 := by rw [hwn_49]; exact R7I_put_letter hI
          refine lv_aload_n hx hb dX7_statement_53 rfl (lv_at hl 1 rfl) ?_
          refine g7_letterAt hx hb hts hin hown hK hP (hts (.fieldLink RX7 49 "LoadedForTheLaneModel" "letterAt" "[I") (by decide +kernel)) dX7_statement_54 ?_
          refine lv_aload_n hx hb dX7_statement_57 rfl (lv_at hl 1 rfl) ?_
          refine g7_statements hx hb hts hin hown hK hP (hts (.fieldLink RX7 112 "LoadedForTheLaneModel" "statements" "I") (by decide +kernel)) dX7_statement_58 ?_
          have f_50 := R7I_statements hI_49
          refine lv_aload_n hx hb dX7_statement_61 rfl (lv_at hl 1 rfl) ?_
          refine g7_at hx hb hts hin hown hK hP (hts (.fieldLink RX7 86 "LoadedForTheLaneModel" "at" "I") (by decide +kernel)) dX7_statement_62 ?_
          have f_51 := R7I_at hI_49
          have ix_52 : vp_in (wn_49 18 0) 48 := ix_of (by omega) (by omega)
          refine a7_letterAt (j := (wn_49 18 0).toNatClampNeg) hx hb hK hP hd hS ix_52 rfl dX7_statement_65 (fun H locs hP hS => ?_)
          obtain ⟨wn_52, hwn_52⟩ : ∃ x, x = st wn_49 14 ((wn_49 18 0).toNatClampNeg) (wn_49 17 0) := ⟨_, rfl⟩
          rw [← hwn_52] at hP
          have E := bns_e E hwn_52
          have ft52_taped : (wn_52 16 0).toInt = (wn_49 16 0).toInt := by rw [hwn_52]; rfl
          have ft52_at : (wn_52 17 0).toInt = (wn_49 17 0).toInt := by rw [hwn_52]; rfl
          have ft52_statements : (wn_52 18 0).toInt = (wn_49 18 0).toInt := by rw [hwn_52]; rfl
          have ft52_layers : (wn_52 11 0).toInt = (wn_49 11 0).toInt := by rw [hwn_52]; rfl
          have fv_52 : (wn_52 14 ((wn_49 18 0).toNatClampNeg)).toInt = (wn_49 17 0).toInt := by rw [hwn_52, st_rd]
          have hI_52 : R7I wn_52 := by rw [hwn_52]; exact R7I_put_letterAt hI_49
          refine lv_aload_n hx hb dX7_statement_66 rfl (lv_at hl 1 rfl) ?_
          refine lv_dup hx hb dX7_statement_67 rfl ?_
          refine g7_at hx hb hts hin hown hK hP (hts (.fieldLink RX7 86 "LoadedForTheLaneModel" "at" "I") (by decide +kernel)) dX7_statement_68 ?_
          have f_53 := R7I_at hI_52
          refine lv_iconst (v := 1) hx hb dX7_statement_71 (by decide) ?_
          refine lv_iadd hx hb dX7_statement_72 ?_
          refine p7_at hx hb hts hin hown hK hP hd hS (hts (.fieldLink RX7 86 "LoadedForTheLaneModel" "at" "I") (by decide +kernel)) dX7_statement_73 (fun H locs hP hS => ?_)
          obtain ⟨wn_54, hwn_54⟩ : ∃ x, x = st wn_52 17 0 ((wn_52 17 0) + 1) := ⟨_, rfl⟩
          rw [← hwn_54] at hP
          have E := bns_e E hwn_54
          have ft54_taped : (wn_54 16 0).toInt = (wn_52 16 0).toInt := by rw [hwn_54]; rfl
          have ft54_at : (wn_54 17 0).toInt = ((wn_52 17 0) + 1).toInt := by rw [hwn_54]; rfl
          have := q_1
          have := i_add (a := wn_52 17 0) (b := 1) (by omega) (by omega)
          have ft54_statements : (wn_54 18 0).toInt = (wn_52 18 0).toInt := by rw [hwn_54]; rfl
          have ft54_layers : (wn_54 11 0).toInt = (wn_52 11 0).toInt := by rw [hwn_54]; rfl
          have := q_1
          have := i_add (a := wn_52 17 0) (b := 1) (by omega) (by omega)
          have hI_54 : R7I wn_54 := by rw [hwn_54]; exact R7I_put_at hI_52 (by omega) (by omega)
          refine lv_aload_n hx hb dX7_statement_76 rfl (lv_at hl 1 rfl) ?_
          refine lv_iload_n hx hb dX7_statement_77 rfl (lv_at hl 0 rfl) ?_
          refine lv_iconst (v := 4) hx hb dX7_statement_78 (by decide) ?_
          refine lv_aload_n hx hb dX7_statement_79 rfl (lv_at hl 1 rfl) ?_
          refine g7_statements hx hb hts hin hown hK hP (hts (.fieldLink RX7 112 "LoadedForTheLaneModel" "statements" "I") (by decide +kernel)) dX7_statement_80 ?_
          have f_55 := R7I_statements hI_54
          refine lv_imul hx hb dX7_statement_83 ?_
          have := q_4
          have := i_mull (a := 4) (b := wn_54 18 0) (n := 4) q_4 (by omega) (by omega)
          refine va_calli (va_runV (As := [.int (sX7_next w), .int (4 * (wn_54 18 0))]) (rest := []) ⟨hx, hb, hml, hown, hts⟩ (kX7_readsAll l D cI ad wn_54 (sX7_next w) (4 * (wn_54 18 0)) hd hI_54 (by omega) (by omega)) (cwV 2 hts gX7_statement_X7_readsAll rfl rfl rfl mdX7_readsAll ⟨Nat.le_of_ble_eq_true rfl, Nat.le_of_ble_eq_true rfl⟩) (r7_pre hK hP) rfl rfl hl.1 rfl (lv_room (Nat.le_of_ble_eq_true rfl)) dX7_statement_84 ⟨Nat.zero_le _, Nat.zero_le _⟩) hS (fun _ _ h => h) (fun _ h => h) (fun rn_56 wn_56 t H locs ht hvm hp_56 hB hz hk hS => ?_)
          have hP : va_P D vwCl (RM cI ad wn_56) H := ht ▸ hB
          obtain ⟨hp_56, hz_56, hI_56, hq0_56, hq1_56, hq2_56, hq3_56⟩ := hp_56
          have E := bnd_e E hp_56
          have hzi_56 := z_int hz_56
          refine lv_if_eq (tgt := 99) hx hb dX7_statement_87 (by decide) (fun c_57 => ?_) (fun c_57 => ?_)
          · have E := E.trans (if_pos c_57)
            have fc_57 := i_eq c_57
            rw [q_0] at fc_57
            refine lv_iconst (v := 0) hx hb dX7_statement_99 (by decide) ?_
            have := q_0
            exact W.zret (ty := .boolean) (v := 0) hx hb hr (z_nar (Or.inl rfl)) (fun t ht hW => ⟨⟨_, wn_56, rfl, ⟨E.symm, (Or.inl rfl), hI_56, by omega, by omega, by omega, by omega, by omega⟩, by beta_reduce; rw [ht]; exact hP⟩, hS.F ht⟩) hS.2.2 dX7_statement_100
          · have E := E.trans (if_neg c_57)
            have fc_57 := i_ne c_57
            rw [q_0] at fc_57
            refine lv_aload_n hx hb dX7_statement_90 rfl (lv_at hl 1 rfl) ?_
            refine vp_callSi (va_Run.run (va_runV (As := []) (rest := []) ⟨hx, hb, hml, hown, hts⟩ (kX7_next l D cI ad wn_56 hI_56) (cwV 0 hts gX7_statement_X7_next rfl rfl rfl mdX7_next ⟨Nat.le_of_ble_eq_true rfl, Nat.le_of_ble_eq_true rfl⟩) (r7_pre hK hP) rfl rfl hl.1 rfl (lv_room (Nat.le_of_ble_eq_true rfl)) dX7_statement_91 ⟨Nat.zero_le _, Nat.zero_le _⟩)) (fun r_58 hr_58 => ?_)
            subst hr_58
            have rf_58 := rX7_next wn_56
            have rt_58 := R7I_taped hI_56
            refine lv_bipush (v := 59) hx hb dX7_statement_94 (by decide +kernel) ?_
            refine lv_icmp_eq (tgt := 101) hx hb dX7_statement_96 (by decide) (fun c_59 => ?_) (fun c_59 => ?_)
            · have E := E.trans (if_pos c_59)
              have fc_59 := i_eq c_59
              rw [q_59] at fc_59
              refine lv_aload_n hx hb dX7_statement_101 rfl (lv_at hl 1 rfl) ?_
              refine lv_dup hx hb dX7_statement_102 rfl ?_
              refine g7_at hx hb hts hin hown hK hP (hts (.fieldLink RX7 86 "LoadedForTheLaneModel" "at" "I") (by decide +kernel)) dX7_statement_103 ?_
              have f_60 := R7I_at hI_56
              refine lv_iconst (v := 1) hx hb dX7_statement_106 (by decide) ?_
              refine lv_iadd hx hb dX7_statement_107 ?_
              refine p7_at hx hb hts hin hown hK hP hd hS (hts (.fieldLink RX7 86 "LoadedForTheLaneModel" "at" "I") (by decide +kernel)) dX7_statement_108 (fun H locs hP hS => ?_)
              obtain ⟨wn_61, hwn_61⟩ : ∃ x, x = st wn_56 17 0 ((wn_56 17 0) + 1) := ⟨_, rfl⟩
              rw [← hwn_61] at hP
              have E := bns_e E hwn_61
              have ft61_taped : (wn_61 16 0).toInt = (wn_56 16 0).toInt := by rw [hwn_61]; rfl
              have ft61_at : (wn_61 17 0).toInt = ((wn_56 17 0) + 1).toInt := by rw [hwn_61]; rfl
              have := q_1
              have := i_add (a := wn_56 17 0) (b := 1) (by omega) (by omega)
              have ft61_statements : (wn_61 18 0).toInt = (wn_56 18 0).toInt := by rw [hwn_61]; rfl
              have ft61_layers : (wn_61 11 0).toInt = (wn_56 11 0).toInt := by rw [hwn_61]; rfl
              have := q_1
              have := i_add (a := wn_56 17 0) (b := 1) (by omega) (by omega)
              have hI_61 : R7I wn_61 := by rw [hwn_61]; exact R7I_put_at hI_56 (by omega) (by omega)
              refine lv_iconst (v := 1) hx hb dX7_statement_111 (by decide) ?_
              have := q_1
              exact W.zret (ty := .boolean) (v := 1) hx hb hr (z_nar (Or.inr rfl)) (fun t ht hW => ⟨⟨_, wn_61, rfl, ⟨E.symm, (Or.inr rfl), hI_61, by omega, by omega, by omega, by omega, by omega⟩, by beta_reduce; rw [ht]; exact hP⟩, hS.F ht⟩) hS.2.2 dX7_statement_112
            · have E := E.trans (if_neg c_59)
              have fc_59 := i_ne c_59
              rw [q_59] at fc_59
              refine lv_iconst (v := 0) hx hb dX7_statement_99 (by decide) ?_
              have := q_0
              exact W.zret (ty := .boolean) (v := 0) hx hb hr (z_nar (Or.inl rfl)) (fun t ht hW => ⟨⟨_, wn_56, rfl, ⟨E.symm, (Or.inl rfl), hI_56, by omega, by omega, by omega, by omega, by omega⟩, by beta_reduce; rw [ht]; exact hP⟩, hS.F ht⟩) hS.2.2 dX7_statement_100
        · have E := E.trans (if_neg c_47)
          have fc_47 := i_ne c_47
          rw [q_107] at fc_47
          refine lv_iload_n hx hb dX7_statement_29 rfl (lv_at hl 0 rfl) ?_
          refine lv_bipush (v := 102) hx hb dX7_statement_30 (by decide +kernel) ?_
          refine lv_icmp_eq (tgt := 43) hx hb dX7_statement_32 (by decide) (fun c_62 => ?_) (fun c_62 => ?_)
          · have E := E.trans (if_pos c_62)
            have fc_62 := i_eq c_62
            rw [q_102] at fc_62
            refine lv_aload_n hx hb dX7_statement_43 rfl (lv_at hl 1 rfl) ?_
            refine g7_letter hx hb hts hin hown hK hP (hts (.fieldLink RX7 46 "LoadedForTheLaneModel" "letter" "[I") (by decide +kernel)) dX7_statement_44 ?_
            refine lv_aload_n hx hb dX7_statement_47 rfl (lv_at hl 1 rfl) ?_
            refine g7_statements hx hb hts hin hown hK hP (hts (.fieldLink RX7 112 "LoadedForTheLaneModel" "statements" "I") (by decide +kernel)) dX7_statement_48 ?_
            have f_63 := R7I_statements hI
            refine lv_iload_n hx hb dX7_statement_51 rfl (lv_at hl 0 rfl) ?_
            have ix_64 : vp_in (w 18 0) 48 := ix_of (by omega) (by omega)
            refine a7_letter (j := (w 18 0).toNatClampNeg) hx hb hK hP hd hS ix_64 rfl dX7_statement_52 (fun H locs hP hS => ?_)
            obtain ⟨wn_64, hwn_64⟩ : ∃ x, x = st w 13 ((w 18 0).toNatClampNeg) (sX7_next w) := ⟨_, rfl⟩
            rw [← hwn_64] at hP
            have E := bns_e E hwn_64
            have ft64_taped : (wn_64 16 0).toInt = (w 16 0).toInt := by rw [hwn_64]; rfl
            have ft64_at : (wn_64 17 0).toInt = (w 17 0).toInt := by rw [hwn_64]; rfl
            have ft64_statements : (wn_64 18 0).toInt = (w 18 0).toInt := by rw [hwn_64]; rfl
            have ft64_layers : (wn_64 11 0).toInt = (w 11 0).toInt := by rw [hwn_64]; rfl
            have fv_64 : (wn_64 13 ((w 18 0).toNatClampNeg)).toInt = ((sX7_next w)).toInt := by rw [hwn_64, st_rd]
            have hI_64 : R7I wn_64 := by rw [hwn_64]; exact R7I_put_letter hI
            refine lv_aload_n hx hb dX7_statement_53 rfl (lv_at hl 1 rfl) ?_
            refine g7_letterAt hx hb hts hin hown hK hP (hts (.fieldLink RX7 49 "LoadedForTheLaneModel" "letterAt" "[I") (by decide +kernel)) dX7_statement_54 ?_
            refine lv_aload_n hx hb dX7_statement_57 rfl (lv_at hl 1 rfl) ?_
            refine g7_statements hx hb hts hin hown hK hP (hts (.fieldLink RX7 112 "LoadedForTheLaneModel" "statements" "I") (by decide +kernel)) dX7_statement_58 ?_
            have f_65 := R7I_statements hI_64
            refine lv_aload_n hx hb dX7_statement_61 rfl (lv_at hl 1 rfl) ?_
            refine g7_at hx hb hts hin hown hK hP (hts (.fieldLink RX7 86 "LoadedForTheLaneModel" "at" "I") (by decide +kernel)) dX7_statement_62 ?_
            have f_66 := R7I_at hI_64
            have ix_67 : vp_in (wn_64 18 0) 48 := ix_of (by omega) (by omega)
            refine a7_letterAt (j := (wn_64 18 0).toNatClampNeg) hx hb hK hP hd hS ix_67 rfl dX7_statement_65 (fun H locs hP hS => ?_)
            obtain ⟨wn_67, hwn_67⟩ : ∃ x, x = st wn_64 14 ((wn_64 18 0).toNatClampNeg) (wn_64 17 0) := ⟨_, rfl⟩
            rw [← hwn_67] at hP
            have E := bns_e E hwn_67
            have ft67_taped : (wn_67 16 0).toInt = (wn_64 16 0).toInt := by rw [hwn_67]; rfl
            have ft67_at : (wn_67 17 0).toInt = (wn_64 17 0).toInt := by rw [hwn_67]; rfl
            have ft67_statements : (wn_67 18 0).toInt = (wn_64 18 0).toInt := by rw [hwn_67]; rfl
            have ft67_layers : (wn_67 11 0).toInt = (wn_64 11 0).toInt := by rw [hwn_67]; rfl
            have fv_67 : (wn_67 14 ((wn_64 18 0).toNatClampNeg)).toInt = (wn_64 17 0).toInt := by rw [hwn_67, st_rd]
            have hI_67 : R7I wn_67 := by rw [hwn_67]; exact R7I_put_letterAt hI_64
            refine lv_aload_n hx hb dX7_statement_66 rfl (lv_at hl 1 rfl) ?_
            refine lv_dup hx hb dX7_statement_67 rfl ?_
            refine g7_at hx hb hts hin hown hK hP (hts (.fieldLink RX7 86 "LoadedForTheLaneModel" "at" "I") (by decide +kernel)) dX7_statement_68 ?_
            have f_68 := R7I_at hI_67
            refine lv_iconst (v := 1) hx hb dX7_statement_71 (by decide) ?_
            refine lv_iadd hx hb dX7_statement_72 ?_
            refine p7_at hx hb hts hin hown hK hP hd hS (hts (.fieldLink RX7 86 "LoadedForTheLaneModel" "at" "I") (by decide +kernel)) dX7_statement_73 (fun H locs hP hS => ?_)
            obtain ⟨wn_69, hwn_69⟩ : ∃ x, x = st wn_67 17 0 ((wn_67 17 0) + 1) := ⟨_, rfl⟩
            rw [← hwn_69] at hP
            have E := bns_e E hwn_69
            have ft69_taped : (wn_69 16 0).toInt = (wn_67 16 0).toInt := by rw [hwn_69]; rfl
            have ft69_at : (wn_69 17 0).toInt = ((wn_67 17 0) + 1).toInt := by rw [hwn_69]; rfl
            have := q_1
            have := i_add (a := wn_67 17 0) (b := 1) (by omega) (by omega)
            have ft69_statements : (wn_69 18 0).toInt = (wn_67 18 0).toInt := by rw [hwn_69]; rfl
            have ft69_layers : (wn_69 11 0).toInt = (wn_67 11 0).toInt := by rw [hwn_69]; rfl
            have := q_1
            have := i_add (a := wn_67 17 0) (b := 1) (by omega) (by omega)
            have hI_69 : R7I wn_69 := by rw [hwn_69]; exact R7I_put_at hI_67 (by omega) (by omega)
            refine lv_aload_n hx hb dX7_statement_76 rfl (lv_at hl 1 rfl) ?_
            refine lv_iload_n hx hb dX7_statement_77 rfl (lv_at hl 0 rfl) ?_
            refine lv_iconst (v := 4) hx hb dX7_statement_78 (by decide) ?_
            refine lv_aload_n hx hb dX7_statement_79 rfl (lv_at hl 1 rfl) ?_
            refine g7_statements hx hb hts hin hown hK hP (hts (.fieldLink RX7 112 "LoadedForTheLaneModel" "statements" "I") (by decide +kernel)) dX7_statement_80 ?_
            have f_70 := R7I_statements hI_69
            refine lv_imul hx hb dX7_statement_83 ?_
            have := q_4
            have := i_mull (a := 4) (b := wn_69 18 0) (n := 4) q_4 (by omega) (by omega)
            refine va_calli (va_runV (As := [.int (sX7_next w), .int (4 * (wn_69 18 0))]) (rest := []) ⟨hx, hb, hml, hown, hts⟩ (kX7_readsAll l D cI ad wn_69 (sX7_next w) (4 * (wn_69 18 0)) hd hI_69 (by omega) (by omega)) (cwV 2 hts gX7_statement_X7_readsAll rfl rfl rfl mdX7_readsAll ⟨Nat.le_of_ble_eq_true rfl, Nat.le_of_ble_eq_true rfl⟩) (r7_pre hK hP) rfl rfl hl.1 rfl (lv_room (Nat.le_of_ble_eq_true rfl)) dX7_statement_84 ⟨Nat.zero_le _, Nat.zero_le _⟩) hS (fun _ _ h => h) (fun _ h => h) (fun rn_71 wn_71 t H locs ht hvm hp_71 hB hz hk hS => ?_)
            have hP : va_P D vwCl (RM cI ad wn_71) H := ht ▸ hB
            obtain ⟨hp_71, hz_71, hI_71, hq0_71, hq1_71, hq2_71, hq3_71⟩ := hp_71
            have E := bnd_e E hp_71
            have hzi_71 := z_int hz_71
            refine lv_if_eq (tgt := 99) hx hb dX7_statement_87 (by decide) (fun c_72 => ?_) (fun c_72 => ?_)
            · have E := E.trans (if_pos c_72)
              have fc_72 := i_eq c_72
              rw [q_0] at fc_72
              refine lv_iconst (v := 0) hx hb dX7_statement_99 (by decide) ?_
              have := q_0
              exact W.zret (ty := .boolean) (v := 0) hx hb hr (z_nar (Or.inl rfl)) (fun t ht hW => ⟨⟨_, wn_71, rfl, ⟨E.symm, (Or.inl rfl), hI_71, by omega, by omega, by omega, by omega, by omega⟩, by beta_reduce; rw [ht]; exact hP⟩, hS.F ht⟩) hS.2.2 dX7_statement_100
            · have E := E.trans (if_neg c_72)
              have fc_72 := i_ne c_72
              rw [q_0] at fc_72
              refine lv_aload_n hx hb dX7_statement_90 rfl (lv_at hl 1 rfl) ?_
              refine vp_callSi (va_Run.run (va_runV (As := []) (rest := []) ⟨hx, hb, hml, hown, hts⟩ (kX7_next l D cI ad wn_71 hI_71) (cwV 0 hts gX7_statement_X7_next rfl rfl rfl mdX7_next ⟨Nat.le_of_ble_eq_true rfl, Nat.le_of_ble_eq_true rfl⟩) (r7_pre hK hP) rfl rfl hl.1 rfl (lv_room (Nat.le_of_ble_eq_true rfl)) dX7_statement_91 ⟨Nat.zero_le _, Nat.zero_le _⟩)) (fun r_73 hr_73 => ?_)
              subst hr_73
              have rf_73 := rX7_next wn_71
              have rt_73 := R7I_taped hI_71
              refine lv_bipush (v := 59) hx hb dX7_statement_94 (by decide +kernel) ?_
              refine lv_icmp_eq (tgt := 101) hx hb dX7_statement_96 (by decide) (fun c_74 => ?_) (fun c_74 => ?_)
              · have E := E.trans (if_pos c_74)
                have fc_74 := i_eq c_74
                rw [q_59] at fc_74
                refine lv_aload_n hx hb dX7_statement_101 rfl (lv_at hl 1 rfl) ?_
                refine lv_dup hx hb dX7_statement_102 rfl ?_
                refine g7_at hx hb hts hin hown hK hP (hts (.fieldLink RX7 86 "LoadedForTheLaneModel" "at" "I") (by decide +kernel)) dX7_statement_103 ?_
                have f_75 := R7I_at hI_71
                refine lv_iconst (v := 1) hx hb dX7_statement_106 (by decide) ?_
                refine lv_iadd hx hb dX7_statement_107 ?_
                refine p7_at hx hb hts hin hown hK hP hd hS (hts (.fieldLink RX7 86 "LoadedForTheLaneModel" "at" "I") (by decide +kernel)) dX7_statement_108 (fun H locs hP hS => ?_)
                obtain ⟨wn_76, hwn_76⟩ : ∃ x, x = st wn_71 17 0 ((wn_71 17 0) + 1) := ⟨_, rfl⟩
                rw [← hwn_76] at hP
                have E := bns_e E hwn_76
                have ft76_taped : (wn_76 16 0).toInt = (wn_71 16 0).toInt := by rw [hwn_76]; rfl
                have ft76_at : (wn_76 17 0).toInt = ((wn_71 17 0) + 1).toInt := by rw [hwn_76]; rfl
                have := q_1
                have := i_add (a := wn_71 17 0) (b := 1) (by omega) (by omega)
                have ft76_statements : (wn_76 18 0).toInt = (wn_71 18 0).toInt := by rw [hwn_76]; rfl
                have ft76_layers : (wn_76 11 0).toInt = (wn_71 11 0).toInt := by rw [hwn_76]; rfl
                have := q_1
                have := i_add (a := wn_71 17 0) (b := 1) (by omega) (by omega)
                have hI_76 : R7I wn_76 := by rw [hwn_76]; exact R7I_put_at hI_71 (by omega) (by omega)
                refine lv_iconst (v := 1) hx hb dX7_statement_111 (by decide) ?_
                have := q_1
                exact W.zret (ty := .boolean) (v := 1) hx hb hr (z_nar (Or.inr rfl)) (fun t ht hW => ⟨⟨_, wn_76, rfl, ⟨E.symm, (Or.inr rfl), hI_76, by omega, by omega, by omega, by omega, by omega⟩, by beta_reduce; rw [ht]; exact hP⟩, hS.F ht⟩) hS.2.2 dX7_statement_112
              · have E := E.trans (if_neg c_74)
                have fc_74 := i_ne c_74
                rw [q_59] at fc_74
                refine lv_iconst (v := 0) hx hb dX7_statement_99 (by decide) ?_
                have := q_0
                exact W.zret (ty := .boolean) (v := 0) hx hb hr (z_nar (Or.inl rfl)) (fun t ht hW => ⟨⟨_, wn_71, rfl, ⟨E.symm, (Or.inl rfl), hI_71, by omega, by omega, by omega, by omega, by omega⟩, by beta_reduce; rw [ht]; exact hP⟩, hS.F ht⟩) hS.2.2 dX7_statement_100
          · have E := E.trans (if_neg c_62)
            have fc_62 := i_ne c_62
            rw [q_102] at fc_62
            refine lv_iload_n hx hb dX7_statement_35 rfl (lv_at hl 0 rfl) ?_
            refine lv_bipush (v := 117) hx hb dX7_statement_36 (by decide +kernel) ?_
            refine lv_icmp_eq (tgt := 43) hx hb dX7_statement_38 (by decide) (fun c_77 => ?_) (fun c_77 => ?_)
            · have E := E.trans (if_pos c_77)
              have fc_77 := i_eq c_77
              rw [q_117] at fc_77
              refine lv_aload_n hx hb dX7_statement_43 rfl (lv_at hl 1 rfl) ?_
              refine g7_letter hx hb hts hin hown hK hP (hts (.fieldLink RX7 46 "LoadedForTheLaneModel" "letter" "[I") (by decide +kernel)) dX7_statement_44 ?_
              refine lv_aload_n hx hb dX7_statement_47 rfl (lv_at hl 1 rfl) ?_
              refine g7_statements hx hb hts hin hown hK hP (hts (.fieldLink RX7 112 "LoadedForTheLaneModel" "statements" "I") (by decide +kernel)) dX7_statement_48 ?_
              have f_78 := R7I_statements hI
              refine lv_iload_n hx hb dX7_statement_51 rfl (lv_at hl 0 rfl) ?_
              have ix_79 : vp_in (w 18 0) 48 := ix_of (by omega) (by omega)
              refine a7_letter (j := (w 18 0).toNatClampNeg) hx hb hK hP hd hS ix_79 rfl dX7_statement_52 (fun H locs hP hS => ?_)
              obtain ⟨wn_79, hwn_79⟩ : ∃ x, x = st w 13 ((w 18 0).toNatClampNeg) (sX7_next w) := ⟨_, rfl⟩
              rw [← hwn_79] at hP
              have E := bns_e E hwn_79
              have ft79_taped : (wn_79 16 0).toInt = (w 16 0).toInt := by rw [hwn_79]; rfl
              have ft79_at : (wn_79 17 0).toInt = (w 17 0).toInt := by rw [hwn_79]; rfl
              have ft79_statements : (wn_79 18 0).toInt = (w 18 0).toInt := by rw [hwn_79]; rfl
              have ft79_layers : (wn_79 11 0).toInt = (w 11 0).toInt := by rw [hwn_79]; rfl
              have fv_79 : (wn_79 13 ((w 18 0).toNatClampNeg)).toInt = ((sX7_next w)).toInt := by rw [hwn_79, st_rd]
              have hI_79 : R7I wn_79 := by rw [hwn_79]; exact R7I_put_letter hI
              refine lv_aload_n hx hb dX7_statement_53 rfl (lv_at hl 1 rfl) ?_
              refine g7_letterAt hx hb hts hin hown hK hP (hts (.fieldLink RX7 49 "LoadedForTheLaneModel" "letterAt" "[I") (by decide +kernel)) dX7_statement_54 ?_
              refine lv_aload_n hx hb dX7_statement_57 rfl (lv_at hl 1 rfl) ?_
              refine g7_statements hx hb hts hin hown hK hP (hts (.fieldLink RX7 112 "LoadedForTheLaneModel" "statements" "I") (by decide +kernel)) dX7_statement_58 ?_
              have f_80 := R7I_statements hI_79
              refine lv_aload_n hx hb dX7_statement_61 rfl (lv_at hl 1 rfl) ?_
              refine g7_at hx hb hts hin hown hK hP (hts (.fieldLink RX7 86 "LoadedForTheLaneModel" "at" "I") (by decide +kernel)) dX7_statement_62 ?_
              have f_81 := R7I_at hI_79
              have ix_82 : vp_in (wn_79 18 0) 48 := ix_of (by omega) (by omega)
              refine a7_letterAt (j := (wn_79 18 0).toNatClampNeg) hx hb hK hP hd hS ix_82 rfl dX7_statement_65 (fun H locs hP hS => ?_)
              obtain ⟨wn_82, hwn_82⟩ : ∃ x, x = st wn_79 14 ((wn_79 18 0).toNatClampNeg) (wn_79 17 0) := ⟨_, rfl⟩
              rw [← hwn_82] at hP
              have E := bns_e E hwn_82
              have ft82_taped : (wn_82 16 0).toInt = (wn_79 16 0).toInt := by rw [hwn_82]; rfl
              have ft82_at : (wn_82 17 0).toInt = (wn_79 17 0).toInt := by rw [hwn_82]; rfl
              have ft82_statements : (wn_82 18 0).toInt = (wn_79 18 0).toInt := by rw [hwn_82]; rfl
              have ft82_layers : (wn_82 11 0).toInt = (wn_79 11 0).toInt := by rw [hwn_82]; rfl
              have fv_82 : (wn_82 14 ((wn_79 18 0).toNatClampNeg)).toInt = (wn_79 17 0).toInt := by rw [hwn_82, st_rd]
              have hI_82 : R7I wn_82 := by rw [hwn_82]; exact R7I_put_letterAt hI_79
              refine lv_aload_n hx hb dX7_statement_66 rfl (lv_at hl 1 rfl) ?_
              refine lv_dup hx hb dX7_statement_67 rfl ?_
              refine g7_at hx hb hts hin hown hK hP (hts (.fieldLink RX7 86 "LoadedForTheLaneModel" "at" "I") (by decide +kernel)) dX7_statement_68 ?_
              have f_83 := R7I_at hI_82
              refine lv_iconst (v := 1) hx hb dX7_statement_71 (by decide) ?_
              refine lv_iadd hx hb dX7_statement_72 ?_
              refine p7_at hx hb hts hin hown hK hP hd hS (hts (.fieldLink RX7 86 "LoadedForTheLaneModel" "at" "I") (by decide +kernel)) dX7_statement_73 (fun H locs hP hS => ?_)
              obtain ⟨wn_84, hwn_84⟩ : ∃ x, x = st wn_82 17 0 ((wn_82 17 0) + 1) := ⟨_, rfl⟩
              rw [← hwn_84] at hP
              have E := bns_e E hwn_84
              have ft84_taped : (wn_84 16 0).toInt = (wn_82 16 0).toInt := by rw [hwn_84]; rfl
              have ft84_at : (wn_84 17 0).toInt = ((wn_82 17 0) + 1).toInt := by rw [hwn_84]; rfl
              have := q_1
              have := i_add (a := wn_82 17 0) (b := 1) (by omega) (by omega)
              have ft84_statements : (wn_84 18 0).toInt = (wn_82 18 0).toInt := by rw [hwn_84]; rfl
              have ft84_layers : (wn_84 11 0).toInt = (wn_82 11 0).toInt := by rw [hwn_84]; rfl
              have := q_1
              have := i_add (a := wn_82 17 0) (b := 1) (by omega) (by omega)
              have hI_84 : R7I wn_84 := by rw [hwn_84]; exact R7I_put_at hI_82 (by omega) (by omega)
              refine lv_aload_n hx hb dX7_statement_76 rfl (lv_at hl 1 rfl) ?_
              refine lv_iload_n hx hb dX7_statement_77 rfl (lv_at hl 0 rfl) ?_
              refine lv_iconst (v := 4) hx hb dX7_statement_78 (by decide) ?_
              refine lv_aload_n hx hb dX7_statement_79 rfl (lv_at hl 1 rfl) ?_
              refine g7_statements hx hb hts hin hown hK hP (hts (.fieldLink RX7 112 "LoadedForTheLaneModel" "statements" "I") (by decide +kernel)) dX7_statement_80 ?_
              have f_85 := R7I_statements hI_84
              refine lv_imul hx hb dX7_statement_83 ?_
              have := q_4
              have := i_mull (a := 4) (b := wn_84 18 0) (n := 4) q_4 (by omega) (by omega)
              refine va_calli (va_runV (As := [.int (sX7_next w), .int (4 * (wn_84 18 0))]) (rest := []) ⟨hx, hb, hml, hown, hts⟩ (kX7_readsAll l D cI ad wn_84 (sX7_next w) (4 * (wn_84 18 0)) hd hI_84 (by omega) (by omega)) (cwV 2 hts gX7_statement_X7_readsAll rfl rfl rfl mdX7_readsAll ⟨Nat.le_of_ble_eq_true rfl, Nat.le_of_ble_eq_true rfl⟩) (r7_pre hK hP) rfl rfl hl.1 rfl (lv_room (Nat.le_of_ble_eq_true rfl)) dX7_statement_84 ⟨Nat.zero_le _, Nat.zero_le _⟩) hS (fun _ _ h => h) (fun _ h => h) (fun rn_86 wn_86 t H locs ht hvm hp_86 hB hz hk hS => ?_)
              have hP : va_P D vwCl (RM cI ad wn_86) H := ht ▸ hB
              obtain ⟨hp_86, hz_86, hI_86, hq0_86, hq1_86, hq2_86, hq3_86⟩ := hp_86
              have E := bnd_e E hp_86
              have hzi_86 := z_int hz_86
              refine lv_if_eq (tgt := 99) hx hb dX7_statement_87 (by decide) (fun c_87 => ?_) (fun c_87 => ?_)
              · have E := E.trans (if_pos c_87)
                have fc_87 := i_eq c_87
                rw [q_0] at fc_87
                refine lv_iconst (v := 0) hx hb dX7_statement_99 (by decide) ?_
                have := q_0
                exact W.zret (ty := .boolean) (v := 0) hx hb hr (z_nar (Or.inl rfl)) (fun t ht hW => ⟨⟨_, wn_86, rfl, ⟨E.symm, (Or.inl rfl), hI_86, by omega, by omega, by omega, by omega, by omega⟩, by beta_reduce; rw [ht]; exact hP⟩, hS.F ht⟩) hS.2.2 dX7_statement_100
              · have E := E.trans (if_neg c_87)
                have fc_87 := i_ne c_87
                rw [q_0] at fc_87
                refine lv_aload_n hx hb dX7_statement_90 rfl (lv_at hl 1 rfl) ?_
                refine vp_callSi (va_Run.run (va_runV (As := []) (rest := []) ⟨hx, hb, hml, hown, hts⟩ (kX7_next l D cI ad wn_86 hI_86) (cwV 0 hts gX7_statement_X7_next rfl rfl rfl mdX7_next ⟨Nat.le_of_ble_eq_true rfl, Nat.le_of_ble_eq_true rfl⟩) (r7_pre hK hP) rfl rfl hl.1 rfl (lv_room (Nat.le_of_ble_eq_true rfl)) dX7_statement_91 ⟨Nat.zero_le _, Nat.zero_le _⟩)) (fun r_88 hr_88 => ?_)
                subst hr_88
                have rf_88 := rX7_next wn_86
                have rt_88 := R7I_taped hI_86
                refine lv_bipush (v := 59) hx hb dX7_statement_94 (by decide +kernel) ?_
                refine lv_icmp_eq (tgt := 101) hx hb dX7_statement_96 (by decide) (fun c_89 => ?_) (fun c_89 => ?_)
                · have E := E.trans (if_pos c_89)
                  have fc_89 := i_eq c_89
                  rw [q_59] at fc_89
                  refine lv_aload_n hx hb dX7_statement_101 rfl (lv_at hl 1 rfl) ?_
                  refine lv_dup hx hb dX7_statement_102 rfl ?_
                  refine g7_at hx hb hts hin hown hK hP (hts (.fieldLink RX7 86 "LoadedForTheLaneModel" "at" "I") (by decide +kernel)) dX7_statement_103 ?_
                  have f_90 := R7I_at hI_86
                  refine lv_iconst (v := 1) hx hb dX7_statement_106 (by decide) ?_
                  refine lv_iadd hx hb dX7_statement_107 ?_
                  refine p7_at hx hb hts hin hown hK hP hd hS (hts (.fieldLink RX7 86 "LoadedForTheLaneModel" "at" "I") (by decide +kernel)) dX7_statement_108 (fun H locs hP hS => ?_)
                  obtain ⟨wn_91, hwn_91⟩ : ∃ x, x = st wn_86 17 0 ((wn_86 17 0) + 1) := ⟨_, rfl⟩
                  rw [← hwn_91] at hP
                  have E := bns_e E hwn_91
                  have ft91_taped : (wn_91 16 0).toInt = (wn_86 16 0).toInt := by rw [hwn_91]; rfl
                  have ft91_at : (wn_91 17 0).toInt = ((wn_86 17 0) + 1).toInt := by rw [hwn_91]; rfl
                  have := q_1
                  have := i_add (a := wn_86 17 0) (b := 1) (by omega) (by omega)
                  have ft91_statements : (wn_91 18 0).toInt = (wn_86 18 0).toInt := by rw [hwn_91]; rfl
                  have ft91_layers : (wn_91 11 0).toInt = (wn_86 11 0).toInt := by rw [hwn_91]; rfl
                  have := q_1
                  have := i_add (a := wn_86 17 0) (b := 1) (by omega) (by omega)
                  have hI_91 : R7I wn_91 := by rw [hwn_91]; exact R7I_put_at hI_86 (by omega) (by omega)
                  refine lv_iconst (v := 1) hx hb dX7_statement_111 (by decide) ?_
                  have := q_1
                  exact W.zret (ty := .boolean) (v := 1) hx hb hr (z_nar (Or.inr rfl)) (fun t ht hW => ⟨⟨_, wn_91, rfl, ⟨E.symm, (Or.inr rfl), hI_91, by omega, by omega, by omega, by omega, by omega⟩, by beta_reduce; rw [ht]; exact hP⟩, hS.F ht⟩) hS.2.2 dX7_statement_112
                · have E := E.trans (if_neg c_89)
                  have fc_89 := i_ne c_89
                  rw [q_59] at fc_89
                  refine lv_iconst (v := 0) hx hb dX7_statement_99 (by decide) ?_
                  have := q_0
                  exact W.zret (ty := .boolean) (v := 0) hx hb hr (z_nar (Or.inl rfl)) (fun t ht hW => ⟨⟨_, wn_86, rfl, ⟨E.symm, (Or.inl rfl), hI_86, by omega, by omega, by omega, by omega, by omega⟩, by beta_reduce; rw [ht]; exact hP⟩, hS.F ht⟩) hS.2.2 dX7_statement_100
            · have E := E.trans (if_neg c_77)
              have fc_77 := i_ne c_77
              rw [q_117] at fc_77
              refine lv_iconst (v := 0) hx hb dX7_statement_41 (by decide) ?_
              have := q_0
              exact W.zret (ty := .boolean) (v := 0) hx hb hr (z_nar (Or.inl rfl)) (fun t ht hW => ⟨⟨_, w, rfl, ⟨E.symm, (Or.inl rfl), hI, by omega, by omega, by omega, by omega, by omega⟩, by beta_reduce; rw [ht]; exact hP⟩, hS.F ht⟩) hS.2.2 dX7_statement_42
abbrev rmX7_comesLayer : Room := { frames := 1, cells := 0, slots := 0, locals := 22 }
set_option maxHeartbeats 4000000 in
set_option maxRecDepth 100000 in
theorem kX7_comesLayer (l : Launch) (D : va_G) (cI : ClassId) (ad : Nat → Nat) (w : Nat → Nat → Int32) (a1 : Int32) (hd : RD ad) (hI : R7I w) (h1 : 0 ≤ a1.toInt) (h2 : a1.toInt ≤ 188) (h3 : (w 11 0).toInt ≤ 11) : Met l yX7_comesLayer wsX7_comesLayer rmX7_comesLayer (va_Pc [Value.ref (ad 0), Value.int a1] (fun U => va_P D vwCl (RM cI ad w) U.heap ∧ va_K D vwCl [(cI, .int)] U)) (va_Qi (fun r u => (r, u) = sX7_comesLayer w a1 ∧ (r = 0 ∨ r = 1) ∧ R7I u ∧ ((u 11 0).toInt ≤ 11)) (fun u t => va_P D vwCl (RM cI ad u) t.heap) (RA ad)) 0 0 (RA ad) := by
  refine Met.ofW (cc := cX7_comesLayer) (maxL := 2) (ret := (some .boolean)) (by decide) rfl ?_
  intro p e s m args below meth c s₁ B hml hv
  obtain ⟨rfl, hP, hK⟩ := hv
  have hx := B.exec
  have hb := B.bytes
  have hr := B.returns
  have hts := atoms_spec (ws := wsX7_comesLayer) B.pre
  have hown : s.vm.findClass RX7 = some m.cls := findClass_of_methodNamed B.named
  have hlocks := B.notSynchronized
  have hin : ∀ q ∈ wsX70, q ∈ wsX7_comesLayer := by decide +kernel
  have hl := lv_entry ([.ref (ad 0), .int a1]) (n := 2) (Nat.le_of_ble_eq_true rfl)
  rw [lg_entry_eq]
  generalize (lg_sl ([.ref (ad 0), .int a1]) ++ List.replicate (2 - (lg_sl ([.ref (ad 0), .int a1])).length) Slot.unset).toArray = ls at hl ⊢
  have hl : lv_has ls 2 [(0, .ref (ad 0)), (1, .int a1)] := hl
  suffices hgo : ∀ (H : Heap) (locs : List Loc), va_P D vwCl (RM cI ad w) H → va_S (RA ad) s.heap H locs → W p l e (headSpec wsX7_comesLayer rmX7_comesLayer).room s m [Value.ref (ad 0), Value.int a1].toArray below meth c H locs 0 0 (MQ below (va_Qi (fun r u => (r, u) = sX7_comesLayer w a1 ∧ (r = 0 ∨ r = 1) ∧ R7I u ∧ ((u 11 0).toInt ≤ 11)) (fun u t => va_P D vwCl (RM cI ad u) t.heap) (RA ad)) [Value.ref (ad 0), Value.int a1].toArray s 0 0 (RA ad)) (F0 m 0 ls []) from hgo s.heap [] hP va_S.rf
  intro H locs hP hS
  have E := sX7_comesLayer.eq_1 w a1
  refine lv_aload_n hx hb dX7_comesLayer_0 rfl (lv_at hl 0 rfl) ?_
  refine g7_told hx hb hts hin hown hK hP (hts (.fieldLink RX7 52 "LoadedForTheLaneModel" "told" "[I") (by decide +kernel)) dX7_comesLayer_1 ?_
  refine lv_iload_n hx hb dX7_comesLayer_4 rfl (lv_at hl 1 rfl) ?_
  refine lv_iconst (v := 1) hx hb dX7_comesLayer_5 (by decide) ?_
  refine lv_iadd hx hb dX7_comesLayer_6 ?_
  have := q_1
  have := i_add (a := a1) (b := 1) (by omega) (by omega)
  have ix_1 : vp_in (a1 + 1) 192 := ix_of (by omega) (by omega)
  refine l7_told (j := (a1 + 1).toNatClampNeg) hx hb hK hP ix_1 rfl dX7_comesLayer_7 ?_
  refine lv_iconst (v := 1) hx hb dX7_comesLayer_8 (by decide) ?_
  refine lv_bipush (v := 20) hx hb dX7_comesLayer_9 (by decide +kernel) ?_
  refine vp_callSi (va_Run.run (va_runS (As := [.int (w 15 ((a1 + 1).toNatClampNeg)), .int 1, .int 20]) (rest := []) ⟨hx, hb, hml, hown, hts⟩ (kX7_isIn l (w 15 ((a1 + 1).toNatClampNeg)) 1 20) (va_cwS 3 hts gX7_comesLayer_X7_isIn rfl rfl rfl mdX7_isIn ⟨Nat.le_of_ble_eq_true rfl, Nat.le_of_ble_eq_true rfl⟩) s_pre rfl rfl hl.1 rfl (lv_room (Nat.le_of_ble_eq_true rfl)) dX7_comesLayer_11 ⟨Nat.zero_le _, Nat.zero_le _⟩)) (fun r_2 hr_2 => ?_)
  obtain ⟨rfl, hz_2⟩ := hr_2
  refine lv_if_eq (tgt := 43) hx hb dX7_comesLayer_14 (by decide) (fun c_3 => ?_) (fun c_3 => ?_)
  · have E := E.trans (if_pos c_3)
    have fc_3 := i_eq c_3
    rw [q_0] at fc_3
    refine lv_iconst (v := 0) hx hb dX7_comesLayer_43 (by decide) ?_
    have := q_0
    exact W.zret (ty := .boolean) (v := 0) hx hb hr (z_nar (Or.inl rfl)) (fun t ht hW => ⟨⟨_, w, rfl, ⟨E.symm, (Or.inl rfl), hI, by omega⟩, by beta_reduce; rw [ht]; exact hP⟩, hS.F ht⟩) hS.2.2 dX7_comesLayer_44
  · have E := E.trans (if_neg c_3)
    have fc_3 := i_ne c_3
    rw [q_0] at fc_3
    have gc_3 := fX7_isIn c_3
    have := q_1
    have := q_20
    refine lv_aload_n hx hb dX7_comesLayer_17 rfl (lv_at hl 0 rfl) ?_
    refine g7_told hx hb hts hin hown hK hP (hts (.fieldLink RX7 52 "LoadedForTheLaneModel" "told" "[I") (by decide +kernel)) dX7_comesLayer_18 ?_
    refine lv_iload_n hx hb dX7_comesLayer_21 rfl (lv_at hl 1 rfl) ?_
    refine lv_iconst (v := 3) hx hb dX7_comesLayer_22 (by decide) ?_
    refine lv_iadd hx hb dX7_comesLayer_23 ?_
    have := q_3
    have := i_add (a := a1) (b := 3) (by omega) (by omega)
    have ix_4 : vp_in (a1 + 3) 192 := ix_of (by omega) (by omega)
    refine l7_told (j := (a1 + 3).toNatClampNeg) hx hb hK hP ix_4 rfl dX7_comesLayer_24 ?_
    refine lv_bipush (v := (-5)) hx hb dX7_comesLayer_25 (by decide +kernel) ?_
    refine lv_iconst (v := 5) hx hb dX7_comesLayer_27 (by decide) ?_
    refine vp_callSi (va_Run.run (va_runS (As := [.int (w 15 ((a1 + 3).toNatClampNeg)), .int (-5), .int 5]) (rest := []) ⟨hx, hb, hml, hown, hts⟩ (kX7_isIn l (w 15 ((a1 + 3).toNatClampNeg)) (-5) 5) (va_cwS 3 hts gX7_comesLayer_X7_isIn rfl rfl rfl mdX7_isIn ⟨Nat.le_of_ble_eq_true rfl, Nat.le_of_ble_eq_true rfl⟩) s_pre rfl rfl hl.1 rfl (lv_room (Nat.le_of_ble_eq_true rfl)) dX7_comesLayer_28 ⟨Nat.zero_le _, Nat.zero_le _⟩)) (fun r_5 hr_5 => ?_)
    obtain ⟨rfl, hz_5⟩ := hr_5
    refine lv_if_eq (tgt := 43) hx hb dX7_comesLayer_31 (by decide) (fun c_6 => ?_) (fun c_6 => ?_)
    · have E := E.trans (if_pos c_6)
      have fc_6 := i_eq c_6
      rw [q_0] at fc_6
      refine lv_iconst (v := 0) hx hb dX7_comesLayer_43 (by decide) ?_
      have := q_0
      exact W.zret (ty := .boolean) (v := 0) hx hb hr (z_nar (Or.inl rfl)) (fun t ht hW => ⟨⟨_, w, rfl, ⟨E.symm, (Or.inl rfl), hI, by omega⟩, by beta_reduce; rw [ht]; exact hP⟩, hS.F ht⟩) hS.2.2 dX7_comesLayer_44
    · have E := E.trans (if_neg c_6)
      have fc_6 := i_ne c_6
      rw [q_0] at fc_6
      have gc_6 := fX7_isIn c_6
      have := q_m5
      have := q_5
      refine lv_aload_n hx hb dX7_comesLayer_34 rfl (lv_at hl 0 rfl) ?_
      refine g7_layers hx hb hts hin hown hK hP (hts (.fieldLink RX7 67 "LoadedForTheLaneModel" "layers" "I") (by decide +kernel)) dX7_comesLayer_35 ?_
      have f_7 := R7I_layers hI
      refine lv_bipush (v := 11) hx hb dX7_comesLayer_38 (by decide +kernel) ?_
      refine lv_icmp_ne (tgt := 45) hx hb dX7_comesLayer_40 (by decide) (fun c_8 => ?_) (fun c_8 => ?_)
      · have E := E.trans (if_neg c_8)
        have fc_8 := i_ne c_8
        rw [q_11] at fc_8
        refine lv_aload_n hx hb dX7_comesLayer_45 rfl (lv_at hl 0 rfl) ?_
        refine g7_kind hx hb hts hin hown hK hP (hts (.fieldLink RX7 16 "LoadedForTheLaneModel" "kind" "[I") (by decide +kernel)) dX7_comesLayer_46 ?_
        refine lv_aload_n hx hb dX7_comesLayer_49 rfl (lv_at hl 0 rfl) ?_
        refine g7_layers hx hb hts hin hown hK hP (hts (.fieldLink RX7 67 "LoadedForTheLaneModel" "layers" "I") (by decide +kernel)) dX7_comesLayer_50 ?_
        have f_9 := R7I_layers hI
        refine lv_aload_n hx hb dX7_comesLayer_53 rfl (lv_at hl 0 rfl) ?_
        refine g7_told hx hb hts hin hown hK hP (hts (.fieldLink RX7 52 "LoadedForTheLaneModel" "told" "[I") (by decide +kernel)) dX7_comesLayer_54 ?_
        refine lv_iload_n hx hb dX7_comesLayer_57 rfl (lv_at hl 1 rfl) ?_
        have ix_10 : vp_in a1 192 := ix_of (by omega) (by omega)
        refine l7_told (j := a1.toNatClampNeg) hx hb hK hP ix_10 rfl dX7_comesLayer_58 ?_
        have ix_11 : vp_in (w 11 0) 12 := ix_of (by omega) (by omega)
        refine a7_kind (j := (w 11 0).toNatClampNeg) hx hb hK hP hd hS ix_11 rfl dX7_comesLayer_59 (fun H locs hP hS => ?_)
        obtain ⟨wn_11, hwn_11⟩ : ∃ x, x = st w 2 ((w 11 0).toNatClampNeg) (w 15 (a1.toNatClampNeg)) := ⟨_, rfl⟩
        rw [← hwn_11] at hP
        have E := bns_e E hwn_11
        have ft11_layers : (wn_11 11 0).toInt = (w 11 0).toInt := by rw [hwn_11]; rfl
        have fv_11 : (wn_11 2 ((w 11 0).toNatClampNeg)).toInt = (w 15 (a1.toNatClampNeg)).toInt := by rw [hwn_11, st_rd]
        have hI_11 : R7I wn_11 := by rw [hwn_11]; exact R7I_put_kind hI
        refine lv_aload_n hx hb dX7_comesLayer_60 rfl (lv_at hl 0 rfl) ?_
        refine g7_sheaves hx hb hts hin hown hK hP (hts (.fieldLink RX7 19 "LoadedForTheLaneModel" "sheaves" "[I") (by decide +kernel)) dX7_comesLayer_61 ?_
        refine lv_aload_n hx hb dX7_comesLayer_64 rfl (lv_at hl 0 rfl) ?_
        refine g7_layers hx hb hts hin hown hK hP (hts (.fieldLink RX7 67 "LoadedForTheLaneModel" "layers" "I") (by decide +kernel)) dX7_comesLayer_65 ?_
        have f_12 := R7I_layers hI_11
        refine lv_aload_n hx hb dX7_comesLayer_68 rfl (lv_at hl 0 rfl) ?_
        refine g7_told hx hb hts hin hown hK hP (hts (.fieldLink RX7 52 "LoadedForTheLaneModel" "told" "[I") (by decide +kernel)) dX7_comesLayer_69 ?_
        refine lv_iload_n hx hb dX7_comesLayer_72 rfl (lv_at hl 1 rfl) ?_
        refine lv_iconst (v := 1) hx hb dX7_comesLayer_73 (by decide) ?_
        refine lv_iadd hx hb dX7_comesLayer_74 ?_
        have := q_1
        have := i_add (a := a1) (b := 1) (by omega) (by omega)
        have ix_13 : vp_in (a1 + 1) 192 := ix_of (by omega) (by omega)
        refine l7_told (j := (a1 + 1).toNatClampNeg) hx hb hK hP ix_13 rfl dX7_comesLayer_75 ?_
        have ix_14 : vp_in (wn_11 11 0) 12 := ix_of (by omega) (by omega)
        refine a7_sheaves (j := (wn_11 11 0).toNatClampNeg) hx hb hK hP hd hS ix_14 rfl dX7_comesLayer_76 (fun H locs hP hS => ?_)
        obtain ⟨wn_14, hwn_14⟩ : ∃ x, x = st wn_11 3 ((wn_11 11 0).toNatClampNeg) (wn_11 15 ((a1 + 1).toNatClampNeg)) := ⟨_, rfl⟩
        rw [← hwn_14] at hP
        have E := bns_e E hwn_14
        have ft14_layers : (wn_14 11 0).toInt = (wn_11 11 0).toInt := by rw [hwn_14]; rfl
        have fv_14 : (wn_14 3 ((wn_11 11 0).toNatClampNeg)).toInt = (wn_11 15 ((a1 + 1).toNatClampNeg)).toInt := by rw [hwn_14, st_rd]
        have hI_14 : R7I wn_14 := by rw [hwn_14]; exact R7I_put_sheaves hI_11
        refine lv_aload_n hx hb dX7_comesLayer_77 rfl (lv_at hl 0 rfl) ?_
        refine g7_out hx hb hts hin hown hK hP (hts (.fieldLink RX7 22 "LoadedForTheLaneModel" "out" "[I") (by decide +kernel)) dX7_comesLayer_78 ?_
        refine lv_aload_n hx hb dX7_comesLayer_81 rfl (lv_at hl 0 rfl) ?_
        refine g7_layers hx hb hts hin hown hK hP (hts (.fieldLink RX7 67 "LoadedForTheLaneModel" "layers" "I") (by decide +kernel)) dX7_comesLayer_82 ?_
        have f_15 := R7I_layers hI_14
        refine lv_aload_n hx hb dX7_comesLayer_85 rfl (lv_at hl 0 rfl) ?_
        refine g7_told hx hb hts hin hown hK hP (hts (.fieldLink RX7 52 "LoadedForTheLaneModel" "told" "[I") (by decide +kernel)) dX7_comesLayer_86 ?_
        refine lv_iload_n hx hb dX7_comesLayer_89 rfl (lv_at hl 1 rfl) ?_
        refine lv_iconst (v := 2) hx hb dX7_comesLayer_90 (by decide) ?_
        refine lv_iadd hx hb dX7_comesLayer_91 ?_
        have := q_2
        have := i_add (a := a1) (b := 2) (by omega) (by omega)
        have ix_16 : vp_in (a1 + 2) 192 := ix_of (by omega) (by omega)
        refine l7_told (j := (a1 + 2).toNatClampNeg) hx hb hK hP ix_16 rfl dX7_comesLayer_92 ?_
        have ix_17 : vp_in (wn_14 11 0) 12 := ix_of (by omega) (by omega)
        refine a7_out (j := (wn_14 11 0).toNatClampNeg) hx hb hK hP hd hS ix_17 rfl dX7_comesLayer_93 (fun H locs hP hS => ?_)
        obtain ⟨wn_17, hwn_17⟩ : ∃ x, x = st wn_14 4 ((wn_14 11 0).toNatClampNeg) (wn_14 15 ((a1 + 2).toNatClampNeg)) := ⟨_, rfl⟩
        rw [← hwn_17] at hP
        have E := bns_e E hwn_17
        have ft17_layers : (wn_17 11 0).toInt = (wn_14 11 0).toInt := by rw [hwn_17]; rfl
        have fv_17 : (wn_17 4 ((wn_14 11 0).toNatClampNeg)).toInt = (wn_14 15 ((a1 + 2).toNatClampNeg)).toInt := by rw [hwn_17, st_rd]
        have hI_17 : R7I wn_17 := by rw [hwn_17]; exact R7I_put_out hI_14
        refine lv_aload_n hx hb dX7_comesLayer_94 rfl (lv_at hl 0 rfl) ?_
        refine g7_lean hx hb hts hin hown hK hP (hts (.fieldLink RX7 25 "LoadedForTheLaneModel" "lean" "[I") (by decide +kernel)) dX7_comesLayer_95 ?_
        refine lv_aload_n hx hb dX7_comesLayer_98 rfl (lv_at hl 0 rfl) ?_
        refine g7_layers hx hb hts hin hown hK hP (hts (.fieldLink RX7 67 "LoadedForTheLaneModel" "layers" "I") (by decide +kernel)) dX7_comesLayer_99 ?_
        have f_18 := R7I_layers hI_17
        refine lv_aload_n hx hb dX7_comesLayer_102 rfl (lv_at hl 0 rfl) ?_
        refine g7_told hx hb hts hin hown hK hP (hts (.fieldLink RX7 52 "LoadedForTheLaneModel" "told" "[I") (by decide +kernel)) dX7_comesLayer_103 ?_
        refine lv_iload_n hx hb dX7_comesLayer_106 rfl (lv_at hl 1 rfl) ?_
        refine lv_iconst (v := 3) hx hb dX7_comesLayer_107 (by decide) ?_
        refine lv_iadd hx hb dX7_comesLayer_108 ?_
        have := q_3
        have := i_add (a := a1) (b := 3) (by omega) (by omega)
        have ix_19 : vp_in (a1 + 3) 192 := ix_of (by omega) (by omega)
        refine l7_told (j := (a1 + 3).toNatClampNeg) hx hb hK hP ix_19 rfl dX7_comesLayer_109 ?_
        have ix_20 : vp_in (wn_17 11 0) 12 := ix_of (by omega) (by omega)
        refine a7_lean (j := (wn_17 11 0).toNatClampNeg) hx hb hK hP hd hS ix_20 rfl dX7_comesLayer_110 (fun H locs hP hS => ?_)
        obtain ⟨wn_20, hwn_20⟩ : ∃ x, x = st wn_17 5 ((wn_17 11 0).toNatClampNeg) (wn_17 15 ((a1 + 3).toNatClampNeg)) := ⟨_, rfl⟩
        rw [← hwn_20] at hP
        have E := bns_e E hwn_20
        have ft20_layers : (wn_20 11 0).toInt = (wn_17 11 0).toInt := by rw [hwn_20]; rfl
        have fv_20 : (wn_20 5 ((wn_17 11 0).toNatClampNeg)).toInt = (wn_17 15 ((a1 + 3).toNatClampNeg)).toInt := by rw [hwn_20, st_rd]
        have hI_20 : R7I wn_20 := by rw [hwn_20]; exact R7I_put_lean hI_17
        refine lv_aload_n hx hb dX7_comesLayer_111 rfl (lv_at hl 0 rfl) ?_
        refine lv_dup hx hb dX7_comesLayer_112 rfl ?_
        refine g7_layers hx hb hts hin hown hK hP (hts (.fieldLink RX7 67 "LoadedForTheLaneModel" "layers" "I") (by decide +kernel)) dX7_comesLayer_113 ?_
        have f_21 := R7I_layers hI_20
        refine lv_iconst (v := 1) hx hb dX7_comesLayer_116 (by decide) ?_
        refine lv_iadd hx hb dX7_comesLayer_117 ?_
        refine p7_layers hx hb hts hin hown hK hP hd hS (hts (.fieldLink RX7 67 "LoadedForTheLaneModel" "layers" "I") (by decide +kernel)) dX7_comesLayer_118 (fun H locs hP hS => ?_)
        obtain ⟨wn_22, hwn_22⟩ : ∃ x, x = st wn_20 11 0 ((wn_20 11 0) + 1) := ⟨_, rfl⟩
        rw [← hwn_22] at hP
        have E := bns_e E hwn_22
        have ft22_layers : (wn_22 11 0).toInt = ((wn_20 11 0) + 1).toInt := by rw [hwn_22]; rfl
        have := q_1
        have := i_add (a := wn_20 11 0) (b := 1) (by omega) (by omega)
        have := q_1
        have := i_add (a := wn_20 11 0) (b := 1) (by omega) (by omega)
        have hI_22 : R7I wn_22 := by rw [hwn_22]; exact R7I_put_layers hI_20 (by omega) (by omega)
        refine lv_iconst (v := 1) hx hb dX7_comesLayer_121 (by decide) ?_
        have := q_1
        exact W.zret (ty := .boolean) (v := 1) hx hb hr (z_nar (Or.inr rfl)) (fun t ht hW => ⟨⟨_, wn_22, rfl, ⟨E.symm, (Or.inr rfl), hI_22, by omega⟩, by beta_reduce; rw [ht]; exact hP⟩, hS.F ht⟩) hS.2.2 dX7_comesLayer_122
      · have E := E.trans (if_pos c_8)
        have fc_8 := i_eq c_8
        rw [q_11] at fc_8
        refine lv_iconst (v := 0) hx hb dX7_comesLayer_43 (by decide) ?_
        have := q_0
        exact W.zret (ty := .boolean) (v := 0) hx hb hr (z_nar (Or.inl rfl)) (fun t ht hW => ⟨⟨_, w, rfl, ⟨E.symm, (Or.inl rfl), hI, by omega⟩, by beta_reduce; rw [ht]; exact hP⟩, hS.F ht⟩) hS.2.2 dX7_comesLayer_44
abbrev rmX7_comesPiece : Room := { frames := 1, cells := 0, slots := 0, locals := 20 }
set_option maxHeartbeats 4000000 in
set_option maxRecDepth 100000 in
theorem kX7_comesPiece (l : Launch) (D : va_G) (cI : ClassId) (ad : Nat → Nat) (w : Nat → Nat → Int32) (a1 : Int32) (hd : RD ad) (hI : R7I w) (h1 : 0 ≤ a1.toInt) (h2 : a1.toInt ≤ 188) : Met l yX7_comesPiece wsX7_comesPiece rmX7_comesPiece (va_Pc [Value.ref (ad 0), Value.int a1] (fun U => va_P D vwCl (RM cI ad w) U.heap ∧ va_K D vwCl [(cI, .int)] U)) (va_Qi (fun r u => (r, u) = sX7_comesPiece w a1 ∧ (r = 0 ∨ r = 1) ∧ R7I u ∧ ((u 11 0).toInt = (w 11 0).toInt)) (fun u t => va_P D vwCl (RM cI ad u) t.heap) (RA ad)) 0 0 (RA ad) := by
  refine Met.ofW (cc := cX7_comesPiece) (maxL := 4) (ret := (some .boolean)) (by decide) rfl ?_
  intro p e s m args below meth c s₁ B hml hv
  obtain ⟨rfl, hP, hK⟩ := hv
  have hx := B.exec
  have hb := B.bytes
  have hr := B.returns
  have hts := atoms_spec (ws := wsX7_comesPiece) B.pre
  have hown : s.vm.findClass RX7 = some m.cls := findClass_of_methodNamed B.named
  have hlocks := B.notSynchronized
  have hin : ∀ q ∈ wsX70, q ∈ wsX7_comesPiece := by decide +kernel
  have hl := lv_entry ([.ref (ad 0), .int a1]) (n := 4) (Nat.le_of_ble_eq_true rfl)
  rw [lg_entry_eq]
  generalize (lg_sl ([.ref (ad 0), .int a1]) ++ List.replicate (4 - (lg_sl ([.ref (ad 0), .int a1])).length) Slot.unset).toArray = ls at hl ⊢
  have hl : lv_has ls 4 [(0, .ref (ad 0)), (1, .int a1)] := hl
  suffices hgo : ∀ (H : Heap) (locs : List Loc), va_P D vwCl (RM cI ad w) H → va_S (RA ad) s.heap H locs → W p l e (headSpec wsX7_comesPiece rmX7_comesPiece).room s m [Value.ref (ad 0), Value.int a1].toArray below meth c H locs 0 0 (MQ below (va_Qi (fun r u => (r, u) = sX7_comesPiece w a1 ∧ (r = 0 ∨ r = 1) ∧ R7I u ∧ ((u 11 0).toInt = (w 11 0).toInt)) (fun u t => va_P D vwCl (RM cI ad u) t.heap) (RA ad)) [Value.ref (ad 0), Value.int a1].toArray s 0 0 (RA ad)) (F0 m 0 ls []) from hgo s.heap [] hP va_S.rf
  intro H locs hP hS
  have E := sX7_comesPiece.eq_1 w a1
  refine lv_aload_n hx hb dX7_comesPiece_0 rfl (lv_at hl 0 rfl) ?_
  refine g7_told hx hb hts hin hown hK hP (hts (.fieldLink RX7 52 "LoadedForTheLaneModel" "told" "[I") (by decide +kernel)) dX7_comesPiece_1 ?_
  refine lv_iload_n hx hb dX7_comesPiece_4 rfl (lv_at hl 1 rfl) ?_
  have ix_1 : vp_in a1 192 := ix_of (by omega) (by omega)
  refine l7_told (j := a1.toNatClampNeg) hx hb hK hP ix_1 rfl dX7_comesPiece_5 ?_
  refine lv_istore_n (lv' := [(2, .int (w 15 (a1.toNatClampNeg))), (0, .ref (ad 0)), (1, .int a1)]) hx hb dX7_comesPiece_6 rfl hl (by decide) rfl (fun ls hl => ?_)
  refine lv_iload_n hx hb dX7_comesPiece_7 rfl (lv_at hl 0 rfl) ?_
  refine vp_callSi (va_Run.run (va_runS (As := [.int (w 15 (a1.toNatClampNeg))]) (rest := []) ⟨hx, hb, hml, hown, hts⟩ (kX7_isWay l (w 15 (a1.toNatClampNeg))) (va_cwS 1 hts gX7_comesPiece_X7_isWay rfl rfl rfl mdX7_isWay ⟨Nat.le_of_ble_eq_true rfl, Nat.le_of_ble_eq_true rfl⟩) s_pre rfl rfl hl.1 rfl (lv_room (Nat.le_of_ble_eq_true rfl)) dX7_comesPiece_8 ⟨Nat.zero_le _, Nat.zero_le _⟩)) (fun r_2 hr_2 => ?_)
  obtain ⟨rfl, hz_2⟩ := hr_2
  refine lv_if_eq (tgt := 49) hx hb dX7_comesPiece_11 (by decide) (fun c_3 => ?_) (fun c_3 => ?_)
  · have E := E.trans (if_pos c_3)
    have fc_3 := i_eq c_3
    rw [q_0] at fc_3
    refine lv_iconst (v := 0) hx hb dX7_comesPiece_49 (by decide) ?_
    have := q_0
    exact W.zret (ty := .boolean) (v := 0) hx hb hr (z_nar (Or.inl rfl)) (fun t ht hW => ⟨⟨_, w, rfl, ⟨E.symm, (Or.inl rfl), hI, by omega⟩, by beta_reduce; rw [ht]; exact hP⟩, hS.F ht⟩) hS.2.2 dX7_comesPiece_50
  · have E := E.trans (if_neg c_3)
    have fc_3 := i_ne c_3
    rw [q_0] at fc_3
    have gc_3 := fX7_isWay c_3
    refine lv_aload_n hx hb dX7_comesPiece_14 rfl (lv_at hl 1 rfl) ?_
    refine g7_told hx hb hts hin hown hK hP (hts (.fieldLink RX7 52 "LoadedForTheLaneModel" "told" "[I") (by decide +kernel)) dX7_comesPiece_15 ?_
    refine lv_iload_n hx hb dX7_comesPiece_18 rfl (lv_at hl 2 rfl) ?_
    refine lv_iconst (v := 2) hx hb dX7_comesPiece_19 (by decide) ?_
    refine lv_iadd hx hb dX7_comesPiece_20 ?_
    have := q_2
    have := i_add (a := a1) (b := 2) (by omega) (by omega)
    have ix_4 : vp_in (a1 + 2) 192 := ix_of (by omega) (by omega)
    refine l7_told (j := (a1 + 2).toNatClampNeg) hx hb hK hP ix_4 rfl dX7_comesPiece_21 ?_
    refine lv_bipush (v := 20) hx hb dX7_comesPiece_22 (by decide +kernel) ?_
    refine lv_icmp_gt (tgt := 49) hx hb dX7_comesPiece_24 (by decide) (fun c_5 => ?_) (fun c_5 => ?_)
    · have E := E.trans (if_pos c_5)
      have fc_5 := i_lt c_5
      rw [q_20] at fc_5
      refine lv_iconst (v := 0) hx hb dX7_comesPiece_49 (by decide) ?_
      have := q_0
      exact W.zret (ty := .boolean) (v := 0) hx hb hr (z_nar (Or.inl rfl)) (fun t ht hW => ⟨⟨_, w, rfl, ⟨E.symm, (Or.inl rfl), hI, by omega⟩, by beta_reduce; rw [ht]; exact hP⟩, hS.F ht⟩) hS.2.2 dX7_comesPiece_50
    · have E := E.trans (if_neg c_5)
      have fc_5 := i_nlt c_5
      rw [q_20] at fc_5
      refine lv_aload_n hx hb dX7_comesPiece_27 rfl (lv_at hl 1 rfl) ?_
      refine g7_told hx hb hts hin hown hK hP (hts (.fieldLink RX7 52 "LoadedForTheLaneModel" "told" "[I") (by decide +kernel)) dX7_comesPiece_28 ?_
      refine lv_iload_n hx hb dX7_comesPiece_31 rfl (lv_at hl 2 rfl) ?_
      refine lv_iconst (v := 3) hx hb dX7_comesPiece_32 (by decide) ?_
      refine lv_iadd hx hb dX7_comesPiece_33 ?_
      have := q_3
      have := i_add (a := a1) (b := 3) (by omega) (by omega)
      have ix_6 : vp_in (a1 + 3) 192 := ix_of (by omega) (by omega)
      refine l7_told (j := (a1 + 3).toNatClampNeg) hx hb hK hP ix_6 rfl dX7_comesPiece_34 ?_
      refine lv_if_eq (tgt := 49) hx hb dX7_comesPiece_35 (by decide) (fun c_7 => ?_) (fun c_7 => ?_)
      · have E := E.trans (if_pos c_7)
        have fc_7 := i_eq c_7
        rw [q_0] at fc_7
        refine lv_iconst (v := 0) hx hb dX7_comesPiece_49 (by decide) ?_
        have := q_0
        exact W.zret (ty := .boolean) (v := 0) hx hb hr (z_nar (Or.inl rfl)) (fun t ht hW => ⟨⟨_, w, rfl, ⟨E.symm, (Or.inl rfl), hI, by omega⟩, by beta_reduce; rw [ht]; exact hP⟩, hS.F ht⟩) hS.2.2 dX7_comesPiece_50
      · have E := E.trans (if_neg c_7)
        have fc_7 := i_ne c_7
        rw [q_0] at fc_7
        refine lv_aload_n hx hb dX7_comesPiece_38 rfl (lv_at hl 1 rfl) ?_
        refine g7_pieces hx hb hts hin hown hK hP (hts (.fieldLink RX7 40 "LoadedForTheLaneModel" "pieces" "[I") (by decide +kernel)) dX7_comesPiece_39 ?_
        refine lv_iload_n hx hb dX7_comesPiece_42 rfl (lv_at hl 0 rfl) ?_
        have ix_8 : vp_in (w 15 (a1.toNatClampNeg)) 2 := ix_of (by omega) (by omega)
        refine l7_pieces (j := (w 15 (a1.toNatClampNeg)).toNatClampNeg) hx hb hK hP ix_8 rfl dX7_comesPiece_43 ?_
        have f_8 := R7I_pieces hI (j := (w 15 (a1.toNatClampNeg)).toNatClampNeg) (by have := ix_cl (x := w 15 (a1.toNatClampNeg)) (by omega); omega)
        refine lv_bipush (v := 6) hx hb dX7_comesPiece_44 (by decide +kernel) ?_
        refine lv_icmp_ne (tgt := 51) hx hb dX7_comesPiece_46 (by decide) (fun c_9 => ?_) (fun c_9 => ?_)
        · have E := E.trans (if_neg c_9)
          have fc_9 := i_ne c_9
          rw [q_6] at fc_9
          refine lv_bipush (v := 6) hx hb dX7_comesPiece_51 (by decide +kernel) ?_
          refine lv_iload_n hx hb dX7_comesPiece_53 rfl (lv_at hl 0 rfl) ?_
          refine lv_imul hx hb dX7_comesPiece_54 ?_
          refine lv_aload_n hx hb dX7_comesPiece_55 rfl (lv_at hl 1 rfl) ?_
          refine g7_pieces hx hb hts hin hown hK hP (hts (.fieldLink RX7 40 "LoadedForTheLaneModel" "pieces" "[I") (by decide +kernel)) dX7_comesPiece_56 ?_
          refine lv_iload_n hx hb dX7_comesPiece_59 rfl (lv_at hl 0 rfl) ?_
          have ix_10 : vp_in (w 15 (a1.toNatClampNeg)) 2 := ix_of (by omega) (by omega)
          refine l7_pieces (j := (w 15 (a1.toNatClampNeg)).toNatClampNeg) hx hb hK hP ix_10 rfl dX7_comesPiece_60 ?_
          have f_10 := R7I_pieces hI (j := (w 15 (a1.toNatClampNeg)).toNatClampNeg) (by have := ix_cl (x := w 15 (a1.toNatClampNeg)) (by omega); omega)
          refine lv_iadd hx hb dX7_comesPiece_61 ?_
          refine lv_istore_n (lv' := [(3, .int ((6 * (w 15 (a1.toNatClampNeg))) + (w 10 ((w 15 (a1.toNatClampNeg)).toNatClampNeg)))), (2, .int (w 15 (a1.toNatClampNeg))), (0, .ref (ad 0)), (1, .int a1)]) hx hb dX7_comesPiece_62 rfl hl (by decide) rfl (fun ls hl => ?_)
          refine lv_aload_n hx hb dX7_comesPiece_63 rfl (lv_at hl 2 rfl) ?_
          refine g7_sort hx hb hts hin hown hK hP (hts (.fieldLink RX7 31 "LoadedForTheLaneModel" "sort" "[I") (by decide +kernel)) dX7_comesPiece_64 ?_
          refine lv_iload_n hx hb dX7_comesPiece_67 rfl (lv_at hl 0 rfl) ?_
          refine lv_aload_n hx hb dX7_comesPiece_68 rfl (lv_at hl 2 rfl) ?_
          refine g7_told hx hb hts hin hown hK hP (hts (.fieldLink RX7 52 "LoadedForTheLaneModel" "told" "[I") (by decide +kernel)) dX7_comesPiece_69 ?_
          refine lv_iload_n hx hb dX7_comesPiece_72 rfl (lv_at hl 3 rfl) ?_
          refine lv_iconst (v := 1) hx hb dX7_comesPiece_73 (by decide) ?_
          refine lv_iadd hx hb dX7_comesPiece_74 ?_
          have := q_1
          have := i_add (a := a1) (b := 1) (by omega) (by omega)
          have ix_11 : vp_in (a1 + 1) 192 := ix_of (by omega) (by omega)
          refine l7_told (j := (a1 + 1).toNatClampNeg) hx hb hK hP ix_11 rfl dX7_comesPiece_75 ?_
          have := q_6
          have := i_mull (a := 6) (b := w 15 (a1.toNatClampNeg)) (n := 6) q_6 (by omega) (by omega)
          have := i_add (a := 6 * (w 15 (a1.toNatClampNeg))) (b := w 10 ((w 15 (a1.toNatClampNeg)).toNatClampNeg)) (by omega) (by omega)
          have ix_12 : vp_in ((6 * (w 15 (a1.toNatClampNeg))) + (w 10 ((w 15 (a1.toNatClampNeg)).toNatClampNeg))) 12 := ix_of (by omega) (by omega)
          refine a7_sort (j := ((6 * (w 15 (a1.toNatClampNeg))) + (w 10 ((w 15 (a1.toNatClampNeg)).toNatClampNeg))).toNatClampNeg) hx hb hK hP hd hS ix_12 rfl dX7_comesPiece_76 (fun H locs hP hS => ?_)
          obtain ⟨wn_12, hwn_12⟩ : ∃ x, x = st w 7 (((6 * (w 15 (a1.toNatClampNeg))) + (w 10 ((w 15 (a1.toNatClampNeg)).toNatClampNeg))).toNatClampNeg) (w 15 ((a1 + 1).toNatClampNeg)) := ⟨_, rfl⟩
          rw [← hwn_12] at hP
          have E := bns_e E hwn_12
          have ft12_layers : (wn_12 11 0).toInt = (w 11 0).toInt := by rw [hwn_12]; rfl
          have ft12_pieces : wn_12 10 = w 10 := by rw [hwn_12]; rfl
          have fv_12 : (wn_12 7 (((6 * (w 15 (a1.toNatClampNeg))) + (w 10 ((w 15 (a1.toNatClampNeg)).toNatClampNeg))).toNatClampNeg)).toInt = (w 15 ((a1 + 1).toNatClampNeg)).toInt := by rw [hwn_12, st_rd]
          have hI_12 : R7I wn_12 := by rw [hwn_12]; exact R7I_put_sort hI
          refine lv_aload_n hx hb dX7_comesPiece_77 rfl (lv_at hl 2 rfl) ?_
          refine g7_figure hx hb hts hin hown hK hP (hts (.fieldLink RX7 34 "LoadedForTheLaneModel" "figure" "[I") (by decide +kernel)) dX7_comesPiece_78 ?_
          refine lv_iload_n hx hb dX7_comesPiece_81 rfl (lv_at hl 0 rfl) ?_
          refine lv_aload_n hx hb dX7_comesPiece_82 rfl (lv_at hl 2 rfl) ?_
          refine g7_told hx hb hts hin hown hK hP (hts (.fieldLink RX7 52 "LoadedForTheLaneModel" "told" "[I") (by decide +kernel)) dX7_comesPiece_83 ?_
          refine lv_iload_n hx hb dX7_comesPiece_86 rfl (lv_at hl 3 rfl) ?_
          refine lv_iconst (v := 2) hx hb dX7_comesPiece_87 (by decide) ?_
          refine lv_iadd hx hb dX7_comesPiece_88 ?_
          have := q_2
          have := i_add (a := a1) (b := 2) (by omega) (by omega)
          have ix_13 : vp_in (a1 + 2) 192 := ix_of (by omega) (by omega)
          refine l7_told (j := (a1 + 2).toNatClampNeg) hx hb hK hP ix_13 rfl dX7_comesPiece_89 ?_
          have := q_6
          have := i_mull (a := 6) (b := w 15 (a1.toNatClampNeg)) (n := 6) q_6 (by omega) (by omega)
          have := i_add (a := 6 * (w 15 (a1.toNatClampNeg))) (b := w 10 ((w 15 (a1.toNatClampNeg)).toNatClampNeg)) (by omega) (by omega)
          have ix_14 : vp_in ((6 * (w 15 (a1.toNatClampNeg))) + (w 10 ((w 15 (a1.toNatClampNeg)).toNatClampNeg))) 12 := ix_of (by omega) (by omega)
          refine a7_figure (j := ((6 * (w 15 (a1.toNatClampNeg))) + (w 10 ((w 15 (a1.toNatClampNeg)).toNatClampNeg))).toNatClampNeg) hx hb hK hP hd hS ix_14 rfl dX7_comesPiece_90 (fun H locs hP hS => ?_)
          obtain ⟨wn_14, hwn_14⟩ : ∃ x, x = st wn_12 8 (((6 * (w 15 (a1.toNatClampNeg))) + (w 10 ((w 15 (a1.toNatClampNeg)).toNatClampNeg))).toNatClampNeg) (wn_12 15 ((a1 + 2).toNatClampNeg)) := ⟨_, rfl⟩
          rw [← hwn_14] at hP
          have E := bns_e E hwn_14
          have ft14_layers : (wn_14 11 0).toInt = (wn_12 11 0).toInt := by rw [hwn_14]; rfl
          have ft14_pieces : wn_14 10 = wn_12 10 := by rw [hwn_14]; rfl
          have fv_14 : (wn_14 8 (((6 * (w 15 (a1.toNatClampNeg))) + (w 10 ((w 15 (a1.toNatClampNeg)).toNatClampNeg))).toNatClampNeg)).toInt = (wn_12 15 ((a1 + 2).toNatClampNeg)).toInt := by rw [hwn_14, st_rd]
          have hI_14 : R7I wn_14 := by rw [hwn_14]; exact R7I_put_figure hI_12
          refine lv_aload_n hx hb dX7_comesPiece_91 rfl (lv_at hl 2 rfl) ?_
          refine g7_lasting hx hb hts hin hown hK hP (hts (.fieldLink RX7 37 "LoadedForTheLaneModel" "lasting" "[I") (by decide +kernel)) dX7_comesPiece_92 ?_
          refine lv_iload_n hx hb dX7_comesPiece_95 rfl (lv_at hl 0 rfl) ?_
          refine lv_aload_n hx hb dX7_comesPiece_96 rfl (lv_at hl 2 rfl) ?_
          refine g7_told hx hb hts hin hown hK hP (hts (.fieldLink RX7 52 "LoadedForTheLaneModel" "told" "[I") (by decide +kernel)) dX7_comesPiece_97 ?_
          refine lv_iload_n hx hb dX7_comesPiece_100 rfl (lv_at hl 3 rfl) ?_
          refine lv_iconst (v := 3) hx hb dX7_comesPiece_101 (by decide) ?_
          refine lv_iadd hx hb dX7_comesPiece_102 ?_
          have := q_3
          have := i_add (a := a1) (b := 3) (by omega) (by omega)
          have ix_15 : vp_in (a1 + 3) 192 := ix_of (by omega) (by omega)
          refine l7_told (j := (a1 + 3).toNatClampNeg) hx hb hK hP ix_15 rfl dX7_comesPiece_103 ?_
          have := q_6
          have := i_mull (a := 6) (b := w 15 (a1.toNatClampNeg)) (n := 6) q_6 (by omega) (by omega)
          have := i_add (a := 6 * (w 15 (a1.toNatClampNeg))) (b := w 10 ((w 15 (a1.toNatClampNeg)).toNatClampNeg)) (by omega) (by omega)
          have ix_16 : vp_in ((6 * (w 15 (a1.toNatClampNeg))) + (w 10 ((w 15 (a1.toNatClampNeg)).toNatClampNeg))) 12 := ix_of (by omega) (by omega)
          refine a7_lasting (j := ((6 * (w 15 (a1.toNatClampNeg))) + (w 10 ((w 15 (a1.toNatClampNeg)).toNatClampNeg))).toNatClampNeg) hx hb hK hP hd hS ix_16 rfl dX7_comesPiece_104 (fun H locs hP hS => ?_)
          obtain ⟨wn_16, hwn_16⟩ : ∃ x, x = st wn_14 9 (((6 * (w 15 (a1.toNatClampNeg))) + (w 10 ((w 15 (a1.toNatClampNeg)).toNatClampNeg))).toNatClampNeg) (wn_14 15 ((a1 + 3).toNatClampNeg)) := ⟨_, rfl⟩
          rw [← hwn_16] at hP
          have E := bns_e E hwn_16
          have ft16_layers : (wn_16 11 0).toInt = (wn_14 11 0).toInt := by rw [hwn_16]; rfl
          have ft16_pieces : wn_16 10 = wn_14 10 := by rw [hwn_16]; rfl
          have fv_16 : (wn_16 9 (((6 * (w 15 (a1.toNatClampNeg))) + (w 10 ((w 15 (a1.toNatClampNeg)).toNatClampNeg))).toNatClampNeg)).toInt = (wn_14 15 ((a1 + 3).toNatClampNeg)).toInt := by rw [hwn_16, st_rd]
          have hI_16 : R7I wn_16 := by rw [hwn_16]; exact R7I_put_lasting hI_14
          refine lv_aload_n hx hb dX7_comesPiece_105 rfl (lv_at hl 2 rfl) ?_
          refine g7_pieces hx hb hts hin hown hK hP (hts (.fieldLink RX7 40 "LoadedForTheLaneModel" "pieces" "[I") (by decide +kernel)) dX7_comesPiece_106 ?_
          refine lv_iload_n hx hb dX7_comesPiece_109 rfl (lv_at hl 1 rfl) ?_
          refine lv_dup2_11 hx hb dX7_comesPiece_110 rfl rfl ?_
          have ix_17 : vp_in (w 15 (a1.toNatClampNeg)) 2 := ix_of (by omega) (by omega)
          refine l7_pieces (j := (w 15 (a1.toNatClampNeg)).toNatClampNeg) hx hb hK hP ix_17 rfl dX7_comesPiece_111 ?_
          have f_17 := R7I_pieces hI_16 (j := (w 15 (a1.toNatClampNeg)).toNatClampNeg) (by have := ix_cl (x := w 15 (a1.toNatClampNeg)) (by omega); omega)
          refine lv_iconst (v := 1) hx hb dX7_comesPiece_112 (by decide) ?_
          refine lv_iadd hx hb dX7_comesPiece_113 ?_
          have ix_18 : vp_in (w 15 (a1.toNatClampNeg)) 2 := ix_of (by omega) (by omega)
          refine a7_pieces (j := (w 15 (a1.toNatClampNeg)).toNatClampNeg) hx hb hK hP hd hS ix_18 rfl dX7_comesPiece_114 (fun H locs hP hS => ?_)
          obtain ⟨wn_18, hwn_18⟩ : ∃ x, x = st wn_16 10 ((w 15 (a1.toNatClampNeg)).toNatClampNeg) ((wn_16 10 ((w 15 (a1.toNatClampNeg)).toNatClampNeg)) + 1) := ⟨_, rfl⟩
          rw [← hwn_18] at hP
          have E := bns_e E hwn_18
          have ft18_layers : (wn_18 11 0).toInt = (wn_16 11 0).toInt := by rw [hwn_18]; rfl
          have fv_18 : (wn_18 10 ((w 15 (a1.toNatClampNeg)).toNatClampNeg)).toInt = ((wn_16 10 ((w 15 (a1.toNatClampNeg)).toNatClampNeg)) + 1).toInt := by rw [hwn_18, st_rd]
          have := q_1
          have := i_add (a := wn_16 10 ((w 15 (a1.toNatClampNeg)).toNatClampNeg)) (b := 1) (by omega) (by omega)
          have hI_18 : R7I wn_18 := by rw [hwn_18]; exact R7I_put_pieces hI_16 (by omega) (by omega)
          refine lv_iconst (v := 1) hx hb dX7_comesPiece_115 (by decide) ?_
          have := q_1
          exact W.zret (ty := .boolean) (v := 1) hx hb hr (z_nar (Or.inr rfl)) (fun t ht hW => ⟨⟨_, wn_18, rfl, ⟨E.symm, (Or.inr rfl), hI_18, by omega⟩, by beta_reduce; rw [ht]; exact hP⟩, hS.F ht⟩) hS.2.2 dX7_comesPiece_116
        · have E := E.trans (if_pos c_9)
          have fc_9 := i_eq c_9
          rw [q_6] at fc_9
          refine lv_iconst (v := 0) hx hb dX7_comesPiece_49 (by decide) ?_
          have := q_0
          exact W.zret (ty := .boolean) (v := 0) hx hb hr (z_nar (Or.inl rfl)) (fun t ht hW => ⟨⟨_, w, rfl, ⟨E.symm, (Or.inl rfl), hI, by omega⟩, by beta_reduce; rw [ht]; exact hP⟩, hS.F ht⟩) hS.2.2 dX7_comesPiece_50
abbrev rmX7_comes : Room := { frames := 2, cells := 0, slots := 0, locals := 43 }
set_option maxHeartbeats 4000000 in
set_option maxRecDepth 100000 in
theorem kX7_comes (l : Launch) (D : va_G) (cI : ClassId) (ad : Nat → Nat) (w : Nat → Nat → Int32) (a1 : Int32) (hd : RD ad) (hI : R7I w) (h1 : 0 ≤ a1.toInt) (h2 : a1.toInt < 48) (h3 : (w 11 0).toInt ≤ 11) : Met l yX7_comes wsX7_comes rmX7_comes (va_Pc [Value.ref (ad 0), Value.int a1] (fun U => va_P D vwCl (RM cI ad w) U.heap ∧ va_K D vwCl [(cI, .int)] U)) (va_Qi (fun r u => (r, u) = sX7_comes w a1 ∧ (r = 0 ∨ r = 1) ∧ R7I u ∧ ((u 11 0).toInt ≤ 11)) (fun u t => va_P D vwCl (RM cI ad u) t.heap) (RA ad)) 0 0 (RA ad) := by
  refine Met.ofW (cc := cX7_comes) (maxL := 3) (ret := (some .boolean)) (by decide) rfl ?_
  intro p e s m args below meth c s₁ B hml hv
  obtain ⟨rfl, hP, hK⟩ := hv
  have hx := B.exec
  have hb := B.bytes
  have hr := B.returns
  have hts := atoms_spec (ws := wsX7_comes) B.pre
  have hown : s.vm.findClass RX7 = some m.cls := findClass_of_methodNamed B.named
  have hlocks := B.notSynchronized
  have hin : ∀ q ∈ wsX70, q ∈ wsX7_comes := by decide +kernel
  have hl := lv_entry ([.ref (ad 0), .int a1]) (n := 3) (Nat.le_of_ble_eq_true rfl)
  rw [lg_entry_eq]
  generalize (lg_sl ([.ref (ad 0), .int a1]) ++ List.replicate (3 - (lg_sl ([.ref (ad 0), .int a1])).length) Slot.unset).toArray = ls at hl ⊢
  have hl : lv_has ls 3 [(0, .ref (ad 0)), (1, .int a1)] := hl
  suffices hgo : ∀ (H : Heap) (locs : List Loc), va_P D vwCl (RM cI ad w) H → va_S (RA ad) s.heap H locs → W p l e (headSpec wsX7_comes rmX7_comes).room s m [Value.ref (ad 0), Value.int a1].toArray below meth c H locs 0 0 (MQ below (va_Qi (fun r u => (r, u) = sX7_comes w a1 ∧ (r = 0 ∨ r = 1) ∧ R7I u ∧ ((u 11 0).toInt ≤ 11)) (fun u t => va_P D vwCl (RM cI ad u) t.heap) (RA ad)) [Value.ref (ad 0), Value.int a1].toArray s 0 0 (RA ad)) (F0 m 0 ls []) from hgo s.heap [] hP va_S.rf
  intro H locs hP hS
  have E := sX7_comes.eq_1 w a1
  refine lv_iconst (v := 4) hx hb dX7_comes_0 (by decide) ?_
  refine lv_iload_n hx hb dX7_comes_1 rfl (lv_at hl 1 rfl) ?_
  refine lv_imul hx hb dX7_comes_2 ?_
  refine lv_istore_n (lv' := [(2, .int (4 * a1)), (0, .ref (ad 0)), (1, .int a1)]) hx hb dX7_comes_3 rfl hl (by decide) rfl (fun ls hl => ?_)
  refine lv_aload_n hx hb dX7_comes_4 rfl (lv_at hl 1 rfl) ?_
  refine g7_letter hx hb hts hin hown hK hP (hts (.fieldLink RX7 46 "LoadedForTheLaneModel" "letter" "[I") (by decide +kernel)) dX7_comes_5 ?_
  refine lv_iload_n hx hb dX7_comes_8 rfl (lv_at hl 2 rfl) ?_
  have ix_1 : vp_in a1 48 := ix_of (by omega) (by omega)
  refine l7_letter (j := a1.toNatClampNeg) hx hb hK hP ix_1 rfl dX7_comes_9 ?_
  by_cases c_2 : (w 13 (a1.toNatClampNeg)) = 102
  · have E := E.trans (if_pos c_2)
    refine lv_lookup (off := 142) (tgt := 152) hx hb dX7_comes_10 (by decide) (by rw [c_2]; decide) (by decide) ?_
    have fc_2 := i_eq c_2
    rw [q_102] at fc_2
    refine lv_aload_n hx hb dX7_comes_152 rfl (lv_at hl 1 rfl) ?_
    refine g7_setting hx hb hts hin hown hK hP (hts (.fieldLink RX7 13 "LoadedForTheLaneModel" "setting" "[I") (by decide +kernel)) dX7_comes_153 ?_
    refine lv_iconst (v := 3) hx hb dX7_comes_156 (by decide) ?_
    refine lv_aload_n hx hb dX7_comes_157 rfl (lv_at hl 1 rfl) ?_
    refine g7_told hx hb hts hin hown hK hP (hts (.fieldLink RX7 52 "LoadedForTheLaneModel" "told" "[I") (by decide +kernel)) dX7_comes_158 ?_
    refine lv_iload_n hx hb dX7_comes_161 rfl (lv_at hl 0 rfl) ?_
    have := q_4
    have := i_mull (a := 4) (b := a1) (n := 4) q_4 (by omega) (by omega)
    have ix_3 : vp_in (4 * a1) 192 := ix_of (by omega) (by omega)
    refine l7_told (j := (4 * a1).toNatClampNeg) hx hb hK hP ix_3 rfl dX7_comes_162 ?_
    have ix_4 : vp_in 3 4 := by unfold vp_in; decide
    refine a7_setting (j := 3) hx hb hK hP hd hS ix_4 (by decide) dX7_comes_163 (fun H locs hP hS => ?_)
    obtain ⟨wn_4, hwn_4⟩ : ∃ x, x = st w 1 3 (w 15 ((4 * a1).toNatClampNeg)) := ⟨_, rfl⟩
    rw [← hwn_4] at hP
    have E := bns_e E hwn_4
    have ft4_layers : (wn_4 11 0).toInt = (w 11 0).toInt := by rw [hwn_4]; rfl
    have fv_4 : (wn_4 1 3).toInt = (w 15 ((4 * a1).toNatClampNeg)).toInt := by rw [hwn_4, st_rd]
    have hI_4 : R7I wn_4 := by rw [hwn_4]; exact R7I_put_setting hI
    refine lv_iconst (v := 1) hx hb dX7_comes_164 (by decide) ?_
    have := q_1
    exact W.zret (ty := .boolean) (v := 1) hx hb hr (z_nar (Or.inr rfl)) (fun t ht hW => ⟨⟨_, wn_4, rfl, ⟨E.symm, (Or.inr rfl), hI_4, by omega⟩, by beta_reduce; rw [ht]; exact hP⟩, hS.F ht⟩) hS.2.2 dX7_comes_165
  have E := E.trans (if_neg c_2)
  have fc_2 := i_ne c_2
  rw [q_102] at fc_2
  by_cases c_5 : (w 13 (a1.toNatClampNeg)) = 107
  · have E := E.trans (if_pos c_5)
    refine lv_lookup (off := 90) (tgt := 100) hx hb dX7_comes_10 (by decide) (by rw [c_5]; decide) (by decide) ?_
    have fc_5 := i_eq c_5
    rw [q_107] at fc_5
    refine lv_aload_n hx hb dX7_comes_100 rfl (lv_at hl 1 rfl) ?_
    refine g7_setting hx hb hts hin hown hK hP (hts (.fieldLink RX7 13 "LoadedForTheLaneModel" "setting" "[I") (by decide +kernel)) dX7_comes_101 ?_
    refine lv_iconst (v := 1) hx hb dX7_comes_104 (by decide) ?_
    refine lv_aload_n hx hb dX7_comes_105 rfl (lv_at hl 1 rfl) ?_
    refine g7_told hx hb hts hin hown hK hP (hts (.fieldLink RX7 52 "LoadedForTheLaneModel" "told" "[I") (by decide +kernel)) dX7_comes_106 ?_
    refine lv_iload_n hx hb dX7_comes_109 rfl (lv_at hl 0 rfl) ?_
    have := q_4
    have := i_mull (a := 4) (b := a1) (n := 4) q_4 (by omega) (by omega)
    have ix_6 : vp_in (4 * a1) 192 := ix_of (by omega) (by omega)
    refine l7_told (j := (4 * a1).toNatClampNeg) hx hb hK hP ix_6 rfl dX7_comes_110 ?_
    have ix_7 : vp_in 1 4 := by unfold vp_in; decide
    refine a7_setting (j := 1) hx hb hK hP hd hS ix_7 (by decide) dX7_comes_111 (fun H locs hP hS => ?_)
    obtain ⟨wn_7, hwn_7⟩ : ∃ x, x = st w 1 1 (w 15 ((4 * a1).toNatClampNeg)) := ⟨_, rfl⟩
    rw [← hwn_7] at hP
    have E := bns_e E hwn_7
    have ft7_layers : (wn_7 11 0).toInt = (w 11 0).toInt := by rw [hwn_7]; rfl
    have fv_7 : (wn_7 1 1).toInt = (w 15 ((4 * a1).toNatClampNeg)).toInt := by rw [hwn_7, st_rd]
    have hI_7 : R7I wn_7 := by rw [hwn_7]; exact R7I_put_setting hI
    refine lv_aload_n hx hb dX7_comes_112 rfl (lv_at hl 1 rfl) ?_
    refine g7_setting hx hb hts hin hown hK hP (hts (.fieldLink RX7 13 "LoadedForTheLaneModel" "setting" "[I") (by decide +kernel)) dX7_comes_113 ?_
    refine lv_iconst (v := 2) hx hb dX7_comes_116 (by decide) ?_
    refine lv_aload_n hx hb dX7_comes_117 rfl (lv_at hl 1 rfl) ?_
    refine g7_told hx hb hts hin hown hK hP (hts (.fieldLink RX7 52 "LoadedForTheLaneModel" "told" "[I") (by decide +kernel)) dX7_comes_118 ?_
    refine lv_iload_n hx hb dX7_comes_121 rfl (lv_at hl 0 rfl) ?_
    refine lv_iconst (v := 1) hx hb dX7_comes_122 (by decide) ?_
    refine lv_iadd hx hb dX7_comes_123 ?_
    have := q_4
    have := i_mull (a := 4) (b := a1) (n := 4) q_4 (by omega) (by omega)
    have := q_1
    have := i_add (a := 4 * a1) (b := 1) (by omega) (by omega)
    have ix_8 : vp_in ((4 * a1) + 1) 192 := ix_of (by omega) (by omega)
    refine l7_told (j := ((4 * a1) + 1).toNatClampNeg) hx hb hK hP ix_8 rfl dX7_comes_124 ?_
    have ix_9 : vp_in 2 4 := by unfold vp_in; decide
    refine a7_setting (j := 2) hx hb hK hP hd hS ix_9 (by decide) dX7_comes_125 (fun H locs hP hS => ?_)
    obtain ⟨wn_9, hwn_9⟩ : ∃ x, x = st wn_7 1 2 (wn_7 15 (((4 * a1) + 1).toNatClampNeg)) := ⟨_, rfl⟩
    rw [← hwn_9] at hP
    have E := bns_e E hwn_9
    have ft9_layers : (wn_9 11 0).toInt = (wn_7 11 0).toInt := by rw [hwn_9]; rfl
    have fv_9 : (wn_9 1 2).toInt = (wn_7 15 (((4 * a1) + 1).toNatClampNeg)).toInt := by rw [hwn_9, st_rd]
    have hI_9 : R7I wn_9 := by rw [hwn_9]; exact R7I_put_setting hI_7
    refine lv_aload_n hx hb dX7_comes_126 rfl (lv_at hl 1 rfl) ?_
    refine g7_told hx hb hts hin hown hK hP (hts (.fieldLink RX7 52 "LoadedForTheLaneModel" "told" "[I") (by decide +kernel)) dX7_comes_127 ?_
    refine lv_iload_n hx hb dX7_comes_130 rfl (lv_at hl 0 rfl) ?_
    have := q_4
    have := i_mull (a := 4) (b := a1) (n := 4) q_4 (by omega) (by omega)
    have ix_10 : vp_in (4 * a1) 192 := ix_of (by omega) (by omega)
    refine l7_told (j := (4 * a1).toNatClampNeg) hx hb hK hP ix_10 rfl dX7_comes_131 ?_
    refine lv_if_le (tgt := 150) hx hb dX7_comes_132 (by decide) (fun c_11 => ?_) (fun c_11 => ?_)
    · have E := E.trans (if_pos c_11)
      have fc_11 := i_le c_11
      rw [q_0] at fc_11
      refine lv_iconst (v := 0) hx hb dX7_comes_150 (by decide) ?_
      have := q_0
      exact W.zret (ty := .boolean) (v := 0) hx hb hr (z_nar (Or.inl rfl)) (fun t ht hW => ⟨⟨_, wn_9, rfl, ⟨E.symm, (Or.inl rfl), hI_9, by omega⟩, by beta_reduce; rw [ht]; exact hP⟩, hS.F ht⟩) hS.2.2 dX7_comes_151
    · have E := E.trans (if_neg c_11)
      have fc_11 := i_nle c_11
      rw [q_0] at fc_11
      refine lv_aload_n hx hb dX7_comes_135 rfl (lv_at hl 1 rfl) ?_
      refine g7_told hx hb hts hin hown hK hP (hts (.fieldLink RX7 52 "LoadedForTheLaneModel" "told" "[I") (by decide +kernel)) dX7_comes_136 ?_
      refine lv_iload_n hx hb dX7_comes_139 rfl (lv_at hl 0 rfl) ?_
      refine lv_iconst (v := 1) hx hb dX7_comes_140 (by decide) ?_
      refine lv_iadd hx hb dX7_comes_141 ?_
      have := q_4
      have := i_mull (a := 4) (b := a1) (n := 4) q_4 (by omega) (by omega)
      have := q_1
      have := i_add (a := 4 * a1) (b := 1) (by omega) (by omega)
      have ix_12 : vp_in ((4 * a1) + 1) 192 := ix_of (by omega) (by omega)
      refine l7_told (j := ((4 * a1) + 1).toNatClampNeg) hx hb hK hP ix_12 rfl dX7_comes_142 ?_
      refine lv_if_le (tgt := 150) hx hb dX7_comes_143 (by decide) (fun c_13 => ?_) (fun c_13 => ?_)
      · have E := E.trans (if_pos c_13)
        have fc_13 := i_le c_13
        rw [q_0] at fc_13
        refine lv_iconst (v := 0) hx hb dX7_comes_150 (by decide) ?_
        have := q_0
        exact W.zret (ty := .boolean) (v := 0) hx hb hr (z_nar (Or.inl rfl)) (fun t ht hW => ⟨⟨_, wn_9, rfl, ⟨E.symm, (Or.inl rfl), hI_9, by omega⟩, by beta_reduce; rw [ht]; exact hP⟩, hS.F ht⟩) hS.2.2 dX7_comes_151
      · have E := E.trans (if_neg c_13)
        have fc_13 := i_nle c_13
        rw [q_0] at fc_13
        refine lv_iconst (v := 1) hx hb dX7_comes_146 (by decide) ?_
        refine lv_goto (tgt := 151) hx hb dX7_comes_147 (by decide) ?_
        have := q_1
        exact W.zret (ty := .boolean) (v := 1) hx hb hr (z_nar (Or.inr rfl)) (fun t ht hW => ⟨⟨_, wn_9, rfl, ⟨E.symm, (Or.inr rfl), hI_9, by omega⟩, by beta_reduce; rw [ht]; exact hP⟩, hS.F ht⟩) hS.2.2 dX7_comes_151
  have E := E.trans (if_neg c_5)
  have fc_5 := i_ne c_5
  rw [q_107] at fc_5
  by_cases c_14 : (w 13 (a1.toNatClampNeg)) = 114
  · have E := E.trans (if_pos c_14)
    refine lv_lookup (off := 62) (tgt := 72) hx hb dX7_comes_10 (by decide) (by rw [c_14]; decide) (by decide) ?_
    have fc_14 := i_eq c_14
    rw [q_114] at fc_14
    refine lv_aload_n hx hb dX7_comes_72 rfl (lv_at hl 1 rfl) ?_
    refine g7_setting hx hb hts hin hown hK hP (hts (.fieldLink RX7 13 "LoadedForTheLaneModel" "setting" "[I") (by decide +kernel)) dX7_comes_73 ?_
    refine lv_iconst (v := 0) hx hb dX7_comes_76 (by decide) ?_
    refine lv_aload_n hx hb dX7_comes_77 rfl (lv_at hl 1 rfl) ?_
    refine g7_told hx hb hts hin hown hK hP (hts (.fieldLink RX7 52 "LoadedForTheLaneModel" "told" "[I") (by decide +kernel)) dX7_comes_78 ?_
    refine lv_iload_n hx hb dX7_comes_81 rfl (lv_at hl 0 rfl) ?_
    have := q_4
    have := i_mull (a := 4) (b := a1) (n := 4) q_4 (by omega) (by omega)
    have ix_15 : vp_in (4 * a1) 192 := ix_of (by omega) (by omega)
    refine l7_told (j := (4 * a1).toNatClampNeg) hx hb hK hP ix_15 rfl dX7_comes_82 ?_
    have ix_16 : vp_in 0 4 := by unfold vp_in; decide
    refine a7_setting (j := 0) hx hb hK hP hd hS ix_16 (by decide) dX7_comes_83 (fun H locs hP hS => ?_)
    obtain ⟨wn_16, hwn_16⟩ : ∃ x, x = st w 1 0 (w 15 ((4 * a1).toNatClampNeg)) := ⟨_, rfl⟩
    rw [← hwn_16] at hP
    have E := bns_e E hwn_16
    have ft16_layers : (wn_16 11 0).toInt = (w 11 0).toInt := by rw [hwn_16]; rfl
    have fv_16 : (wn_16 1 0).toInt = (w 15 ((4 * a1).toNatClampNeg)).toInt := by rw [hwn_16, st_rd]
    have hI_16 : R7I wn_16 := by rw [hwn_16]; exact R7I_put_setting hI
    refine lv_aload_n hx hb dX7_comes_84 rfl (lv_at hl 1 rfl) ?_
    refine g7_told hx hb hts hin hown hK hP (hts (.fieldLink RX7 52 "LoadedForTheLaneModel" "told" "[I") (by decide +kernel)) dX7_comes_85 ?_
    refine lv_iload_n hx hb dX7_comes_88 rfl (lv_at hl 0 rfl) ?_
    have := q_4
    have := i_mull (a := 4) (b := a1) (n := 4) q_4 (by omega) (by omega)
    have ix_17 : vp_in (4 * a1) 192 := ix_of (by omega) (by omega)
    refine l7_told (j := (4 * a1).toNatClampNeg) hx hb hK hP ix_17 rfl dX7_comes_89 ?_
    refine lv_iconst (v := 5) hx hb dX7_comes_90 (by decide) ?_
    refine lv_icmp_gt (tgt := 98) hx hb dX7_comes_91 (by decide) (fun c_18 => ?_) (fun c_18 => ?_)
    · have E := E.trans (if_pos c_18)
      have fc_18 := i_lt c_18
      rw [q_5] at fc_18
      refine lv_iconst (v := 0) hx hb dX7_comes_98 (by decide) ?_
      have := q_0
      exact W.zret (ty := .boolean) (v := 0) hx hb hr (z_nar (Or.inl rfl)) (fun t ht hW => ⟨⟨_, wn_16, rfl, ⟨E.symm, (Or.inl rfl), hI_16, by omega⟩, by beta_reduce; rw [ht]; exact hP⟩, hS.F ht⟩) hS.2.2 dX7_comes_99
    · have E := E.trans (if_neg c_18)
      have fc_18 := i_nlt c_18
      rw [q_5] at fc_18
      refine lv_iconst (v := 1) hx hb dX7_comes_94 (by decide) ?_
      refine lv_goto (tgt := 99) hx hb dX7_comes_95 (by decide) ?_
      have := q_1
      exact W.zret (ty := .boolean) (v := 1) hx hb hr (z_nar (Or.inr rfl)) (fun t ht hW => ⟨⟨_, wn_16, rfl, ⟨E.symm, (Or.inr rfl), hI_16, by omega⟩, by beta_reduce; rw [ht]; exact hP⟩, hS.F ht⟩) hS.2.2 dX7_comes_99
  have E := E.trans (if_neg c_14)
  have fc_14 := i_ne c_14
  rw [q_114] at fc_14
  by_cases c_19 : (w 13 (a1.toNatClampNeg)) = 119
  · have E := E.trans (if_pos c_19)
    refine lv_lookup (off := 56) (tgt := 66) hx hb dX7_comes_10 (by decide) (by rw [c_19]; decide) (by decide) ?_
    have fc_19 := i_eq c_19
    rw [q_119] at fc_19
    refine lv_aload_n hx hb dX7_comes_66 rfl (lv_at hl 1 rfl) ?_
    refine lv_iload_n hx hb dX7_comes_67 rfl (lv_at hl 0 rfl) ?_
    have := q_4
    have := i_mull (a := 4) (b := a1) (n := 4) q_4 (by omega) (by omega)
    refine va_calli (va_runV (As := [.int (4 * a1)]) (rest := []) ⟨hx, hb, hml, hown, hts⟩ (kX7_comesPiece l D cI ad w (4 * a1) hd hI (by omega) (by omega)) (cwV 1 hts gX7_comes_X7_comesPiece rfl rfl rfl mdX7_comesPiece ⟨Nat.le_of_ble_eq_true rfl, Nat.le_of_ble_eq_true rfl⟩) (r7_pre hK hP) rfl rfl hl.1 rfl (lv_room (Nat.le_of_ble_eq_true rfl)) dX7_comes_68 ⟨Nat.zero_le _, Nat.zero_le _⟩) hS (fun _ _ h => h) (fun _ h => h) (fun rn_20 wn_20 t H locs ht hvm hp_20 hB hz hk hS => ?_)
    have hP : va_P D vwCl (RM cI ad wn_20) H := ht ▸ hB
    obtain ⟨hp_20, hz_20, hI_20, hq0_20⟩ := hp_20
    have E := bnd_e E hp_20
    have hzi_20 := z_int hz_20
    exact W.zret (ty := .boolean) (v := rn_20) hx hb hr (z_nar hz_20) (fun t ht hW => ⟨⟨_, wn_20, rfl, ⟨E.symm, hz_20, hI_20, by omega⟩, by beta_reduce; rw [ht]; exact hP⟩, hS.F ht⟩) hS.2.2 dX7_comes_71
  have E := E.trans (if_neg c_19)
  have fc_19 := i_ne c_19
  rw [q_119] at fc_19
  by_cases c_21 : (w 13 (a1.toNatClampNeg)) = 121
  · have E := E.trans (if_pos c_21)
    refine lv_lookup (off := 50) (tgt := 60) hx hb dX7_comes_10 (by decide) (by rw [c_21]; decide) (by decide) ?_
    have fc_21 := i_eq c_21
    rw [q_121] at fc_21
    refine lv_aload_n hx hb dX7_comes_60 rfl (lv_at hl 1 rfl) ?_
    refine lv_iload_n hx hb dX7_comes_61 rfl (lv_at hl 0 rfl) ?_
    have := q_4
    have := i_mull (a := 4) (b := a1) (n := 4) q_4 (by omega) (by omega)
    refine va_calli (va_runV (As := [.int (4 * a1)]) (rest := []) ⟨hx, hb, hml, hown, hts⟩ (kX7_comesLayer l D cI ad w (4 * a1) hd hI (by omega) (by omega) (by omega)) (cwV 1 hts gX7_comes_X7_comesLayer rfl rfl rfl mdX7_comesLayer ⟨Nat.le_of_ble_eq_true rfl, Nat.le_of_ble_eq_true rfl⟩) (r7_pre hK hP) rfl rfl hl.1 rfl (lv_room (Nat.le_of_ble_eq_true rfl)) dX7_comes_62 ⟨Nat.zero_le _, Nat.zero_le _⟩) hS (fun _ _ h => h) (fun _ h => h) (fun rn_22 wn_22 t H locs ht hvm hp_22 hB hz hk hS => ?_)
    have hP : va_P D vwCl (RM cI ad wn_22) H := ht ▸ hB
    obtain ⟨hp_22, hz_22, hI_22, hq0_22⟩ := hp_22
    have E := bnd_e E hp_22
    have hzi_22 := z_int hz_22
    exact W.zret (ty := .boolean) (v := rn_22) hx hb hr (z_nar hz_22) (fun t ht hW => ⟨⟨_, wn_22, rfl, ⟨E.symm, hz_22, hI_22, by omega⟩, by beta_reduce; rw [ht]; exact hP⟩, hS.F ht⟩) hS.2.2 dX7_comes_65
  have E := E.trans (if_neg c_21)
  have fc_21 := i_ne c_21
  rw [q_121] at fc_21
  refine lv_lookup (off := 156) (tgt := 166) hx hb dX7_comes_10 (by decide) ((lv_osw c_2 rfl).trans ((lv_osw c_5 rfl).trans ((lv_osw c_14 rfl).trans ((lv_osw c_19 rfl).trans ((lv_osw c_21 rfl).trans rfl))))) (by decide) ?_
  refine lv_aload_n hx hb dX7_comes_166 rfl (lv_at hl 1 rfl) ?_
  refine g7_layers hx hb hts hin hown hK hP (hts (.fieldLink RX7 67 "LoadedForTheLaneModel" "layers" "I") (by decide +kernel)) dX7_comes_167 ?_
  have f_23 := R7I_layers hI
  refine lv_if_ne (tgt := 175) hx hb dX7_comes_170 (by decide) (fun c_24 => ?_) (fun c_24 => ?_)
  · have E := E.trans (if_neg c_24)
    have fc_24 := i_ne c_24
    rw [q_0] at fc_24
    refine lv_aload_n hx hb dX7_comes_175 rfl (lv_at hl 1 rfl) ?_
    refine lv_dup hx hb dX7_comes_176 rfl ?_
    refine g7_layers hx hb hts hin hown hK hP (hts (.fieldLink RX7 67 "LoadedForTheLaneModel" "layers" "I") (by decide +kernel)) dX7_comes_177 ?_
    have f_25 := R7I_layers hI
    refine lv_iconst (v := 1) hx hb dX7_comes_180 (by decide) ?_
    refine lv_isub hx hb dX7_comes_181 ?_
    refine p7_layers hx hb hts hin hown hK hP hd hS (hts (.fieldLink RX7 67 "LoadedForTheLaneModel" "layers" "I") (by decide +kernel)) dX7_comes_182 (fun H locs hP hS => ?_)
    obtain ⟨wn_26, hwn_26⟩ : ∃ x, x = st w 11 0 ((w 11 0) - 1) := ⟨_, rfl⟩
    rw [← hwn_26] at hP
    have E := bns_e E hwn_26
    have ft26_layers : (wn_26 11 0).toInt = ((w 11 0) - 1).toInt := by rw [hwn_26]; rfl
    have := q_1
    have := i_sub (a := w 11 0) (b := 1) (by omega) (by omega)
    have := q_1
    have := i_sub (a := w 11 0) (b := 1) (by omega) (by omega)
    have hI_26 : R7I wn_26 := by rw [hwn_26]; exact R7I_put_layers hI (by omega) (by omega)
    refine lv_iconst (v := 1) hx hb dX7_comes_185 (by decide) ?_
    have := q_1
    exact W.zret (ty := .boolean) (v := 1) hx hb hr (z_nar (Or.inr rfl)) (fun t ht hW => ⟨⟨_, wn_26, rfl, ⟨E.symm, (Or.inr rfl), hI_26, by omega⟩, by beta_reduce; rw [ht]; exact hP⟩, hS.F ht⟩) hS.2.2 dX7_comes_186
  · have E := E.trans (if_pos c_24)
    have fc_24 := i_eq c_24
    rw [q_0] at fc_24
    refine lv_iconst (v := 0) hx hb dX7_comes_173 (by decide) ?_
    have := q_0
    exact W.zret (ty := .boolean) (v := 0) hx hb hr (z_nar (Or.inl rfl)) (fun t ht hW => ⟨⟨_, w, rfl, ⟨E.symm, (Or.inl rfl), hI, by omega⟩, by beta_reduce; rw [ht]; exact hP⟩, hS.F ht⟩) hS.2.2 dX7_comes_174
abbrev rmX7_passes : Room := { frames := 0, cells := 0, slots := 0, locals := 0 }
set_option maxHeartbeats 4000000 in
set_option maxRecDepth 100000 in
theorem kX7_passes_setting (l : Launch) (D : va_G) (cI : ClassId) (ad : Nat → Nat) (w : Nat → Nat → Int32) (hd : RD ad) (h1 : 0 ≤ (w 22 0).toInt) (h2 : (w 22 0).toInt ≤ 246) : Met l yX7_passes wsX7_passes rmX7_passes (va_Pc [Value.ref (ad 0), Value.ref (ad 2)] (fun U => va_P D vwCl (RM cI ad w) U.heap ∧ va_K D vwCl [(cI, .int)] U)) (va_Qv (fun u => u = sX7_passes_setting w ∧ ((u 22 0).toInt = (w 22 0).toInt + 4)) (fun u t => va_P D vwCl (RM cI ad u) t.heap) (RA ad)) 0 0 (RA ad) := by
  refine Met.ofW (cc := cX7_passes) (maxL := 3) (ret := none) (by decide) rfl ?_
  intro p e s m args below meth c s₁ B hml hv
  obtain ⟨rfl, hP, hK⟩ := hv
  have hx := B.exec
  have hb := B.bytes
  have hr := B.returns
  have hts := atoms_spec (ws := wsX7_passes) B.pre
  have hown : s.vm.findClass RX7 = some m.cls := findClass_of_methodNamed B.named
  have hlocks := B.notSynchronized
  have hin : ∀ q ∈ wsX70, q ∈ wsX7_passes := by decide +kernel
  have hl := lv_entry ([.ref (ad 0), .ref (ad 2)]) (n := 3) (Nat.le_of_ble_eq_true rfl)
  rw [lg_entry_eq]
  generalize (lg_sl ([.ref (ad 0), .ref (ad 2)]) ++ List.replicate (3 - (lg_sl ([.ref (ad 0), .ref (ad 2)])).length) Slot.unset).toArray = ls at hl ⊢
  have hl : lv_has ls 3 [(0, .ref (ad 0)), (1, .ref (ad 2))] := hl
  suffices hgo : ∀ (H : Heap) (locs : List Loc), va_P D vwCl (RM cI ad w) H → va_S (RA ad) s.heap H locs → W p l e (headSpec wsX7_passes rmX7_passes).room s m [Value.ref (ad 0), Value.ref (ad 2)].toArray below meth c H locs 0 0 (MQ below (va_Qv (fun u => u = sX7_passes_setting w ∧ ((u 22 0).toInt = (w 22 0).toInt + 4)) (fun u t => va_P D vwCl (RM cI ad u) t.heap) (RA ad)) [Value.ref (ad 0), Value.ref (ad 2)].toArray s 0 0 (RA ad)) (F0 m 0 ls []) from hgo s.heap [] hP va_S.rf
  intro H locs hP hS
  have E := sX7_passes_setting.eq_1 w
  refine lv_iconst (v := 0) hx hb dX7_passes_0 (by decide) ?_
  refine lv_istore_n (lv' := [(2, .int 0), (0, .ref (ad 0)), (1, .ref (ad 2))]) hx hb dX7_passes_1 rfl hl (by decide) rfl (fun ls hl => ?_)
  have L_2 : ∀ (n_2 : Nat) (x2_2 : Int32) (w_2 : Nat → Nat → Int32) (H : Heap) (locs : List Loc) (ls : Array Slot), (0 ≤ x2_2.toInt ∧ x2_2.toInt ≤ 4 ∧ (w_2 22 0).toInt = (w 22 0).toInt + x2_2.toInt) → (4 - x2_2.toInt < (n_2 : Int)) → va_P D vwCl (RM cI ad w_2) H → va_S (RA ad) s.heap H locs → lv_has ls 3 [(2, .int x2_2), (0, .ref (ad 0)), (1, .ref (ad 2))] → sX7_passes_setting w = sX7_passes_setting_2 n_2 x2_2 w_2 → W p l e (headSpec wsX7_passes rmX7_passes).room s m [Value.ref (ad 0), Value.ref (ad 2)].toArray below meth c H locs 0 0 (MQ below (va_Qv (fun u => u = sX7_passes_setting w ∧ ((u 22 0).toInt = (w 22 0).toInt + 4)) (fun u t => va_P D vwCl (RM cI ad u) t.heap) (RA ad)) [Value.ref (ad 0), Value.ref (ad 2)].toArray s 0 0 (RA ad)) (F0 m 2 ls []) := by
    intro n_2
    induction n_2 with
    | zero =>
      intro x2_2 w_2 H locs ls hinv hm
      obtain ⟨v0_2, v1_2, v2_2⟩ := hinv
      exact absurd hm (by omega)
    | succ n_2 ih_2 =>
      intro x2_2 w_2 H locs ls hinv hm_2 hP hS hl E
      obtain ⟨v0_2, v1_2, v2_2⟩ := hinv
      have E := E.trans (sX7_passes_setting_2.eq_2 ..)
      refine lv_iload_n hx hb dX7_passes_2 rfl (lv_at hl 0 rfl) ?_
      refine lv_aload_n hx hb dX7_passes_3 rfl (lv_at hl 2 rfl) ?_
      refine n7_setting (v := 4) hx hb hK hP (by decide) dX7_passes_4 ?_
      refine lv_icmp_ge (tgt := 58) hx hb dX7_passes_5 (by decide) (fun c_1 => ?_) (fun c_1 => ?_)
      · have E := E.trans (if_pos c_1)
        have fc_1 := i_le c_1
        rw [q_4] at fc_1
        exact W.vret hx hb hr (fun t ht hW => ⟨⟨w_2, rfl, ⟨E.symm, by omega⟩, by beta_reduce; rw [ht]; exact hP⟩, hS.F ht⟩) hS.2.2 dX7_passes_58
      · have E := E.trans (if_neg c_1)
        have fc_1 := i_nle c_1
        rw [q_4] at fc_1
        refine lv_aload_n hx hb dX7_passes_8 rfl (lv_at hl 1 rfl) ?_
        refine g7_isKeeping hx hb hts hin hown hK hP (hts (.fieldLink RX7 136 "LoadedForTheLaneModel" "isKeeping" "Z") (by decide +kernel)) dX7_passes_9 ?_
        refine lv_if_eq (tgt := 30) hx hb dX7_passes_12 (by decide) (fun c_2 => ?_) (fun c_2 => ?_)
        · have E := E.trans (if_pos c_2)
          have fc_2 := i_eq c_2
          rw [q_0] at fc_2
          refine lv_aload_n hx hb dX7_passes_30 rfl (lv_at hl 2 rfl) ?_
          refine lv_iload_n hx hb dX7_passes_31 rfl (lv_at hl 0 rfl) ?_
          refine lv_aload_n hx hb dX7_passes_32 rfl (lv_at hl 1 rfl) ?_
          refine g7_kept hx hb hts hin hown hK hP (hts (.fieldLink RX7 55 "LoadedForTheLaneModel" "kept" "[I") (by decide +kernel)) dX7_passes_33 ?_
          refine lv_aload_n hx hb dX7_passes_36 rfl (lv_at hl 1 rfl) ?_
          refine g7_cursor hx hb hts hin hown hK hP (hts (.fieldLink RX7 140 "LoadedForTheLaneModel" "cursor" "I") (by decide +kernel)) dX7_passes_37 ?_
          have ix_3 : vp_in (w_2 22 0) 250 := ix_of (by omega) (by omega)
          refine l7_kept (j := (w_2 22 0).toNatClampNeg) hx hb hK hP ix_3 rfl dX7_passes_40 ?_
          have ix_4 : vp_in x2_2 4 := ix_of (by omega) (by omega)
          refine a7_setting (j := x2_2.toNatClampNeg) hx hb hK hP hd hS ix_4 rfl dX7_passes_41 (fun H locs hP hS => ?_)
          obtain ⟨wn_4, hwn_4⟩ : ∃ x, x = st w_2 1 (x2_2.toNatClampNeg) (w_2 19 ((w_2 22 0).toNatClampNeg)) := ⟨_, rfl⟩
          rw [← hwn_4] at hP
          have E := bns_e E hwn_4
          have ft4_cursor : (wn_4 22 0).toInt = (w_2 22 0).toInt := by rw [hwn_4]; rfl
          have fv_4 : (wn_4 1 (x2_2.toNatClampNeg)).toInt = (w_2 19 ((w_2 22 0).toNatClampNeg)).toInt := by rw [hwn_4, st_rd]
          refine lv_aload_n hx hb dX7_passes_42 rfl (lv_at hl 1 rfl) ?_
          refine lv_dup hx hb dX7_passes_43 rfl ?_
          refine g7_cursor hx hb hts hin hown hK hP (hts (.fieldLink RX7 140 "LoadedForTheLaneModel" "cursor" "I") (by decide +kernel)) dX7_passes_44 ?_
          refine lv_iconst (v := 1) hx hb dX7_passes_47 (by decide) ?_
          refine lv_iadd hx hb dX7_passes_48 ?_
          refine p7_cursor hx hb hts hin hown hK hP hd hS (hts (.fieldLink RX7 140 "LoadedForTheLaneModel" "cursor" "I") (by decide +kernel)) dX7_passes_49 (fun H locs hP hS => ?_)
          obtain ⟨wn_5, hwn_5⟩ : ∃ x, x = st wn_4 22 0 ((wn_4 22 0) + 1) := ⟨_, rfl⟩
          rw [← hwn_5] at hP
          have E := bns_e E hwn_5
          have ft5_cursor : (wn_5 22 0).toInt = ((wn_4 22 0) + 1).toInt := by rw [hwn_5]; rfl
          have := q_1
          have := i_add (a := wn_4 22 0) (b := 1) (by omega) (by omega)
          refine lv_iinc (v := x2_2 + 1) (lv' := [(2, .int (x2_2 + 1)), (0, .ref (ad 0)), (1, .ref (ad 2))]) hx hb dX7_passes_52 hl (k := 0) rfl rfl (by decide) rfl (fun ls hl => ?_)
          refine lv_goto (tgt := 2) hx hb dX7_passes_55 (by decide) ?_
          have := q_1
          try have := i_add (a := x2_2) (b := 1) (by omega) (by omega)
          exact ih_2 (x2_2 + 1) wn_5 H locs ls ⟨by omega, by omega, by omega⟩ (by omega) hP hS (lv_sub hl [0, 1, 2] rfl) E
        · have E := E.trans (if_neg c_2)
          have fc_2 := i_ne c_2
          rw [q_0] at fc_2
          refine lv_aload_n hx hb dX7_passes_15 rfl (lv_at hl 1 rfl) ?_
          refine g7_kept hx hb hts hin hown hK hP (hts (.fieldLink RX7 55 "LoadedForTheLaneModel" "kept" "[I") (by decide +kernel)) dX7_passes_16 ?_
          refine lv_aload_n hx hb dX7_passes_19 rfl (lv_at hl 1 rfl) ?_
          refine g7_cursor hx hb hts hin hown hK hP (hts (.fieldLink RX7 140 "LoadedForTheLaneModel" "cursor" "I") (by decide +kernel)) dX7_passes_20 ?_
          refine lv_aload_n hx hb dX7_passes_23 rfl (lv_at hl 2 rfl) ?_
          refine lv_iload_n hx hb dX7_passes_24 rfl (lv_at hl 0 rfl) ?_
          have ix_6 : vp_in x2_2 4 := ix_of (by omega) (by omega)
          refine l7_setting (j := x2_2.toNatClampNeg) hx hb hK hP ix_6 rfl dX7_passes_25 ?_
          have ix_7 : vp_in (w_2 22 0) 250 := ix_of (by omega) (by omega)
          refine a7_kept (j := (w_2 22 0).toNatClampNeg) hx hb hK hP hd hS ix_7 rfl dX7_passes_26 (fun H locs hP hS => ?_)
          obtain ⟨wn_7, hwn_7⟩ : ∃ x, x = st w_2 19 ((w_2 22 0).toNatClampNeg) (w_2 1 (x2_2.toNatClampNeg)) := ⟨_, rfl⟩
          rw [← hwn_7] at hP
          have E := bns_e E hwn_7
          have ft7_cursor : (wn_7 22 0).toInt = (w_2 22 0).toInt := by rw [hwn_7]; rfl
          have fv_7 : (wn_7 19 ((w_2 22 0).toNatClampNeg)).toInt = (w_2 1 (x2_2.toNatClampNeg)).toInt := by rw [hwn_7, st_rd]
          refine lv_goto (tgt := 42) hx hb dX7_passes_27 (by decide) ?_
          refine lv_aload_n hx hb dX7_passes_42 rfl (lv_at hl 1 rfl) ?_
          refine lv_dup hx hb dX7_passes_43 rfl ?_
          refine g7_cursor hx hb hts hin hown hK hP (hts (.fieldLink RX7 140 "LoadedForTheLaneModel" "cursor" "I") (by decide +kernel)) dX7_passes_44 ?_
          refine lv_iconst (v := 1) hx hb dX7_passes_47 (by decide) ?_
          refine lv_iadd hx hb dX7_passes_48 ?_
          refine p7_cursor hx hb hts hin hown hK hP hd hS (hts (.fieldLink RX7 140 "LoadedForTheLaneModel" "cursor" "I") (by decide +kernel)) dX7_passes_49 (fun H locs hP hS => ?_)
          obtain ⟨wn_8, hwn_8⟩ : ∃ x, x = st wn_7 22 0 ((wn_7 22 0) + 1) := ⟨_, rfl⟩
          rw [← hwn_8] at hP
          have E := bns_e E hwn_8
          have ft8_cursor : (wn_8 22 0).toInt = ((wn_7 22 0) + 1).toInt := by rw [hwn_8]; rfl
          have := q_1
          have := i_add (a := wn_7 22 0) (b := 1) (by omega) (by omega)
          refine lv_iinc (v := x2_2 + 1) (lv' := [(2, .int (x2_2 + 1)), (0, .ref (ad 0)), (1, .ref (ad 2))]) hx hb dX7_passes_52 hl (k := 0) rfl rfl (by decide) rfl (fun ls hl => ?_)
          refine lv_goto (tgt := 2) hx hb dX7_passes_55 (by decide) ?_
          have := q_1
          try have := i_add (a := x2_2) (b := 1) (by omega) (by omega)
          exact ih_2 (x2_2 + 1) wn_8 H locs ls ⟨by omega, by omega, by omega⟩ (by omega) hP hS (lv_sub hl [0, 1, 2] rfl) E
  have := q_0
  exact L_2 5 0 w H locs ls ⟨by omega, by omega, by omega⟩ (by omega) hP hS (lv_sub hl [0, 1, 2] rfl) E

set_option maxHeartbeats 4000000 in
set_option maxRecDepth 100000 in
theorem kX7_passes_kind (l : Launch) (D : va_G) (cI : ClassId) (ad : Nat → Nat) (w : Nat → Nat → Int32) (hd : RD ad) (h1 : 0 ≤ (w 22 0).toInt) (h2 : (w 22 0).toInt ≤ 238) : Met l yX7_passes wsX7_passes rmX7_passes (va_Pc [Value.ref (ad 0), Value.ref (ad 3)] (fun U => va_P D vwCl (RM cI ad w) U.heap ∧ va_K D vwCl [(cI, .int)] U)) (va_Qv (fun u => u = sX7_passes_kind w ∧ ((u 22 0).toInt = (w 22 0).toInt + 12)) (fun u t => va_P D vwCl (RM cI ad u) t.heap) (RA ad)) 0 0 (RA ad) := by
  refine Met.ofW (cc := cX7_passes) (maxL := 3) (ret := none) (by decide) rfl ?_
  intro p e s m args below meth c s₁ B hml hv
  obtain ⟨rfl, hP, hK⟩ := hv
  have hx := B.exec
  have hb := B.bytes
  have hr := B.returns
  have hts := atoms_spec (ws := wsX7_passes) B.pre
  have hown : s.vm.findClass RX7 = some m.cls := findClass_of_methodNamed B.named
  have hlocks := B.notSynchronized
  have hin : ∀ q ∈ wsX70, q ∈ wsX7_passes := by decide +kernel
  have hl := lv_entry ([.ref (ad 0), .ref (ad 3)]) (n := 3) (Nat.le_of_ble_eq_true rfl)
  rw [lg_entry_eq]
  generalize (lg_sl ([.ref (ad 0), .ref (ad 3)]) ++ List.replicate (3 - (lg_sl ([.ref (ad 0), .ref (ad 3)])).length) Slot.unset).toArray = ls at hl ⊢
  have hl : lv_has ls 3 [(0, .ref (ad 0)), (1, .ref (ad 3))] := hl
  suffices hgo : ∀ (H : Heap) (locs : List Loc), va_P D vwCl (RM cI ad w) H → va_S (RA ad) s.heap H locs → W p l e (headSpec wsX7_passes rmX7_passes).room s m [Value.ref (ad 0), Value.ref (ad 3)].toArray below meth c H locs 0 0 (MQ below (va_Qv (fun u => u = sX7_passes_kind w ∧ ((u 22 0).toInt = (w 22 0).toInt + 12)) (fun u t => va_P D vwCl (RM cI ad u) t.heap) (RA ad)) [Value.ref (ad 0), Value.ref (ad 3)].toArray s 0 0 (RA ad)) (F0 m 0 ls []) from hgo s.heap [] hP va_S.rf
  intro H locs hP hS
  have E := sX7_passes_kind.eq_1 w
  refine lv_iconst (v := 0) hx hb dX7_passes_0 (by decide) ?_
  refine lv_istore_n (lv' := [(2, .int 0), (0, .ref (ad 0)), (1, .ref (ad 3))]) hx hb dX7_passes_1 rfl hl (by decide) rfl (fun ls hl => ?_)
  have L_2 : ∀ (n_2 : Nat) (x2_2 : Int32) (w_2 : Nat → Nat → Int32) (H : Heap) (locs : List Loc) (ls : Array Slot), (0 ≤ x2_2.toInt ∧ x2_2.toInt ≤ 12 ∧ (w_2 22 0).toInt = (w 22 0).toInt + x2_2.toInt) → (12 - x2_2.toInt < (n_2 : Int)) → va_P D vwCl (RM cI ad w_2) H → va_S (RA ad) s.heap H locs → lv_has ls 3 [(2, .int x2_2), (0, .ref (ad 0)), (1, .ref (ad 3))] → sX7_passes_kind w = sX7_passes_kind_2 n_2 x2_2 w_2 → W p l e (headSpec wsX7_passes rmX7_passes).room s m [Value.ref (ad 0), Value.ref (ad 3)].toArray below meth c H locs 0 0 (MQ below (va_Qv (fun u => u = sX7_passes_kind w ∧ ((u 22 0).toInt = (w 22 0).toInt + 12)) (fun u t => va_P D vwCl (RM cI ad u) t.heap) (RA ad)) [Value.ref (ad 0), Value.ref (ad 3)].toArray s 0 0 (RA ad)) (F0 m 2 ls []) := by
    intro n_2
    induction n_2 with
    | zero =>
      intro x2_2 w_2 H locs ls hinv hm
      obtain ⟨v0_2, v1_2, v2_2⟩ := hinv
      exact absurd hm (by omega)
    | succ n_2 ih_2 =>
      intro x2_2 w_2 H locs ls hinv hm_2 hP hS hl E
      obtain ⟨v0_2, v1_2, v2_2⟩ := hinv
      have E := E.trans (sX7_passes_kind_2.eq_2 ..)
      refine lv_iload_n hx hb dX7_passes_2 rfl (lv_at hl 0 rfl) ?_
      refine lv_aload_n hx hb dX7_passes_3 rfl (lv_at hl 2 rfl) ?_
      refine n7_kind (v := 12) hx hb hK hP (by decide) dX7_passes_4 ?_
      refine lv_icmp_ge (tgt := 58) hx hb dX7_passes_5 (by decide) (fun c_1 => ?_) (fun c_1 => ?_)
      · have E := E.trans (if_pos c_1)
        have fc_1 := i_le c_1
        rw [q_12] at fc_1
        exact W.vret hx hb hr (fun t ht hW => ⟨⟨w_2, rfl, ⟨E.symm, by omega⟩, by beta_reduce; rw [ht]; exact hP⟩, hS.F ht⟩) hS.2.2 dX7_passes_58
      · have E := E.trans (if_neg c_1)
        have fc_1 := i_nle c_1
        rw [q_12] at fc_1
        refine lv_aload_n hx hb dX7_passes_8 rfl (lv_at hl 1 rfl) ?_
        refine g7_isKeeping hx hb hts hin hown hK hP (hts (.fieldLink RX7 136 "LoadedForTheLaneModel" "isKeeping" "Z") (by decide +kernel)) dX7_passes_9 ?_
        refine lv_if_eq (tgt := 30) hx hb dX7_passes_12 (by decide) (fun c_2 => ?_) (fun c_2 => ?_)
        · have E := E.trans (if_pos c_2)
          have fc_2 := i_eq c_2
          rw [q_0] at fc_2
          refine lv_aload_n hx hb dX7_passes_30 rfl (lv_at hl 2 rfl) ?_
          refine lv_iload_n hx hb dX7_passes_31 rfl (lv_at hl 0 rfl) ?_
          refine lv_aload_n hx hb dX7_passes_32 rfl (lv_at hl 1 rfl) ?_
          refine g7_kept hx hb hts hin hown hK hP (hts (.fieldLink RX7 55 "LoadedForTheLaneModel" "kept" "[I") (by decide +kernel)) dX7_passes_33 ?_
          refine lv_aload_n hx hb dX7_passes_36 rfl (lv_at hl 1 rfl) ?_
          refine g7_cursor hx hb hts hin hown hK hP (hts (.fieldLink RX7 140 "LoadedForTheLaneModel" "cursor" "I") (by decide +kernel)) dX7_passes_37 ?_
          have ix_3 : vp_in (w_2 22 0) 250 := ix_of (by omega) (by omega)
          refine l7_kept (j := (w_2 22 0).toNatClampNeg) hx hb hK hP ix_3 rfl dX7_passes_40 ?_
          have ix_4 : vp_in x2_2 12 := ix_of (by omega) (by omega)
          refine a7_kind (j := x2_2.toNatClampNeg) hx hb hK hP hd hS ix_4 rfl dX7_passes_41 (fun H locs hP hS => ?_)
          obtain ⟨wn_4, hwn_4⟩ : ∃ x, x = st w_2 2 (x2_2.toNatClampNeg) (w_2 19 ((w_2 22 0).toNatClampNeg)) := ⟨_, rfl⟩
          rw [← hwn_4] at hP
          have E := bns_e E hwn_4
          have ft4_cursor : (wn_4 22 0).toInt = (w_2 22 0).toInt := by rw [hwn_4]; rfl
          have fv_4 : (wn_4 2 (x2_2.toNatClampNeg)).toInt = (w_2 19 ((w_2 22 0).toNatClampNeg)).toInt := by rw [hwn_4, st_rd]
          refine lv_aload_n hx hb dX7_passes_42 rfl (lv_at hl 1 rfl) ?_
          refine lv_dup hx hb dX7_passes_43 rfl ?_
          refine g7_cursor hx hb hts hin hown hK hP (hts (.fieldLink RX7 140 "LoadedForTheLaneModel" "cursor" "I") (by decide +kernel)) dX7_passes_44 ?_
          refine lv_iconst (v := 1) hx hb dX7_passes_47 (by decide) ?_
          refine lv_iadd hx hb dX7_passes_48 ?_
          refine p7_cursor hx hb hts hin hown hK hP hd hS (hts (.fieldLink RX7 140 "LoadedForTheLaneModel" "cursor" "I") (by decide +kernel)) dX7_passes_49 (fun H locs hP hS => ?_)
          obtain ⟨wn_5, hwn_5⟩ : ∃ x, x = st wn_4 22 0 ((wn_4 22 0) + 1) := ⟨_, rfl⟩
          rw [← hwn_5] at hP
          have E := bns_e E hwn_5
          have ft5_cursor : (wn_5 22 0).toInt = ((wn_4 22 0) + 1).toInt := by rw [hwn_5]; rfl
          have := q_1
          have := i_add (a := wn_4 22 0) (b := 1) (by omega) (by omega)
          refine lv_iinc (v := x2_2 + 1) (lv' := [(2, .int (x2_2 + 1)), (0, .ref (ad 0)), (1, .ref (ad 3))]) hx hb dX7_passes_52 hl (k := 0) rfl rfl (by decide) rfl (fun ls hl => ?_)
          refine lv_goto (tgt := 2) hx hb dX7_passes_55 (by decide) ?_
          have := q_1
          try have := i_add (a := x2_2) (b := 1) (by omega) (by omega)
          exact ih_2 (x2_2 + 1) wn_5 H locs ls ⟨by omega, by omega, by omega⟩ (by omega) hP hS (lv_sub hl [0, 1, 2] rfl) E
        · have E := E.trans (if_neg c_2)
          have fc_2 := i_ne c_2
          rw [q_0] at fc_2
          refine lv_aload_n hx hb dX7_passes_15 rfl (lv_at hl 1 rfl) ?_
          refine g7_kept hx hb hts hin hown hK hP (hts (.fieldLink RX7 55 "LoadedForTheLaneModel" "kept" "[I") (by decide +kernel)) dX7_passes_16 ?_
          refine lv_aload_n hx hb dX7_passes_19 rfl (lv_at hl 1 rfl) ?_
          refine g7_cursor hx hb hts hin hown hK hP (hts (.fieldLink RX7 140 "LoadedForTheLaneModel" "cursor" "I") (by decide +kernel)) dX7_passes_20 ?_
          refine lv_aload_n hx hb dX7_passes_23 rfl (lv_at hl 2 rfl) ?_
          refine lv_iload_n hx hb dX7_passes_24 rfl (lv_at hl 0 rfl) ?_
          have ix_6 : vp_in x2_2 12 := ix_of (by omega) (by omega)
          refine l7_kind (j := x2_2.toNatClampNeg) hx hb hK hP ix_6 rfl dX7_passes_25 ?_
          have ix_7 : vp_in (w_2 22 0) 250 := ix_of (by omega) (by omega)
          refine a7_kept (j := (w_2 22 0).toNatClampNeg) hx hb hK hP hd hS ix_7 rfl dX7_passes_26 (fun H locs hP hS => ?_)
          obtain ⟨wn_7, hwn_7⟩ : ∃ x, x = st w_2 19 ((w_2 22 0).toNatClampNeg) (w_2 2 (x2_2.toNatClampNeg)) := ⟨_, rfl⟩
          rw [← hwn_7] at hP
          have E := bns_e E hwn_7
          have ft7_cursor : (wn_7 22 0).toInt = (w_2 22 0).toInt := by rw [hwn_7]; rfl
          have fv_7 : (wn_7 19 ((w_2 22 0).toNatClampNeg)).toInt = (w_2 2 (x2_2.toNatClampNeg)).toInt := by rw [hwn_7, st_rd]
          refine lv_goto (tgt := 42) hx hb dX7_passes_27 (by decide) ?_
          refine lv_aload_n hx hb dX7_passes_42 rfl (lv_at hl 1 rfl) ?_
          refine lv_dup hx hb dX7_passes_43 rfl ?_
          refine g7_cursor hx hb hts hin hown hK hP (hts (.fieldLink RX7 140 "LoadedForTheLaneModel" "cursor" "I") (by decide +kernel)) dX7_passes_44 ?_
          refine lv_iconst (v := 1) hx hb dX7_passes_47 (by decide) ?_
          refine lv_iadd hx hb dX7_passes_48 ?_
          refine p7_cursor hx hb hts hin hown hK hP hd hS (hts (.fieldLink RX7 140 "LoadedForTheLaneModel" "cursor" "I") (by decide +kernel)) dX7_passes_49 (fun H locs hP hS => ?_)
          obtain ⟨wn_8, hwn_8⟩ : ∃ x, x = st wn_7 22 0 ((wn_7 22 0) + 1) := ⟨_, rfl⟩
          rw [← hwn_8] at hP
          have E := bns_e E hwn_8
          have ft8_cursor : (wn_8 22 0).toInt = ((wn_7 22 0) + 1).toInt := by rw [hwn_8]; rfl
          have := q_1
          have := i_add (a := wn_7 22 0) (b := 1) (by omega) (by omega)
          refine lv_iinc (v := x2_2 + 1) (lv' := [(2, .int (x2_2 + 1)), (0, .ref (ad 0)), (1, .ref (ad 3))]) hx hb dX7_passes_52 hl (k := 0) rfl rfl (by decide) rfl (fun ls hl => ?_)
          refine lv_goto (tgt := 2) hx hb dX7_passes_55 (by decide) ?_
          have := q_1
          try have := i_add (a := x2_2) (b := 1) (by omega) (by omega)
          exact ih_2 (x2_2 + 1) wn_8 H locs ls ⟨by omega, by omega, by omega⟩ (by omega) hP hS (lv_sub hl [0, 1, 2] rfl) E
  have := q_0
  exact L_2 13 0 w H locs ls ⟨by omega, by omega, by omega⟩ (by omega) hP hS (lv_sub hl [0, 1, 2] rfl) E

set_option maxHeartbeats 4000000 in
set_option maxRecDepth 100000 in
theorem kX7_passes_sheaves (l : Launch) (D : va_G) (cI : ClassId) (ad : Nat → Nat) (w : Nat → Nat → Int32) (hd : RD ad) (h1 : 0 ≤ (w 22 0).toInt) (h2 : (w 22 0).toInt ≤ 238) : Met l yX7_passes wsX7_passes rmX7_passes (va_Pc [Value.ref (ad 0), Value.ref (ad 4)] (fun U => va_P D vwCl (RM cI ad w) U.heap ∧ va_K D vwCl [(cI, .int)] U)) (va_Qv (fun u => u = sX7_passes_sheaves w ∧ ((u 22 0).toInt = (w 22 0).toInt + 12)) (fun u t => va_P D vwCl (RM cI ad u) t.heap) (RA ad)) 0 0 (RA ad) := by
  refine Met.ofW (cc := cX7_passes) (maxL := 3) (ret := none) (by decide) rfl ?_
  intro p e s m args below meth c s₁ B hml hv
  obtain ⟨rfl, hP, hK⟩ := hv
  have hx := B.exec
  have hb := B.bytes
  have hr := B.returns
  have hts := atoms_spec (ws := wsX7_passes) B.pre
  have hown : s.vm.findClass RX7 = some m.cls := findClass_of_methodNamed B.named
  have hlocks := B.notSynchronized
  have hin : ∀ q ∈ wsX70, q ∈ wsX7_passes := by decide +kernel
  have hl := lv_entry ([.ref (ad 0), .ref (ad 4)]) (n := 3) (Nat.le_of_ble_eq_true rfl)
  rw [lg_entry_eq]
  generalize (lg_sl ([.ref (ad 0), .ref (ad 4)]) ++ List.replicate (3 - (lg_sl ([.ref (ad 0), .ref (ad 4)])).length) Slot.unset).toArray = ls at hl ⊢
  have hl : lv_has ls 3 [(0, .ref (ad 0)), (1, .ref (ad 4))] := hl
  suffices hgo : ∀ (H : Heap) (locs : List Loc), va_P D vwCl (RM cI ad w) H → va_S (RA ad) s.heap H locs → W p l e (headSpec wsX7_passes rmX7_passes).room s m [Value.ref (ad 0), Value.ref (ad 4)].toArray below meth c H locs 0 0 (MQ below (va_Qv (fun u => u = sX7_passes_sheaves w ∧ ((u 22 0).toInt = (w 22 0).toInt + 12)) (fun u t => va_P D vwCl (RM cI ad u) t.heap) (RA ad)) [Value.ref (ad 0), Value.ref (ad 4)].toArray s 0 0 (RA ad)) (F0 m 0 ls []) from hgo s.heap [] hP va_S.rf
  intro H locs hP hS
  have E := sX7_passes_sheaves.eq_1 w
  refine lv_iconst (v := 0) hx hb dX7_passes_0 (by decide) ?_
  refine lv_istore_n (lv' := [(2, .int 0), (0, .ref (ad 0)), (1, .ref (ad 4))]) hx hb dX7_passes_1 rfl hl (by decide) rfl (fun ls hl => ?_)
  have L_2 : ∀ (n_2 : Nat) (x2_2 : Int32) (w_2 : Nat → Nat → Int32) (H : Heap) (locs : List Loc) (ls : Array Slot), (0 ≤ x2_2.toInt ∧ x2_2.toInt ≤ 12 ∧ (w_2 22 0).toInt = (w 22 0).toInt + x2_2.toInt) → (12 - x2_2.toInt < (n_2 : Int)) → va_P D vwCl (RM cI ad w_2) H → va_S (RA ad) s.heap H locs → lv_has ls 3 [(2, .int x2_2), (0, .ref (ad 0)), (1, .ref (ad 4))] → sX7_passes_sheaves w = sX7_passes_sheaves_2 n_2 x2_2 w_2 → W p l e (headSpec wsX7_passes rmX7_passes).room s m [Value.ref (ad 0), Value.ref (ad 4)].toArray below meth c H locs 0 0 (MQ below (va_Qv (fun u => u = sX7_passes_sheaves w ∧ ((u 22 0).toInt = (w 22 0).toInt + 12)) (fun u t => va_P D vwCl (RM cI ad u) t.heap) (RA ad)) [Value.ref (ad 0), Value.ref (ad 4)].toArray s 0 0 (RA ad)) (F0 m 2 ls []) := by
    intro n_2
    induction n_2 with
    | zero =>
      intro x2_2 w_2 H locs ls hinv hm
      obtain ⟨v0_2, v1_2, v2_2⟩ := hinv
      exact absurd hm (by omega)
    | succ n_2 ih_2 =>
      intro x2_2 w_2 H locs ls hinv hm_2 hP hS hl E
      obtain ⟨v0_2, v1_2, v2_2⟩ := hinv
      have E := E.trans (sX7_passes_sheaves_2.eq_2 ..)
      refine lv_iload_n hx hb dX7_passes_2 rfl (lv_at hl 0 rfl) ?_
      refine lv_aload_n hx hb dX7_passes_3 rfl (lv_at hl 2 rfl) ?_
      refine n7_sheaves (v := 12) hx hb hK hP (by decide) dX7_passes_4 ?_
      refine lv_icmp_ge (tgt := 58) hx hb dX7_passes_5 (by decide) (fun c_1 => ?_) (fun c_1 => ?_)
      · have E := E.trans (if_pos c_1)
        have fc_1 := i_le c_1
        rw [q_12] at fc_1
        exact W.vret hx hb hr (fun t ht hW => ⟨⟨w_2, rfl, ⟨E.symm, by omega⟩, by beta_reduce; rw [ht]; exact hP⟩, hS.F ht⟩) hS.2.2 dX7_passes_58
      · have E := E.trans (if_neg c_1)
        have fc_1 := i_nle c_1
        rw [q_12] at fc_1
        refine lv_aload_n hx hb dX7_passes_8 rfl (lv_at hl 1 rfl) ?_
        refine g7_isKeeping hx hb hts hin hown hK hP (hts (.fieldLink RX7 136 "LoadedForTheLaneModel" "isKeeping" "Z") (by decide +kernel)) dX7_passes_9 ?_
        refine lv_if_eq (tgt := 30) hx hb dX7_passes_12 (by decide) (fun c_2 => ?_) (fun c_2 => ?_)
        · have E := E.trans (if_pos c_2)
          have fc_2 := i_eq c_2
          rw [q_0] at fc_2
          refine lv_aload_n hx hb dX7_passes_30 rfl (lv_at hl 2 rfl) ?_
          refine lv_iload_n hx hb dX7_passes_31 rfl (lv_at hl 0 rfl) ?_
          refine lv_aload_n hx hb dX7_passes_32 rfl (lv_at hl 1 rfl) ?_
          refine g7_kept hx hb hts hin hown hK hP (hts (.fieldLink RX7 55 "LoadedForTheLaneModel" "kept" "[I") (by decide +kernel)) dX7_passes_33 ?_
          refine lv_aload_n hx hb dX7_passes_36 rfl (lv_at hl 1 rfl) ?_
          refine g7_cursor hx hb hts hin hown hK hP (hts (.fieldLink RX7 140 "LoadedForTheLaneModel" "cursor" "I") (by decide +kernel)) dX7_passes_37 ?_
          have ix_3 : vp_in (w_2 22 0) 250 := ix_of (by omega) (by omega)
          refine l7_kept (j := (w_2 22 0).toNatClampNeg) hx hb hK hP ix_3 rfl dX7_passes_40 ?_
          have ix_4 : vp_in x2_2 12 := ix_of (by omega) (by omega)
          refine a7_sheaves (j := x2_2.toNatClampNeg) hx hb hK hP hd hS ix_4 rfl dX7_passes_41 (fun H locs hP hS => ?_)
          obtain ⟨wn_4, hwn_4⟩ : ∃ x, x = st w_2 3 (x2_2.toNatClampNeg) (w_2 19 ((w_2 22 0).toNatClampNeg)) := ⟨_, rfl⟩
          rw [← hwn_4] at hP
          have E := bns_e E hwn_4
          have ft4_cursor : (wn_4 22 0).toInt = (w_2 22 0).toInt := by rw [hwn_4]; rfl
          have fv_4 : (wn_4 3 (x2_2.toNatClampNeg)).toInt = (w_2 19 ((w_2 22 0).toNatClampNeg)).toInt := by rw [hwn_4, st_rd]
          refine lv_aload_n hx hb dX7_passes_42 rfl (lv_at hl 1 rfl) ?_
          refine lv_dup hx hb dX7_passes_43 rfl ?_
          refine g7_cursor hx hb hts hin hown hK hP (hts (.fieldLink RX7 140 "LoadedForTheLaneModel" "cursor" "I") (by decide +kernel)) dX7_passes_44 ?_
          refine lv_iconst (v := 1) hx hb dX7_passes_47 (by decide) ?_
          refine lv_iadd hx hb dX7_passes_48 ?_
          refine p7_cursor hx hb hts hin hown hK hP hd hS (hts (.fieldLink RX7 140 "LoadedForTheLaneModel" "cursor" "I") (by decide +kernel)) dX7_passes_49 (fun H locs hP hS => ?_)
          obtain ⟨wn_5, hwn_5⟩ : ∃ x, x = st wn_4 22 0 ((wn_4 22 0) + 1) := ⟨_, rfl⟩
          rw [← hwn_5] at hP
          have E := bns_e E hwn_5
          have ft5_cursor : (wn_5 22 0).toInt = ((wn_4 22 0) + 1).toInt := by rw [hwn_5]; rfl
          have := q_1
          have := i_add (a := wn_4 22 0) (b := 1) (by omega) (by omega)
          refine lv_iinc (v := x2_2 + 1) (lv' := [(2, .int (x2_2 + 1)), (0, .ref (ad 0)), (1, .ref (ad 4))]) hx hb dX7_passes_52 hl (k := 0) rfl rfl (by decide) rfl (fun ls hl => ?_)
          refine lv_goto (tgt := 2) hx hb dX7_passes_55 (by decide) ?_
          have := q_1
          try have := i_add (a := x2_2) (b := 1) (by omega) (by omega)
          exact ih_2 (x2_2 + 1) wn_5 H locs ls ⟨by omega, by omega, by omega⟩ (by omega) hP hS (lv_sub hl [0, 1, 2] rfl) E
        · have E := E.trans (if_neg c_2)
          have fc_2 := i_ne c_2
          rw [q_0] at fc_2
          refine lv_aload_n hx hb dX7_passes_15 rfl (lv_at hl 1 rfl) ?_
          refine g7_kept hx hb hts hin hown hK hP (hts (.fieldLink RX7 55 "LoadedForTheLaneModel" "kept" "[I") (by decide +kernel)) dX7_passes_16 ?_
          refine lv_aload_n hx hb dX7_passes_19 rfl (lv_at hl 1 rfl) ?_
          refine g7_cursor hx hb hts hin hown hK hP (hts (.fieldLink RX7 140 "LoadedForTheLaneModel" "cursor" "I") (by decide +kernel)) dX7_passes_20 ?_
          refine lv_aload_n hx hb dX7_passes_23 rfl (lv_at hl 2 rfl) ?_
          refine lv_iload_n hx hb dX7_passes_24 rfl (lv_at hl 0 rfl) ?_
          have ix_6 : vp_in x2_2 12 := ix_of (by omega) (by omega)
          refine l7_sheaves (j := x2_2.toNatClampNeg) hx hb hK hP ix_6 rfl dX7_passes_25 ?_
          have ix_7 : vp_in (w_2 22 0) 250 := ix_of (by omega) (by omega)
          refine a7_kept (j := (w_2 22 0).toNatClampNeg) hx hb hK hP hd hS ix_7 rfl dX7_passes_26 (fun H locs hP hS => ?_)
          obtain ⟨wn_7, hwn_7⟩ : ∃ x, x = st w_2 19 ((w_2 22 0).toNatClampNeg) (w_2 3 (x2_2.toNatClampNeg)) := ⟨_, rfl⟩
          rw [← hwn_7] at hP
          have E := bns_e E hwn_7
          have ft7_cursor : (wn_7 22 0).toInt = (w_2 22 0).toInt := by rw [hwn_7]; rfl
          have fv_7 : (wn_7 19 ((w_2 22 0).toNatClampNeg)).toInt = (w_2 3 (x2_2.toNatClampNeg)).toInt := by rw [hwn_7, st_rd]
          refine lv_goto (tgt := 42) hx hb dX7_passes_27 (by decide) ?_
          refine lv_aload_n hx hb dX7_passes_42 rfl (lv_at hl 1 rfl) ?_
          refine lv_dup hx hb dX7_passes_43 rfl ?_
          refine g7_cursor hx hb hts hin hown hK hP (hts (.fieldLink RX7 140 "LoadedForTheLaneModel" "cursor" "I") (by decide +kernel)) dX7_passes_44 ?_
          refine lv_iconst (v := 1) hx hb dX7_passes_47 (by decide) ?_
          refine lv_iadd hx hb dX7_passes_48 ?_
          refine p7_cursor hx hb hts hin hown hK hP hd hS (hts (.fieldLink RX7 140 "LoadedForTheLaneModel" "cursor" "I") (by decide +kernel)) dX7_passes_49 (fun H locs hP hS => ?_)
          obtain ⟨wn_8, hwn_8⟩ : ∃ x, x = st wn_7 22 0 ((wn_7 22 0) + 1) := ⟨_, rfl⟩
          rw [← hwn_8] at hP
          have E := bns_e E hwn_8
          have ft8_cursor : (wn_8 22 0).toInt = ((wn_7 22 0) + 1).toInt := by rw [hwn_8]; rfl
          have := q_1
          have := i_add (a := wn_7 22 0) (b := 1) (by omega) (by omega)
          refine lv_iinc (v := x2_2 + 1) (lv' := [(2, .int (x2_2 + 1)), (0, .ref (ad 0)), (1, .ref (ad 4))]) hx hb dX7_passes_52 hl (k := 0) rfl rfl (by decide) rfl (fun ls hl => ?_)
          refine lv_goto (tgt := 2) hx hb dX7_passes_55 (by decide) ?_
          have := q_1
          try have := i_add (a := x2_2) (b := 1) (by omega) (by omega)
          exact ih_2 (x2_2 + 1) wn_8 H locs ls ⟨by omega, by omega, by omega⟩ (by omega) hP hS (lv_sub hl [0, 1, 2] rfl) E
  have := q_0
  exact L_2 13 0 w H locs ls ⟨by omega, by omega, by omega⟩ (by omega) hP hS (lv_sub hl [0, 1, 2] rfl) E

set_option maxHeartbeats 4000000 in
set_option maxRecDepth 100000 in
theorem kX7_passes_out (l : Launch) (D : va_G) (cI : ClassId) (ad : Nat → Nat) (w : Nat → Nat → Int32) (hd : RD ad) (h1 : 0 ≤ (w 22 0).toInt) (h2 : (w 22 0).toInt ≤ 238) : Met l yX7_passes wsX7_passes rmX7_passes (va_Pc [Value.ref (ad 0), Value.ref (ad 5)] (fun U => va_P D vwCl (RM cI ad w) U.heap ∧ va_K D vwCl [(cI, .int)] U)) (va_Qv (fun u => u = sX7_passes_out w ∧ ((u 22 0).toInt = (w 22 0).toInt + 12)) (fun u t => va_P D vwCl (RM cI ad u) t.heap) (RA ad)) 0 0 (RA ad) := by
  refine Met.ofW (cc := cX7_passes) (maxL := 3) (ret := none) (by decide) rfl ?_
  intro p e s m args below meth c s₁ B hml hv
  obtain ⟨rfl, hP, hK⟩ := hv
  have hx := B.exec
  have hb := B.bytes
  have hr := B.returns
  have hts := atoms_spec (ws := wsX7_passes) B.pre
  have hown : s.vm.findClass RX7 = some m.cls := findClass_of_methodNamed B.named
  have hlocks := B.notSynchronized
  have hin : ∀ q ∈ wsX70, q ∈ wsX7_passes := by decide +kernel
  have hl := lv_entry ([.ref (ad 0), .ref (ad 5)]) (n := 3) (Nat.le_of_ble_eq_true rfl)
  rw [lg_entry_eq]
  generalize (lg_sl ([.ref (ad 0), .ref (ad 5)]) ++ List.replicate (3 - (lg_sl ([.ref (ad 0), .ref (ad 5)])).length) Slot.unset).toArray = ls at hl ⊢
  have hl : lv_has ls 3 [(0, .ref (ad 0)), (1, .ref (ad 5))] := hl
  suffices hgo : ∀ (H : Heap) (locs : List Loc), va_P D vwCl (RM cI ad w) H → va_S (RA ad) s.heap H locs → W p l e (headSpec wsX7_passes rmX7_passes).room s m [Value.ref (ad 0), Value.ref (ad 5)].toArray below meth c H locs 0 0 (MQ below (va_Qv (fun u => u = sX7_passes_out w ∧ ((u 22 0).toInt = (w 22 0).toInt + 12)) (fun u t => va_P D vwCl (RM cI ad u) t.heap) (RA ad)) [Value.ref (ad 0), Value.ref (ad 5)].toArray s 0 0 (RA ad)) (F0 m 0 ls []) from hgo s.heap [] hP va_S.rf
  intro H locs hP hS
  have E := sX7_passes_out.eq_1 w
  refine lv_iconst (v := 0) hx hb dX7_passes_0 (by decide) ?_
  refine lv_istore_n (lv' := [(2, .int 0), (0, .ref (ad 0)), (1, .ref (ad 5))]) hx hb dX7_passes_1 rfl hl (by decide) rfl (fun ls hl => ?_)
  have L_2 : ∀ (n_2 : Nat) (x2_2 : Int32) (w_2 : Nat → Nat → Int32) (H : Heap) (locs : List Loc) (ls : Array Slot), (0 ≤ x2_2.toInt ∧ x2_2.toInt ≤ 12 ∧ (w_2 22 0).toInt = (w 22 0).toInt + x2_2.toInt) → (12 - x2_2.toInt < (n_2 : Int)) → va_P D vwCl (RM cI ad w_2) H → va_S (RA ad) s.heap H locs → lv_has ls 3 [(2, .int x2_2), (0, .ref (ad 0)), (1, .ref (ad 5))] → sX7_passes_out w = sX7_passes_out_2 n_2 x2_2 w_2 → W p l e (headSpec wsX7_passes rmX7_passes).room s m [Value.ref (ad 0), Value.ref (ad 5)].toArray below meth c H locs 0 0 (MQ below (va_Qv (fun u => u = sX7_passes_out w ∧ ((u 22 0).toInt = (w 22 0).toInt + 12)) (fun u t => va_P D vwCl (RM cI ad u) t.heap) (RA ad)) [Value.ref (ad 0), Value.ref (ad 5)].toArray s 0 0 (RA ad)) (F0 m 2 ls []) := by
    intro n_2
    induction n_2 with
    | zero =>
      intro x2_2 w_2 H locs ls hinv hm
      obtain ⟨v0_2, v1_2, v2_2⟩ := hinv
      exact absurd hm (by omega)
    | succ n_2 ih_2 =>
      intro x2_2 w_2 H locs ls hinv hm_2 hP hS hl E
      obtain ⟨v0_2, v1_2, v2_2⟩ := hinv
      have E := E.trans (sX7_passes_out_2.eq_2 ..)
      refine lv_iload_n hx hb dX7_passes_2 rfl (lv_at hl 0 rfl) ?_
      refine lv_aload_n hx hb dX7_passes_3 rfl (lv_at hl 2 rfl) ?_
      refine n7_out (v := 12) hx hb hK hP (by decide) dX7_passes_4 ?_
      refine lv_icmp_ge (tgt := 58) hx hb dX7_passes_5 (by decide) (fun c_1 => ?_) (fun c_1 => ?_)
      · have E := E.trans (if_pos c_1)
        have fc_1 := i_le c_1
        rw [q_12] at fc_1
        exact W.vret hx hb hr (fun t ht hW => ⟨⟨w_2, rfl, ⟨E.symm, by omega⟩, by beta_reduce; rw [ht]; exact hP⟩, hS.F ht⟩) hS.2.2 dX7_passes_58
      · have E := E.trans (if_neg c_1)
        have fc_1 := i_nle c_1
        rw [q_12] at fc_1
        refine lv_aload_n hx hb dX7_passes_8 rfl (lv_at hl 1 rfl) ?_
        refine g7_isKeeping hx hb hts hin hown hK hP (hts (.fieldLink RX7 136 "LoadedForTheLaneModel" "isKeeping" "Z") (by decide +kernel)) dX7_passes_9 ?_
        refine lv_if_eq (tgt := 30) hx hb dX7_passes_12 (by decide) (fun c_2 => ?_) (fun c_2 => ?_)
        · have E := E.trans (if_pos c_2)
          have fc_2 := i_eq c_2
          rw [q_0] at fc_2
          refine lv_aload_n hx hb dX7_passes_30 rfl (lv_at hl 2 rfl) ?_
          refine lv_iload_n hx hb dX7_passes_31 rfl (lv_at hl 0 rfl) ?_
          refine lv_aload_n hx hb dX7_passes_32 rfl (lv_at hl 1 rfl) ?_
          refine g7_kept hx hb hts hin hown hK hP (hts (.fieldLink RX7 55 "LoadedForTheLaneModel" "kept" "[I") (by decide +kernel)) dX7_passes_33 ?_
          refine lv_aload_n hx hb dX7_passes_36 rfl (lv_at hl 1 rfl) ?_
          refine g7_cursor hx hb hts hin hown hK hP (hts (.fieldLink RX7 140 "LoadedForTheLaneModel" "cursor" "I") (by decide +kernel)) dX7_passes_37 ?_
          have ix_3 : vp_in (w_2 22 0) 250 := ix_of (by omega) (by omega)
          refine l7_kept (j := (w_2 22 0).toNatClampNeg) hx hb hK hP ix_3 rfl dX7_passes_40 ?_
          have ix_4 : vp_in x2_2 12 := ix_of (by omega) (by omega)
          refine a7_out (j := x2_2.toNatClampNeg) hx hb hK hP hd hS ix_4 rfl dX7_passes_41 (fun H locs hP hS => ?_)
          obtain ⟨wn_4, hwn_4⟩ : ∃ x, x = st w_2 4 (x2_2.toNatClampNeg) (w_2 19 ((w_2 22 0).toNatClampNeg)) := ⟨_, rfl⟩
          rw [← hwn_4] at hP
          have E := bns_e E hwn_4
          have ft4_cursor : (wn_4 22 0).toInt = (w_2 22 0).toInt := by rw [hwn_4]; rfl
          have fv_4 : (wn_4 4 (x2_2.toNatClampNeg)).toInt = (w_2 19 ((w_2 22 0).toNatClampNeg)).toInt := by rw [hwn_4, st_rd]
          refine lv_aload_n hx hb dX7_passes_42 rfl (lv_at hl 1 rfl) ?_
          refine lv_dup hx hb dX7_passes_43 rfl ?_
          refine g7_cursor hx hb hts hin hown hK hP (hts (.fieldLink RX7 140 "LoadedForTheLaneModel" "cursor" "I") (by decide +kernel)) dX7_passes_44 ?_
          refine lv_iconst (v := 1) hx hb dX7_passes_47 (by decide) ?_
          refine lv_iadd hx hb dX7_passes_48 ?_
          refine p7_cursor hx hb hts hin hown hK hP hd hS (hts (.fieldLink RX7 140 "LoadedForTheLaneModel" "cursor" "I") (by decide +kernel)) dX7_passes_49 (fun H locs hP hS => ?_)
          obtain ⟨wn_5, hwn_5⟩ : ∃ x, x = st wn_4 22 0 ((wn_4 22 0) + 1) := ⟨_, rfl⟩
          rw [← hwn_5] at hP
          have E := bns_e E hwn_5
          have ft5_cursor : (wn_5 22 0).toInt = ((wn_4 22 0) + 1).toInt := by rw [hwn_5]; rfl
          have := q_1
          have := i_add (a := wn_4 22 0) (b := 1) (by omega) (by omega)
          refine lv_iinc (v := x2_2 + 1) (lv' := [(2, .int (x2_2 + 1)), (0, .ref (ad 0)), (1, .ref (ad 5))]) hx hb dX7_passes_52 hl (k := 0) rfl rfl (by decide) rfl (fun ls hl => ?_)
          refine lv_goto (tgt := 2) hx hb dX7_passes_55 (by decide) ?_
          have := q_1
          try have := i_add (a := x2_2) (b := 1) (by omega) (by omega)
          exact ih_2 (x2_2 + 1) wn_5 H locs ls ⟨by omega, by omega, by omega⟩ (by omega) hP hS (lv_sub hl [0, 1, 2] rfl) E
        · have E := E.trans (if_neg c_2)
          have fc_2 := i_ne c_2
          rw [q_0] at fc_2
          refine lv_aload_n hx hb dX7_passes_15 rfl (lv_at hl 1 rfl) ?_
          refine g7_kept hx hb hts hin hown hK hP (hts (.fieldLink RX7 55 "LoadedForTheLaneModel" "kept" "[I") (by decide +kernel)) dX7_passes_16 ?_
          refine lv_aload_n hx hb dX7_passes_19 rfl (lv_at hl 1 rfl) ?_
          refine g7_cursor hx hb hts hin hown hK hP (hts (.fieldLink RX7 140 "LoadedForTheLaneModel" "cursor" "I") (by decide +kernel)) dX7_passes_20 ?_
          refine lv_aload_n hx hb dX7_passes_23 rfl (lv_at hl 2 rfl) ?_
          refine lv_iload_n hx hb dX7_passes_24 rfl (lv_at hl 0 rfl) ?_
          have ix_6 : vp_in x2_2 12 := ix_of (by omega) (by omega)
          refine l7_out (j := x2_2.toNatClampNeg) hx hb hK hP ix_6 rfl dX7_passes_25 ?_
          have ix_7 : vp_in (w_2 22 0) 250 := ix_of (by omega) (by omega)
          refine a7_kept (j := (w_2 22 0).toNatClampNeg) hx hb hK hP hd hS ix_7 rfl dX7_passes_26 (fun H locs hP hS => ?_)
          obtain ⟨wn_7, hwn_7⟩ : ∃ x, x = st w_2 19 ((w_2 22 0).toNatClampNeg) (w_2 4 (x2_2.toNatClampNeg)) := ⟨_, rfl⟩
          rw [← hwn_7] at hP
          have E := bns_e E hwn_7
          have ft7_cursor : (wn_7 22 0).toInt = (w_2 22 0).toInt := by rw [hwn_7]; rfl
          have fv_7 : (wn_7 19 ((w_2 22 0).toNatClampNeg)).toInt = (w_2 4 (x2_2.toNatClampNeg)).toInt := by rw [hwn_7, st_rd]
          refine lv_goto (tgt := 42) hx hb dX7_passes_27 (by decide) ?_
          refine lv_aload_n hx hb dX7_passes_42 rfl (lv_at hl 1 rfl) ?_
          refine lv_dup hx hb dX7_passes_43 rfl ?_
          refine g7_cursor hx hb hts hin hown hK hP (hts (.fieldLink RX7 140 "LoadedForTheLaneModel" "cursor" "I") (by decide +kernel)) dX7_passes_44 ?_
          refine lv_iconst (v := 1) hx hb dX7_passes_47 (by decide) ?_
          refine lv_iadd hx hb dX7_passes_48 ?_
          refine p7_cursor hx hb hts hin hown hK hP hd hS (hts (.fieldLink RX7 140 "LoadedForTheLaneModel" "cursor" "I") (by decide +kernel)) dX7_passes_49 (fun H locs hP hS => ?_)
          obtain ⟨wn_8, hwn_8⟩ : ∃ x, x = st wn_7 22 0 ((wn_7 22 0) + 1) := ⟨_, rfl⟩
          rw [← hwn_8] at hP
          have E := bns_e E hwn_8
          have ft8_cursor : (wn_8 22 0).toInt = ((wn_7 22 0) + 1).toInt := by rw [hwn_8]; rfl
          have := q_1
          have := i_add (a := wn_7 22 0) (b := 1) (by omega) (by omega)
          refine lv_iinc (v := x2_2 + 1) (lv' := [(2, .int (x2_2 + 1)), (0, .ref (ad 0)), (1, .ref (ad 5))]) hx hb dX7_passes_52 hl (k := 0) rfl rfl (by decide) rfl (fun ls hl => ?_)
          refine lv_goto (tgt := 2) hx hb dX7_passes_55 (by decide) ?_
          have := q_1
          try have := i_add (a := x2_2) (b := 1) (by omega) (by omega)
          exact ih_2 (x2_2 + 1) wn_8 H locs ls ⟨by omega, by omega, by omega⟩ (by omega) hP hS (lv_sub hl [0, 1, 2] rfl) E
  have := q_0
  exact L_2 13 0 w H locs ls ⟨by omega, by omega, by omega⟩ (by omega) hP hS (lv_sub hl [0, 1, 2] rfl) E

set_option maxHeartbeats 4000000 in
set_option maxRecDepth 100000 in
theorem kX7_passes_lean (l : Launch) (D : va_G) (cI : ClassId) (ad : Nat → Nat) (w : Nat → Nat → Int32) (hd : RD ad) (h1 : 0 ≤ (w 22 0).toInt) (h2 : (w 22 0).toInt ≤ 238) : Met l yX7_passes wsX7_passes rmX7_passes (va_Pc [Value.ref (ad 0), Value.ref (ad 6)] (fun U => va_P D vwCl (RM cI ad w) U.heap ∧ va_K D vwCl [(cI, .int)] U)) (va_Qv (fun u => u = sX7_passes_lean w ∧ ((u 22 0).toInt = (w 22 0).toInt + 12)) (fun u t => va_P D vwCl (RM cI ad u) t.heap) (RA ad)) 0 0 (RA ad) := by
  refine Met.ofW (cc := cX7_passes) (maxL := 3) (ret := none) (by decide) rfl ?_
  intro p e s m args below meth c s₁ B hml hv
  obtain ⟨rfl, hP, hK⟩ := hv
  have hx := B.exec
  have hb := B.bytes
  have hr := B.returns
  have hts := atoms_spec (ws := wsX7_passes) B.pre
  have hown : s.vm.findClass RX7 = some m.cls := findClass_of_methodNamed B.named
  have hlocks := B.notSynchronized
  have hin : ∀ q ∈ wsX70, q ∈ wsX7_passes := by decide +kernel
  have hl := lv_entry ([.ref (ad 0), .ref (ad 6)]) (n := 3) (Nat.le_of_ble_eq_true rfl)
  rw [lg_entry_eq]
  generalize (lg_sl ([.ref (ad 0), .ref (ad 6)]) ++ List.replicate (3 - (lg_sl ([.ref (ad 0), .ref (ad 6)])).length) Slot.unset).toArray = ls at hl ⊢
  have hl : lv_has ls 3 [(0, .ref (ad 0)), (1, .ref (ad 6))] := hl
  suffices hgo : ∀ (H : Heap) (locs : List Loc), va_P D vwCl (RM cI ad w) H → va_S (RA ad) s.heap H locs → W p l e (headSpec wsX7_passes rmX7_passes).room s m [Value.ref (ad 0), Value.ref (ad 6)].toArray below meth c H locs 0 0 (MQ below (va_Qv (fun u => u = sX7_passes_lean w ∧ ((u 22 0).toInt = (w 22 0).toInt + 12)) (fun u t => va_P D vwCl (RM cI ad u) t.heap) (RA ad)) [Value.ref (ad 0), Value.ref (ad 6)].toArray s 0 0 (RA ad)) (F0 m 0 ls []) from hgo s.heap [] hP va_S.rf
  intro H locs hP hS
  have E := sX7_passes_lean.eq_1 w
  refine lv_iconst (v := 0) hx hb dX7_passes_0 (by decide) ?_
  refine lv_istore_n (lv' := [(2, .int 0), (0, .ref (ad 0)), (1, .ref (ad 6))]) hx hb dX7_passes_1 rfl hl (by decide) rfl (fun ls hl => ?_)
  have L_2 : ∀ (n_2 : Nat) (x2_2 : Int32) (w_2 : Nat → Nat → Int32) (H : Heap) (locs : List Loc) (ls : Array Slot), (0 ≤ x2_2.toInt ∧ x2_2.toInt ≤ 12 ∧ (w_2 22 0).toInt = (w 22 0).toInt + x2_2.toInt) → (12 - x2_2.toInt < (n_2 : Int)) → va_P D vwCl (RM cI ad w_2) H → va_S (RA ad) s.heap H locs → lv_has ls 3 [(2, .int x2_2), (0, .ref (ad 0)), (1, .ref (ad 6))] → sX7_passes_lean w = sX7_passes_lean_2 n_2 x2_2 w_2 → W p l e (headSpec wsX7_passes rmX7_passes).room s m [Value.ref (ad 0), Value.ref (ad 6)].toArray below meth c H locs 0 0 (MQ below (va_Qv (fun u => u = sX7_passes_lean w ∧ ((u 22 0).toInt = (w 22 0).toInt + 12)) (fun u t => va_P D vwCl (RM cI ad u) t.heap) (RA ad)) [Value.ref (ad 0), Value.ref (ad 6)].toArray s 0 0 (RA ad)) (F0 m 2 ls []) := by
    intro n_2
    induction n_2 with
    | zero =>
      intro x2_2 w_2 H locs ls hinv hm
      obtain ⟨v0_2, v1_2, v2_2⟩ := hinv
      exact absurd hm (by omega)
    | succ n_2 ih_2 =>
      intro x2_2 w_2 H locs ls hinv hm_2 hP hS hl E
      obtain ⟨v0_2, v1_2, v2_2⟩ := hinv
      have E := E.trans (sX7_passes_lean_2.eq_2 ..)
      refine lv_iload_n hx hb dX7_passes_2 rfl (lv_at hl 0 rfl) ?_
      refine lv_aload_n hx hb dX7_passes_3 rfl (lv_at hl 2 rfl) ?_
      refine n7_lean (v := 12) hx hb hK hP (by decide) dX7_passes_4 ?_
      refine lv_icmp_ge (tgt := 58) hx hb dX7_passes_5 (by decide) (fun c_1 => ?_) (fun c_1 => ?_)
      · have E := E.trans (if_pos c_1)
        have fc_1 := i_le c_1
        rw [q_12] at fc_1
        exact W.vret hx hb hr (fun t ht hW => ⟨⟨w_2, rfl, ⟨E.symm, by omega⟩, by beta_reduce; rw [ht]; exact hP⟩, hS.F ht⟩) hS.2.2 dX7_passes_58
      · have E := E.trans (if_neg c_1)
        have fc_1 := i_nle c_1
        rw [q_12] at fc_1
        refine lv_aload_n hx hb dX7_passes_8 rfl (lv_at hl 1 rfl) ?_
        refine g7_isKeeping hx hb hts hin hown hK hP (hts (.fieldLink RX7 136 "LoadedForTheLaneModel" "isKeeping" "Z") (by decide +kernel)) dX7_passes_9 ?_
        refine lv_if_eq (tgt := 30) hx hb dX7_passes_12 (by decide) (fun c_2 => ?_) (fun c_2 => ?_)
        · have E := E.trans (if_pos c_2)
          have fc_2 := i_eq c_2
          rw [q_0] at fc_2
          refine lv_aload_n hx hb dX7_passes_30 rfl (lv_at hl 2 rfl) ?_
          refine lv_iload_n hx hb dX7_passes_31 rfl (lv_at hl 0 rfl) ?_
          refine lv_aload_n hx hb dX7_passes_32 rfl (lv_at hl 1 rfl) ?_
          refine g7_kept hx hb hts hin hown hK hP (hts (.fieldLink RX7 55 "LoadedForTheLaneModel" "kept" "[I") (by decide +kernel)) dX7_passes_33 ?_
          refine lv_aload_n hx hb dX7_passes_36 rfl (lv_at hl 1 rfl) ?_
          refine g7_cursor hx hb hts hin hown hK hP (hts (.fieldLink RX7 140 "LoadedForTheLaneModel" "cursor" "I") (by decide +kernel)) dX7_passes_37 ?_
          have ix_3 : vp_in (w_2 22 0) 250 := ix_of (by omega) (by omega)
          refine l7_kept (j := (w_2 22 0).toNatClampNeg) hx hb hK hP ix_3 rfl dX7_passes_40 ?_
          have ix_4 : vp_in x2_2 12 := ix_of (by omega) (by omega)
          refine a7_lean (j := x2_2.toNatClampNeg) hx hb hK hP hd hS ix_4 rfl dX7_passes_41 (fun H locs hP hS => ?_)
          obtain ⟨wn_4, hwn_4⟩ : ∃ x, x = st w_2 5 (x2_2.toNatClampNeg) (w_2 19 ((w_2 22 0).toNatClampNeg)) := ⟨_, rfl⟩
          rw [← hwn_4] at hP
          have E := bns_e E hwn_4
          have ft4_cursor : (wn_4 22 0).toInt = (w_2 22 0).toInt := by rw [hwn_4]; rfl
          have fv_4 : (wn_4 5 (x2_2.toNatClampNeg)).toInt = (w_2 19 ((w_2 22 0).toNatClampNeg)).toInt := by rw [hwn_4, st_rd]
          refine lv_aload_n hx hb dX7_passes_42 rfl (lv_at hl 1 rfl) ?_
          refine lv_dup hx hb dX7_passes_43 rfl ?_
          refine g7_cursor hx hb hts hin hown hK hP (hts (.fieldLink RX7 140 "LoadedForTheLaneModel" "cursor" "I") (by decide +kernel)) dX7_passes_44 ?_
          refine lv_iconst (v := 1) hx hb dX7_passes_47 (by decide) ?_
          refine lv_iadd hx hb dX7_passes_48 ?_
          refine p7_cursor hx hb hts hin hown hK hP hd hS (hts (.fieldLink RX7 140 "LoadedForTheLaneModel" "cursor" "I") (by decide +kernel)) dX7_passes_49 (fun H locs hP hS => ?_)
          obtain ⟨wn_5, hwn_5⟩ : ∃ x, x = st wn_4 22 0 ((wn_4 22 0) + 1) := ⟨_, rfl⟩
          rw [← hwn_5] at hP
          have E := bns_e E hwn_5
          have ft5_cursor : (wn_5 22 0).toInt = ((wn_4 22 0) + 1).toInt := by rw [hwn_5]; rfl
          have := q_1
          have := i_add (a := wn_4 22 0) (b := 1) (by omega) (by omega)
          refine lv_iinc (v := x2_2 + 1) (lv' := [(2, .int (x2_2 + 1)), (0, .ref (ad 0)), (1, .ref (ad 6))]) hx hb dX7_passes_52 hl (k := 0) rfl rfl (by decide) rfl (fun ls hl => ?_)
          refine lv_goto (tgt := 2) hx hb dX7_passes_55 (by decide) ?_
          have := q_1
          try have := i_add (a := x2_2) (b := 1) (by omega) (by omega)
          exact ih_2 (x2_2 + 1) wn_5 H locs ls ⟨by omega, by omega, by omega⟩ (by omega) hP hS (lv_sub hl [0, 1, 2] rfl) E
        · have E := E.trans (if_neg c_2)
          have fc_2 := i_ne c_2
          rw [q_0] at fc_2
          refine lv_aload_n hx hb dX7_passes_15 rfl (lv_at hl 1 rfl) ?_
          refine g7_kept hx hb hts hin hown hK hP (hts (.fieldLink RX7 55 "LoadedForTheLaneModel" "kept" "[I") (by decide +kernel)) dX7_passes_16 ?_
          refine lv_aload_n hx hb dX7_passes_19 rfl (lv_at hl 1 rfl) ?_
          refine g7_cursor hx hb hts hin hown hK hP (hts (.fieldLink RX7 140 "LoadedForTheLaneModel" "cursor" "I") (by decide +kernel)) dX7_passes_20 ?_
          refine lv_aload_n hx hb dX7_passes_23 rfl (lv_at hl 2 rfl) ?_
          refine lv_iload_n hx hb dX7_passes_24 rfl (lv_at hl 0 rfl) ?_
          have ix_6 : vp_in x2_2 12 := ix_of (by omega) (by omega)
          refine l7_lean (j := x2_2.toNatClampNeg) hx hb hK hP ix_6 rfl dX7_passes_25 ?_
          have ix_7 : vp_in (w_2 22 0) 250 := ix_of (by omega) (by omega)
          refine a7_kept (j := (w_2 22 0).toNatClampNeg) hx hb hK hP hd hS ix_7 rfl dX7_passes_26 (fun H locs hP hS => ?_)
          obtain ⟨wn_7, hwn_7⟩ : ∃ x, x = st w_2 19 ((w_2 22 0).toNatClampNeg) (w_2 5 (x2_2.toNatClampNeg)) := ⟨_, rfl⟩
          rw [← hwn_7] at hP
          have E := bns_e E hwn_7
          have ft7_cursor : (wn_7 22 0).toInt = (w_2 22 0).toInt := by rw [hwn_7]; rfl
          have fv_7 : (wn_7 19 ((w_2 22 0).toNatClampNeg)).toInt = (w_2 5 (x2_2.toNatClampNeg)).toInt := by rw [hwn_7, st_rd]
          refine lv_goto (tgt := 42) hx hb dX7_passes_27 (by decide) ?_
          refine lv_aload_n hx hb dX7_passes_42 rfl (lv_at hl 1 rfl) ?_
          refine lv_dup hx hb dX7_passes_43 rfl ?_
          refine g7_cursor hx hb hts hin hown hK hP (hts (.fieldLink RX7 140 "LoadedForTheLaneModel" "cursor" "I") (by decide +kernel)) dX7_passes_44 ?_
          refine lv_iconst (v := 1) hx hb dX7_passes_47 (by decide) ?_
          refine lv_iadd hx hb dX7_passes_48 ?_
          refine p7_cursor hx hb hts hin hown hK hP hd hS (hts (.fieldLink RX7 140 "LoadedForTheLaneModel" "cursor" "I") (by decide +kernel)) dX7_passes_49 (fun H locs hP hS => ?_)
          obtain ⟨wn_8, hwn_8⟩ : ∃ x, x = st wn_7 22 0 ((wn_7 22 0) + 1) := ⟨_, rfl⟩
          rw [← hwn_8] at hP
          have E := bns_e E hwn_8
          have ft8_cursor : (wn_8 22 0).toInt = ((wn_7 22 0) + 1).toInt := by rw [hwn_8]; rfl
          have := q_1
          have := i_add (a := wn_7 22 0) (b := 1) (by omega) (by omega)
          refine lv_iinc (v := x2_2 + 1) (lv' := [(2, .int (x2_2 + 1)), (0, .ref (ad 0)), (1, .ref (ad 6))]) hx hb dX7_passes_52 hl (k := 0) rfl rfl (by decide) rfl (fun ls hl => ?_)
          refine lv_goto (tgt := 2) hx hb dX7_passes_55 (by decide) ?_
          have := q_1
          try have := i_add (a := x2_2) (b := 1) (by omega) (by omega)
          exact ih_2 (x2_2 + 1) wn_8 H locs ls ⟨by omega, by omega, by omega⟩ (by omega) hP hS (lv_sub hl [0, 1, 2] rfl) E
  have := q_0
  exact L_2 13 0 w H locs ls ⟨by omega, by omega, by omega⟩ (by omega) hP hS (lv_sub hl [0, 1, 2] rfl) E

set_option maxHeartbeats 4000000 in
set_option maxRecDepth 100000 in
theorem kX7_passes_badly (l : Launch) (D : va_G) (cI : ClassId) (ad : Nat → Nat) (w : Nat → Nat → Int32) (hd : RD ad) (h1 : 0 ≤ (w 22 0).toInt) (h2 : (w 22 0).toInt ≤ 238) : Met l yX7_passes wsX7_passes rmX7_passes (va_Pc [Value.ref (ad 0), Value.ref (ad 7)] (fun U => va_P D vwCl (RM cI ad w) U.heap ∧ va_K D vwCl [(cI, .int)] U)) (va_Qv (fun u => u = sX7_passes_badly w ∧ ((u 22 0).toInt = (w 22 0).toInt + 12)) (fun u t => va_P D vwCl (RM cI ad u) t.heap) (RA ad)) 0 0 (RA ad) := by
  refine Met.ofW (cc := cX7_passes) (maxL := 3) (ret := none) (by decide) rfl ?_
  intro p e s m args below meth c s₁ B hml hv
  obtain ⟨rfl, hP, hK⟩ := hv
  have hx := B.exec
  have hb := B.bytes
  have hr := B.returns
  have hts := atoms_spec (ws := wsX7_passes) B.pre
  have hown : s.vm.findClass RX7 = some m.cls := findClass_of_methodNamed B.named
  have hlocks := B.notSynchronized
  have hin : ∀ q ∈ wsX70, q ∈ wsX7_passes := by decide +kernel
  have hl := lv_entry ([.ref (ad 0), .ref (ad 7)]) (n := 3) (Nat.le_of_ble_eq_true rfl)
  rw [lg_entry_eq]
  generalize (lg_sl ([.ref (ad 0), .ref (ad 7)]) ++ List.replicate (3 - (lg_sl ([.ref (ad 0), .ref (ad 7)])).length) Slot.unset).toArray = ls at hl ⊢
  have hl : lv_has ls 3 [(0, .ref (ad 0)), (1, .ref (ad 7))] := hl
  suffices hgo : ∀ (H : Heap) (locs : List Loc), va_P D vwCl (RM cI ad w) H → va_S (RA ad) s.heap H locs → W p l e (headSpec wsX7_passes rmX7_passes).room s m [Value.ref (ad 0), Value.ref (ad 7)].toArray below meth c H locs 0 0 (MQ below (va_Qv (fun u => u = sX7_passes_badly w ∧ ((u 22 0).toInt = (w 22 0).toInt + 12)) (fun u t => va_P D vwCl (RM cI ad u) t.heap) (RA ad)) [Value.ref (ad 0), Value.ref (ad 7)].toArray s 0 0 (RA ad)) (F0 m 0 ls []) from hgo s.heap [] hP va_S.rf
  intro H locs hP hS
  have E := sX7_passes_badly.eq_1 w
  refine lv_iconst (v := 0) hx hb dX7_passes_0 (by decide) ?_
  refine lv_istore_n (lv' := [(2, .int 0), (0, .ref (ad 0)), (1, .ref (ad 7))]) hx hb dX7_passes_1 rfl hl (by decide) rfl (fun ls hl => ?_)
  have L_2 : ∀ (n_2 : Nat) (x2_2 : Int32) (w_2 : Nat → Nat → Int32) (H : Heap) (locs : List Loc) (ls : Array Slot), (0 ≤ x2_2.toInt ∧ x2_2.toInt ≤ 12 ∧ (w_2 22 0).toInt = (w 22 0).toInt + x2_2.toInt) → (12 - x2_2.toInt < (n_2 : Int)) → va_P D vwCl (RM cI ad w_2) H → va_S (RA ad) s.heap H locs → lv_has ls 3 [(2, .int x2_2), (0, .ref (ad 0)), (1, .ref (ad 7))] → sX7_passes_badly w = sX7_passes_badly_2 n_2 x2_2 w_2 → W p l e (headSpec wsX7_passes rmX7_passes).room s m [Value.ref (ad 0), Value.ref (ad 7)].toArray below meth c H locs 0 0 (MQ below (va_Qv (fun u => u = sX7_passes_badly w ∧ ((u 22 0).toInt = (w 22 0).toInt + 12)) (fun u t => va_P D vwCl (RM cI ad u) t.heap) (RA ad)) [Value.ref (ad 0), Value.ref (ad 7)].toArray s 0 0 (RA ad)) (F0 m 2 ls []) := by
    intro n_2
    induction n_2 with
    | zero =>
      intro x2_2 w_2 H locs ls hinv hm
      obtain ⟨v0_2, v1_2, v2_2⟩ := hinv
      exact absurd hm (by omega)
    | succ n_2 ih_2 =>
      intro x2_2 w_2 H locs ls hinv hm_2 hP hS hl E
      obtain ⟨v0_2, v1_2, v2_2⟩ := hinv
      have E := E.trans (sX7_passes_badly_2.eq_2 ..)
      refine lv_iload_n hx hb dX7_passes_2 rfl (lv_at hl 0 rfl) ?_
      refine lv_aload_n hx hb dX7_passes_3 rfl (lv_at hl 2 rfl) ?_
      refine n7_badly (v := 12) hx hb hK hP (by decide) dX7_passes_4 ?_
      refine lv_icmp_ge (tgt := 58) hx hb dX7_passes_5 (by decide) (fun c_1 => ?_) (fun c_1 => ?_)
      · have E := E.trans (if_pos c_1)
        have fc_1 := i_le c_1
        rw [q_12] at fc_1
        exact W.vret hx hb hr (fun t ht hW => ⟨⟨w_2, rfl, ⟨E.symm, by omega⟩, by beta_reduce; rw [ht]; exact hP⟩, hS.F ht⟩) hS.2.2 dX7_passes_58
      · have E := E.trans (if_neg c_1)
        have fc_1 := i_nle c_1
        rw [q_12] at fc_1
        refine lv_aload_n hx hb dX7_passes_8 rfl (lv_at hl 1 rfl) ?_
        refine g7_isKeeping hx hb hts hin hown hK hP (hts (.fieldLink RX7 136 "LoadedForTheLaneModel" "isKeeping" "Z") (by decide +kernel)) dX7_passes_9 ?_
        refine lv_if_eq (tgt := 30) hx hb dX7_passes_12 (by decide) (fun c_2 => ?_) (fun c_2 => ?_)
        · have E := E.trans (if_pos c_2)
          have fc_2 := i_eq c_2
          rw [q_0] at fc_2
          refine lv_aload_n hx hb dX7_passes_30 rfl (lv_at hl 2 rfl) ?_
          refine lv_iload_n hx hb dX7_passes_31 rfl (lv_at hl 0 rfl) ?_
          refine lv_aload_n hx hb dX7_passes_32 rfl (lv_at hl 1 rfl) ?_
          refine g7_kept hx hb hts hin hown hK hP (hts (.fieldLink RX7 55 "LoadedForTheLaneModel" "kept" "[I") (by decide +kernel)) dX7_passes_33 ?_
          refine lv_aload_n hx hb dX7_passes_36 rfl (lv_at hl 1 rfl) ?_
          refine g7_cursor hx hb hts hin hown hK hP (hts (.fieldLink RX7 140 "LoadedForTheLaneModel" "cursor" "I") (by decide +kernel)) dX7_passes_37 ?_
          have ix_3 : vp_in (w_2 22 0) 250 := ix_of (by omega) (by omega)
          refine l7_kept (j := (w_2 22 0).toNatClampNeg) hx hb hK hP ix_3 rfl dX7_passes_40 ?_
          have ix_4 : vp_in x2_2 12 := ix_of (by omega) (by omega)
          refine a7_badly (j := x2_2.toNatClampNeg) hx hb hK hP hd hS ix_4 rfl dX7_passes_41 (fun H locs hP hS => ?_)
          obtain ⟨wn_4, hwn_4⟩ : ∃ x, x = st w_2 6 (x2_2.toNatClampNeg) (w_2 19 ((w_2 22 0).toNatClampNeg)) := ⟨_, rfl⟩
          rw [← hwn_4] at hP
          have E := bns_e E hwn_4
          have ft4_cursor : (wn_4 22 0).toInt = (w_2 22 0).toInt := by rw [hwn_4]; rfl
          have fv_4 : (wn_4 6 (x2_2.toNatClampNeg)).toInt = (w_2 19 ((w_2 22 0).toNatClampNeg)).toInt := by rw [hwn_4, st_rd]
          refine lv_aload_n hx hb dX7_passes_42 rfl (lv_at hl 1 rfl) ?_
          refine lv_dup hx hb dX7_passes_43 rfl ?_
          refine g7_cursor hx hb hts hin hown hK hP (hts (.fieldLink RX7 140 "LoadedForTheLaneModel" "cursor" "I") (by decide +kernel)) dX7_passes_44 ?_
          refine lv_iconst (v := 1) hx hb dX7_passes_47 (by decide) ?_
          refine lv_iadd hx hb dX7_passes_48 ?_
          refine p7_cursor hx hb hts hin hown hK hP hd hS (hts (.fieldLink RX7 140 "LoadedForTheLaneModel" "cursor" "I") (by decide +kernel)) dX7_passes_49 (fun H locs hP hS => ?_)
          obtain ⟨wn_5, hwn_5⟩ : ∃ x, x = st wn_4 22 0 ((wn_4 22 0) + 1) := ⟨_, rfl⟩
          rw [← hwn_5] at hP
          have E := bns_e E hwn_5
          have ft5_cursor : (wn_5 22 0).toInt = ((wn_4 22 0) + 1).toInt := by rw [hwn_5]; rfl
          have := q_1
          have := i_add (a := wn_4 22 0) (b := 1) (by omega) (by omega)
          refine lv_iinc (v := x2_2 + 1) (lv' := [(2, .int (x2_2 + 1)), (0, .ref (ad 0)), (1, .ref (ad 7))]) hx hb dX7_passes_52 hl (k := 0) rfl rfl (by decide) rfl (fun ls hl => ?_)
          refine lv_goto (tgt := 2) hx hb dX7_passes_55 (by decide) ?_
          have := q_1
          try have := i_add (a := x2_2) (b := 1) (by omega) (by omega)
          exact ih_2 (x2_2 + 1) wn_5 H locs ls ⟨by omega, by omega, by omega⟩ (by omega) hP hS (lv_sub hl [0, 1, 2] rfl) E
        · have E := E.trans (if_neg c_2)
          have fc_2 := i_ne c_2
          rw [q_0] at fc_2
          refine lv_aload_n hx hb dX7_passes_15 rfl (lv_at hl 1 rfl) ?_
          refine g7_kept hx hb hts hin hown hK hP (hts (.fieldLink RX7 55 "LoadedForTheLaneModel" "kept" "[I") (by decide +kernel)) dX7_passes_16 ?_
          refine lv_aload_n hx hb dX7_passes_19 rfl (lv_at hl 1 rfl) ?_
          refine g7_cursor hx hb hts hin hown hK hP (hts (.fieldLink RX7 140 "LoadedForTheLaneModel" "cursor" "I") (by decide +kernel)) dX7_passes_20 ?_
          refine lv_aload_n hx hb dX7_passes_23 rfl (lv_at hl 2 rfl) ?_
          refine lv_iload_n hx hb dX7_passes_24 rfl (lv_at hl 0 rfl) ?_
          have ix_6 : vp_in x2_2 12 := ix_of (by omega) (by omega)
          refine l7_badly (j := x2_2.toNatClampNeg) hx hb hK hP ix_6 rfl dX7_passes_25 ?_
          have ix_7 : vp_in (w_2 22 0) 250 := ix_of (by omega) (by omega)
          refine a7_kept (j := (w_2 22 0).toNatClampNeg) hx hb hK hP hd hS ix_7 rfl dX7_passes_26 (fun H locs hP hS => ?_)
          obtain ⟨wn_7, hwn_7⟩ : ∃ x, x = st w_2 19 ((w_2 22 0).toNatClampNeg) (w_2 6 (x2_2.toNatClampNeg)) := ⟨_, rfl⟩
          rw [← hwn_7] at hP
          have E := bns_e E hwn_7
          have ft7_cursor : (wn_7 22 0).toInt = (w_2 22 0).toInt := by rw [hwn_7]; rfl
          have fv_7 : (wn_7 19 ((w_2 22 0).toNatClampNeg)).toInt = (w_2 6 (x2_2.toNatClampNeg)).toInt := by rw [hwn_7, st_rd]
          refine lv_goto (tgt := 42) hx hb dX7_passes_27 (by decide) ?_
          refine lv_aload_n hx hb dX7_passes_42 rfl (lv_at hl 1 rfl) ?_
          refine lv_dup hx hb dX7_passes_43 rfl ?_
          refine g7_cursor hx hb hts hin hown hK hP (hts (.fieldLink RX7 140 "LoadedForTheLaneModel" "cursor" "I") (by decide +kernel)) dX7_passes_44 ?_
          refine lv_iconst (v := 1) hx hb dX7_passes_47 (by decide) ?_
          refine lv_iadd hx hb dX7_passes_48 ?_
          refine p7_cursor hx hb hts hin hown hK hP hd hS (hts (.fieldLink RX7 140 "LoadedForTheLaneModel" "cursor" "I") (by decide +kernel)) dX7_passes_49 (fun H locs hP hS => ?_)
          obtain ⟨wn_8, hwn_8⟩ : ∃ x, x = st wn_7 22 0 ((wn_7 22 0) + 1) := ⟨_, rfl⟩
          rw [← hwn_8] at hP
          have E := bns_e E hwn_8
          have ft8_cursor : (wn_8 22 0).toInt = ((wn_7 22 0) + 1).toInt := by rw [hwn_8]; rfl
          have := q_1
          have := i_add (a := wn_7 22 0) (b := 1) (by omega) (by omega)
          refine lv_iinc (v := x2_2 + 1) (lv' := [(2, .int (x2_2 + 1)), (0, .ref (ad 0)), (1, .ref (ad 7))]) hx hb dX7_passes_52 hl (k := 0) rfl rfl (by decide) rfl (fun ls hl => ?_)
          refine lv_goto (tgt := 2) hx hb dX7_passes_55 (by decide) ?_
          have := q_1
          try have := i_add (a := x2_2) (b := 1) (by omega) (by omega)
          exact ih_2 (x2_2 + 1) wn_8 H locs ls ⟨by omega, by omega, by omega⟩ (by omega) hP hS (lv_sub hl [0, 1, 2] rfl) E
  have := q_0
  exact L_2 13 0 w H locs ls ⟨by omega, by omega, by omega⟩ (by omega) hP hS (lv_sub hl [0, 1, 2] rfl) E

set_option maxHeartbeats 4000000 in
set_option maxRecDepth 100000 in
theorem kX7_passes_sort (l : Launch) (D : va_G) (cI : ClassId) (ad : Nat → Nat) (w : Nat → Nat → Int32) (hd : RD ad) (h1 : 0 ≤ (w 22 0).toInt) (h2 : (w 22 0).toInt ≤ 238) : Met l yX7_passes wsX7_passes rmX7_passes (va_Pc [Value.ref (ad 0), Value.ref (ad 8)] (fun U => va_P D vwCl (RM cI ad w) U.heap ∧ va_K D vwCl [(cI, .int)] U)) (va_Qv (fun u => u = sX7_passes_sort w ∧ ((u 22 0).toInt = (w 22 0).toInt + 12)) (fun u t => va_P D vwCl (RM cI ad u) t.heap) (RA ad)) 0 0 (RA ad) := by
  refine Met.ofW (cc := cX7_passes) (maxL := 3) (ret := none) (by decide) rfl ?_
  intro p e s m args below meth c s₁ B hml hv
  obtain ⟨rfl, hP, hK⟩ := hv
  have hx := B.exec
  have hb := B.bytes
  have hr := B.returns
  have hts := atoms_spec (ws := wsX7_passes) B.pre
  have hown : s.vm.findClass RX7 = some m.cls := findClass_of_methodNamed B.named
  have hlocks := B.notSynchronized
  have hin : ∀ q ∈ wsX70, q ∈ wsX7_passes := by decide +kernel
  have hl := lv_entry ([.ref (ad 0), .ref (ad 8)]) (n := 3) (Nat.le_of_ble_eq_true rfl)
  rw [lg_entry_eq]
  generalize (lg_sl ([.ref (ad 0), .ref (ad 8)]) ++ List.replicate (3 - (lg_sl ([.ref (ad 0), .ref (ad 8)])).length) Slot.unset).toArray = ls at hl ⊢
  have hl : lv_has ls 3 [(0, .ref (ad 0)), (1, .ref (ad 8))] := hl
  suffices hgo : ∀ (H : Heap) (locs : List Loc), va_P D vwCl (RM cI ad w) H → va_S (RA ad) s.heap H locs → W p l e (headSpec wsX7_passes rmX7_passes).room s m [Value.ref (ad 0), Value.ref (ad 8)].toArray below meth c H locs 0 0 (MQ below (va_Qv (fun u => u = sX7_passes_sort w ∧ ((u 22 0).toInt = (w 22 0).toInt + 12)) (fun u t => va_P D vwCl (RM cI ad u) t.heap) (RA ad)) [Value.ref (ad 0), Value.ref (ad 8)].toArray s 0 0 (RA ad)) (F0 m 0 ls []) from hgo s.heap [] hP va_S.rf
  intro H locs hP hS
  have E := sX7_passes_sort.eq_1 w
  refine lv_iconst (v := 0) hx hb dX7_passes_0 (by decide) ?_
  refine lv_istore_n (lv' := [(2, .int 0), (0, .ref (ad 0)), (1, .ref (ad 8))]) hx hb dX7_passes_1 rfl hl (by decide) rfl (fun ls hl => ?_)
  have L_2 : ∀ (n_2 : Nat) (x2_2 : Int32) (w_2 : Nat → Nat → Int32) (H : Heap) (locs : List Loc) (ls : Array Slot), (0 ≤ x2_2.toInt ∧ x2_2.toInt ≤ 12 ∧ (w_2 22 0).toInt = (w 22 0).toInt + x2_2.toInt) → (12 - x2_2.toInt < (n_2 : Int)) → va_P D vwCl (RM cI ad w_2) H → va_S (RA ad) s.heap H locs → lv_has ls 3 [(2, .int x2_2), (0, .ref (ad 0)), (1, .ref (ad 8))] → sX7_passes_sort w = sX7_passes_sort_2 n_2 x2_2 w_2 → W p l e (headSpec wsX7_passes rmX7_passes).room s m [Value.ref (ad 0), Value.ref (ad 8)].toArray below meth c H locs 0 0 (MQ below (va_Qv (fun u => u = sX7_passes_sort w ∧ ((u 22 0).toInt = (w 22 0).toInt + 12)) (fun u t => va_P D vwCl (RM cI ad u) t.heap) (RA ad)) [Value.ref (ad 0), Value.ref (ad 8)].toArray s 0 0 (RA ad)) (F0 m 2 ls []) := by
    intro n_2
    induction n_2 with
    | zero =>
      intro x2_2 w_2 H locs ls hinv hm
      obtain ⟨v0_2, v1_2, v2_2⟩ := hinv
      exact absurd hm (by omega)
    | succ n_2 ih_2 =>
      intro x2_2 w_2 H locs ls hinv hm_2 hP hS hl E
      obtain ⟨v0_2, v1_2, v2_2⟩ := hinv
      have E := E.trans (sX7_passes_sort_2.eq_2 ..)
      refine lv_iload_n hx hb dX7_passes_2 rfl (lv_at hl 0 rfl) ?_
      refine lv_aload_n hx hb dX7_passes_3 rfl (lv_at hl 2 rfl) ?_
      refine n7_sort (v := 12) hx hb hK hP (by decide) dX7_passes_4 ?_
      refine lv_icmp_ge (tgt := 58) hx hb dX7_passes_5 (by decide) (fun c_1 => ?_) (fun c_1 => ?_)
      · have E := E.trans (if_pos c_1)
        have fc_1 := i_le c_1
        rw [q_12] at fc_1
        exact W.vret hx hb hr (fun t ht hW => ⟨⟨w_2, rfl, ⟨E.symm, by omega⟩, by beta_reduce; rw [ht]; exact hP⟩, hS.F ht⟩) hS.2.2 dX7_passes_58
      · have E := E.trans (if_neg c_1)
        have fc_1 := i_nle c_1
        rw [q_12] at fc_1
        refine lv_aload_n hx hb dX7_passes_8 rfl (lv_at hl 1 rfl) ?_
        refine g7_isKeeping hx hb hts hin hown hK hP (hts (.fieldLink RX7 136 "LoadedForTheLaneModel" "isKeeping" "Z") (by decide +kernel)) dX7_passes_9 ?_
        refine lv_if_eq (tgt := 30) hx hb dX7_passes_12 (by decide) (fun c_2 => ?_) (fun c_2 => ?_)
        · have E := E.trans (if_pos c_2)
          have fc_2 := i_eq c_2
          rw [q_0] at fc_2
          refine lv_aload_n hx hb dX7_passes_30 rfl (lv_at hl 2 rfl) ?_
          refine lv_iload_n hx hb dX7_passes_31 rfl (lv_at hl 0 rfl) ?_
          refine lv_aload_n hx hb dX7_passes_32 rfl (lv_at hl 1 rfl) ?_
          refine g7_kept hx hb hts hin hown hK hP (hts (.fieldLink RX7 55 "LoadedForTheLaneModel" "kept" "[I") (by decide +kernel)) dX7_passes_33 ?_
          refine lv_aload_n hx hb dX7_passes_36 rfl (lv_at hl 1 rfl) ?_
          refine g7_cursor hx hb hts hin hown hK hP (hts (.fieldLink RX7 140 "LoadedForTheLaneModel" "cursor" "I") (by decide +kernel)) dX7_passes_37 ?_
          have ix_3 : vp_in (w_2 22 0) 250 := ix_of (by omega) (by omega)
          refine l7_kept (j := (w_2 22 0).toNatClampNeg) hx hb hK hP ix_3 rfl dX7_passes_40 ?_
          have ix_4 : vp_in x2_2 12 := ix_of (by omega) (by omega)
          refine a7_sort (j := x2_2.toNatClampNeg) hx hb hK hP hd hS ix_4 rfl dX7_passes_41 (fun H locs hP hS => ?_)
          obtain ⟨wn_4, hwn_4⟩ : ∃ x, x = st w_2 7 (x2_2.toNatClampNeg) (w_2 19 ((w_2 22 0).toNatClampNeg)) := ⟨_, rfl⟩
          rw [← hwn_4] at hP
          have E := bns_e E hwn_4
          have ft4_cursor : (wn_4 22 0).toInt = (w_2 22 0).toInt := by rw [hwn_4]; rfl
          have fv_4 : (wn_4 7 (x2_2.toNatClampNeg)).toInt = (w_2 19 ((w_2 22 0).toNatClampNeg)).toInt := by rw [hwn_4, st_rd]
          refine lv_aload_n hx hb dX7_passes_42 rfl (lv_at hl 1 rfl) ?_
          refine lv_dup hx hb dX7_passes_43 rfl ?_
          refine g7_cursor hx hb hts hin hown hK hP (hts (.fieldLink RX7 140 "LoadedForTheLaneModel" "cursor" "I") (by decide +kernel)) dX7_passes_44 ?_
          refine lv_iconst (v := 1) hx hb dX7_passes_47 (by decide) ?_
          refine lv_iadd hx hb dX7_passes_48 ?_
          refine p7_cursor hx hb hts hin hown hK hP hd hS (hts (.fieldLink RX7 140 "LoadedForTheLaneModel" "cursor" "I") (by decide +kernel)) dX7_passes_49 (fun H locs hP hS => ?_)
          obtain ⟨wn_5, hwn_5⟩ : ∃ x, x = st wn_4 22 0 ((wn_4 22 0) + 1) := ⟨_, rfl⟩
          rw [← hwn_5] at hP
          have E := bns_e E hwn_5
          have ft5_cursor : (wn_5 22 0).toInt = ((wn_4 22 0) + 1).toInt := by rw [hwn_5]; rfl
          have := q_1
          have := i_add (a := wn_4 22 0) (b := 1) (by omega) (by omega)
          refine lv_iinc (v := x2_2 + 1) (lv' := [(2, .int (x2_2 + 1)), (0, .ref (ad 0)), (1, .ref (ad 8))]) hx hb dX7_passes_52 hl (k := 0) rfl rfl (by decide) rfl (fun ls hl => ?_)
          refine lv_goto (tgt := 2) hx hb dX7_passes_55 (by decide) ?_
          have := q_1
          try have := i_add (a := x2_2) (b := 1) (by omega) (by omega)
          exact ih_2 (x2_2 + 1) wn_5 H locs ls ⟨by omega, by omega, by omega⟩ (by omega) hP hS (lv_sub hl [0, 1, 2] rfl) E
        · have E := E.trans (if_neg c_2)
          have fc_2 := i_ne c_2
          rw [q_0] at fc_2
          refine lv_aload_n hx hb dX7_passes_15 rfl (lv_at hl 1 rfl) ?_
          refine g7_kept hx hb hts hin hown hK hP (hts (.fieldLink RX7 55 "LoadedForTheLaneModel" "kept" "[I") (by decide +kernel)) dX7_passes_16 ?_
          refine lv_aload_n hx hb dX7_passes_19 rfl (lv_at hl 1 rfl) ?_
          refine g7_cursor hx hb hts hin hown hK hP (hts (.fieldLink RX7 140 "LoadedForTheLaneModel" "cursor" "I") (by decide +kernel)) dX7_passes_20 ?_
          refine lv_aload_n hx hb dX7_passes_23 rfl (lv_at hl 2 rfl) ?_
          refine lv_iload_n hx hb dX7_passes_24 rfl (lv_at hl 0 rfl) ?_
          have ix_6 : vp_in x2_2 12 := ix_of (by omega) (by omega)
          refine l7_sort (j := x2_2.toNatClampNeg) hx hb hK hP ix_6 rfl dX7_passes_25 ?_
          have ix_7 : vp_in (w_2 22 0) 250 := ix_of (by omega) (by omega)
          refine a7_kept (j := (w_2 22 0).toNatClampNeg) hx hb hK hP hd hS ix_7 rfl dX7_passes_26 (fun H locs hP hS => ?_)
          obtain ⟨wn_7, hwn_7⟩ : ∃ x, x = st w_2 19 ((w_2 22 0).toNatClampNeg) (w_2 7 (x2_2.toNatClampNeg)) := ⟨_, rfl⟩
          rw [← hwn_7] at hP
          have E := bns_e E hwn_7
          have ft7_cursor : (wn_7 22 0).toInt = (w_2 22 0).toInt := by rw [hwn_7]; rfl
          have fv_7 : (wn_7 19 ((w_2 22 0).toNatClampNeg)).toInt = (w_2 7 (x2_2.toNatClampNeg)).toInt := by rw [hwn_7, st_rd]
          refine lv_goto (tgt := 42) hx hb dX7_passes_27 (by decide) ?_
          refine lv_aload_n hx hb dX7_passes_42 rfl (lv_at hl 1 rfl) ?_
          refine lv_dup hx hb dX7_passes_43 rfl ?_
          refine g7_cursor hx hb hts hin hown hK hP (hts (.fieldLink RX7 140 "LoadedForTheLaneModel" "cursor" "I") (by decide +kernel)) dX7_passes_44 ?_
          refine lv_iconst (v := 1) hx hb dX7_passes_47 (by decide) ?_
          refine lv_iadd hx hb dX7_passes_48 ?_
          refine p7_cursor hx hb hts hin hown hK hP hd hS (hts (.fieldLink RX7 140 "LoadedForTheLaneModel" "cursor" "I") (by decide +kernel)) dX7_passes_49 (fun H locs hP hS => ?_)
          obtain ⟨wn_8, hwn_8⟩ : ∃ x, x = st wn_7 22 0 ((wn_7 22 0) + 1) := ⟨_, rfl⟩
          rw [← hwn_8] at hP
          have E := bns_e E hwn_8
          have ft8_cursor : (wn_8 22 0).toInt = ((wn_7 22 0) + 1).toInt := by rw [hwn_8]; rfl
          have := q_1
          have := i_add (a := wn_7 22 0) (b := 1) (by omega) (by omega)
          refine lv_iinc (v := x2_2 + 1) (lv' := [(2, .int (x2_2 + 1)), (0, .ref (ad 0)), (1, .ref (ad 8))]) hx hb dX7_passes_52 hl (k := 0) rfl rfl (by decide) rfl (fun ls hl => ?_)
          refine lv_goto (tgt := 2) hx hb dX7_passes_55 (by decide) ?_
          have := q_1
          try have := i_add (a := x2_2) (b := 1) (by omega) (by omega)
          exact ih_2 (x2_2 + 1) wn_8 H locs ls ⟨by omega, by omega, by omega⟩ (by omega) hP hS (lv_sub hl [0, 1, 2] rfl) E
  have := q_0
  exact L_2 13 0 w H locs ls ⟨by omega, by omega, by omega⟩ (by omega) hP hS (lv_sub hl [0, 1, 2] rfl) E

set_option maxHeartbeats 4000000 in
set_option maxRecDepth 100000 in
theorem kX7_passes_figure (l : Launch) (D : va_G) (cI : ClassId) (ad : Nat → Nat) (w : Nat → Nat → Int32) (hd : RD ad) (h1 : 0 ≤ (w 22 0).toInt) (h2 : (w 22 0).toInt ≤ 238) : Met l yX7_passes wsX7_passes rmX7_passes (va_Pc [Value.ref (ad 0), Value.ref (ad 9)] (fun U => va_P D vwCl (RM cI ad w) U.heap ∧ va_K D vwCl [(cI, .int)] U)) (va_Qv (fun u => u = sX7_passes_figure w ∧ ((u 22 0).toInt = (w 22 0).toInt + 12)) (fun u t => va_P D vwCl (RM cI ad u) t.heap) (RA ad)) 0 0 (RA ad) := by
  refine Met.ofW (cc := cX7_passes) (maxL := 3) (ret := none) (by decide) rfl ?_
  intro p e s m args below meth c s₁ B hml hv
  obtain ⟨rfl, hP, hK⟩ := hv
  have hx := B.exec
  have hb := B.bytes
  have hr := B.returns
  have hts := atoms_spec (ws := wsX7_passes) B.pre
  have hown : s.vm.findClass RX7 = some m.cls := findClass_of_methodNamed B.named
  have hlocks := B.notSynchronized
  have hin : ∀ q ∈ wsX70, q ∈ wsX7_passes := by decide +kernel
  have hl := lv_entry ([.ref (ad 0), .ref (ad 9)]) (n := 3) (Nat.le_of_ble_eq_true rfl)
  rw [lg_entry_eq]
  generalize (lg_sl ([.ref (ad 0), .ref (ad 9)]) ++ List.replicate (3 - (lg_sl ([.ref (ad 0), .ref (ad 9)])).length) Slot.unset).toArray = ls at hl ⊢
  have hl : lv_has ls 3 [(0, .ref (ad 0)), (1, .ref (ad 9))] := hl
  suffices hgo : ∀ (H : Heap) (locs : List Loc), va_P D vwCl (RM cI ad w) H → va_S (RA ad) s.heap H locs → W p l e (headSpec wsX7_passes rmX7_passes).room s m [Value.ref (ad 0), Value.ref (ad 9)].toArray below meth c H locs 0 0 (MQ below (va_Qv (fun u => u = sX7_passes_figure w ∧ ((u 22 0).toInt = (w 22 0).toInt + 12)) (fun u t => va_P D vwCl (RM cI ad u) t.heap) (RA ad)) [Value.ref (ad 0), Value.ref (ad 9)].toArray s 0 0 (RA ad)) (F0 m 0 ls []) from hgo s.heap [] hP va_S.rf
  intro H locs hP hS
  have E := sX7_passes_figure.eq_1 w
  refine lv_iconst (v := 0) hx hb dX7_passes_0 (by decide) ?_
  refine lv_istore_n (lv' := [(2, .int 0), (0, .ref (ad 0)), (1, .ref (ad 9))]) hx hb dX7_passes_1 rfl hl (by decide) rfl (fun ls hl => ?_)
  have L_2 : ∀ (n_2 : Nat) (x2_2 : Int32) (w_2 : Nat → Nat → Int32) (H : Heap) (locs : List Loc) (ls : Array Slot), (0 ≤ x2_2.toInt ∧ x2_2.toInt ≤ 12 ∧ (w_2 22 0).toInt = (w 22 0).toInt + x2_2.toInt) → (12 - x2_2.toInt < (n_2 : Int)) → va_P D vwCl (RM cI ad w_2) H → va_S (RA ad) s.heap H locs → lv_has ls 3 [(2, .int x2_2), (0, .ref (ad 0)), (1, .ref (ad 9))] → sX7_passes_figure w = sX7_passes_figure_2 n_2 x2_2 w_2 → W p l e (headSpec wsX7_passes rmX7_passes).room s m [Value.ref (ad 0), Value.ref (ad 9)].toArray below meth c H locs 0 0 (MQ below (va_Qv (fun u => u = sX7_passes_figure w ∧ ((u 22 0).toInt = (w 22 0).toInt + 12)) (fun u t => va_P D vwCl (RM cI ad u) t.heap) (RA ad)) [Value.ref (ad 0), Value.ref (ad 9)].toArray s 0 0 (RA ad)) (F0 m 2 ls []) := by
    intro n_2
    induction n_2 with
    | zero =>
      intro x2_2 w_2 H locs ls hinv hm
      obtain ⟨v0_2, v1_2, v2_2⟩ := hinv
      exact absurd hm (by omega)
    | succ n_2 ih_2 =>
      intro x2_2 w_2 H locs ls hinv hm_2 hP hS hl E
      obtain ⟨v0_2, v1_2, v2_2⟩ := hinv
      have E := E.trans (sX7_passes_figure_2.eq_2 ..)
      refine lv_iload_n hx hb dX7_passes_2 rfl (lv_at hl 0 rfl) ?_
      refine lv_aload_n hx hb dX7_passes_3 rfl (lv_at hl 2 rfl) ?_
      refine n7_figure (v := 12) hx hb hK hP (by decide) dX7_passes_4 ?_
      refine lv_icmp_ge (tgt := 58) hx hb dX7_passes_5 (by decide) (fun c_1 => ?_) (fun c_1 => ?_)
      · have E := E.trans (if_pos c_1)
        have fc_1 := i_le c_1
        rw [q_12] at fc_1
        exact W.vret hx hb hr (fun t ht hW => ⟨⟨w_2, rfl, ⟨E.symm, by omega⟩, by beta_reduce; rw [ht]; exact hP⟩, hS.F ht⟩) hS.2.2 dX7_passes_58
      · have E := E.trans (if_neg c_1)
        have fc_1 := i_nle c_1
        rw [q_12] at fc_1
        refine lv_aload_n hx hb dX7_passes_8 rfl (lv_at hl 1 rfl) ?_
        refine g7_isKeeping hx hb hts hin hown hK hP (hts (.fieldLink RX7 136 "LoadedForTheLaneModel" "isKeeping" "Z") (by decide +kernel)) dX7_passes_9 ?_
        refine lv_if_eq (tgt := 30) hx hb dX7_passes_12 (by decide) (fun c_2 => ?_) (fun c_2 => ?_)
        · have E := E.trans (if_pos c_2)
          have fc_2 := i_eq c_2
          rw [q_0] at fc_2
          refine lv_aload_n hx hb dX7_passes_30 rfl (lv_at hl 2 rfl) ?_
          refine lv_iload_n hx hb dX7_passes_31 rfl (lv_at hl 0 rfl) ?_
          refine lv_aload_n hx hb dX7_passes_32 rfl (lv_at hl 1 rfl) ?_
          refine g7_kept hx hb hts hin hown hK hP (hts (.fieldLink RX7 55 "LoadedForTheLaneModel" "kept" "[I") (by decide +kernel)) dX7_passes_33 ?_
          refine lv_aload_n hx hb dX7_passes_36 rfl (lv_at hl 1 rfl) ?_
          refine g7_cursor hx hb hts hin hown hK hP (hts (.fieldLink RX7 140 "LoadedForTheLaneModel" "cursor" "I") (by decide +kernel)) dX7_passes_37 ?_
          have ix_3 : vp_in (w_2 22 0) 250 := ix_of (by omega) (by omega)
          refine l7_kept (j := (w_2 22 0).toNatClampNeg) hx hb hK hP ix_3 rfl dX7_passes_40 ?_
          have ix_4 : vp_in x2_2 12 := ix_of (by omega) (by omega)
          refine a7_figure (j := x2_2.toNatClampNeg) hx hb hK hP hd hS ix_4 rfl dX7_passes_41 (fun H locs hP hS => ?_)
          obtain ⟨wn_4, hwn_4⟩ : ∃ x, x = st w_2 8 (x2_2.toNatClampNeg) (w_2 19 ((w_2 22 0).toNatClampNeg)) := ⟨_, rfl⟩
          rw [← hwn_4] at hP
          have E := bns_e E hwn_4
          have ft4_cursor : (wn_4 22 0).toInt = (w_2 22 0).toInt := by rw [hwn_4]; rfl
          have fv_4 : (wn_4 8 (x2_2.toNatClampNeg)).toInt = (w_2 19 ((w_2 22 0).toNatClampNeg)).toInt := by rw [hwn_4, st_rd]
          refine lv_aload_n hx hb dX7_passes_42 rfl (lv_at hl 1 rfl) ?_
          refine lv_dup hx hb dX7_passes_43 rfl ?_
          refine g7_cursor hx hb hts hin hown hK hP (hts (.fieldLink RX7 140 "LoadedForTheLaneModel" "cursor" "I") (by decide +kernel)) dX7_passes_44 ?_
          refine lv_iconst (v := 1) hx hb dX7_passes_47 (by decide) ?_
          refine lv_iadd hx hb dX7_passes_48 ?_
          refine p7_cursor hx hb hts hin hown hK hP hd hS (hts (.fieldLink RX7 140 "LoadedForTheLaneModel" "cursor" "I") (by decide +kernel)) dX7_passes_49 (fun H locs hP hS => ?_)
          obtain ⟨wn_5, hwn_5⟩ : ∃ x, x = st wn_4 22 0 ((wn_4 22 0) + 1) := ⟨_, rfl⟩
          rw [← hwn_5] at hP
          have E := bns_e E hwn_5
          have ft5_cursor : (wn_5 22 0).toInt = ((wn_4 22 0) + 1).toInt := by rw [hwn_5]; rfl
          have := q_1
          have := i_add (a := wn_4 22 0) (b := 1) (by omega) (by omega)
          refine lv_iinc (v := x2_2 + 1) (lv' := [(2, .int (x2_2 + 1)), (0, .ref (ad 0)), (1, .ref (ad 9))]) hx hb dX7_passes_52 hl (k := 0) rfl rfl (by decide) rfl (fun ls hl => ?_)
          refine lv_goto (tgt := 2) hx hb dX7_passes_55 (by decide) ?_
          have := q_1
          try have := i_add (a := x2_2) (b := 1) (by omega) (by omega)
          exact ih_2 (x2_2 + 1) wn_5 H locs ls ⟨by omega, by omega, by omega⟩ (by omega) hP hS (lv_sub hl [0, 1, 2] rfl) E
        · have E := E.trans (if_neg c_2)
          have fc_2 := i_ne c_2
          rw [q_0] at fc_2
          refine lv_aload_n hx hb dX7_passes_15 rfl (lv_at hl 1 rfl) ?_
          refine g7_kept hx hb hts hin hown hK hP (hts (.fieldLink RX7 55 "LoadedForTheLaneModel" "kept" "[I") (by decide +kernel)) dX7_passes_16 ?_
          refine lv_aload_n hx hb dX7_passes_19 rfl (lv_at hl 1 rfl) ?_
          refine g7_cursor hx hb hts hin hown hK hP (hts (.fieldLink RX7 140 "LoadedForTheLaneModel" "cursor" "I") (by decide +kernel)) dX7_passes_20 ?_
          refine lv_aload_n hx hb dX7_passes_23 rfl (lv_at hl 2 rfl) ?_
          refine lv_iload_n hx hb dX7_passes_24 rfl (lv_at hl 0 rfl) ?_
          have ix_6 : vp_in x2_2 12 := ix_of (by omega) (by omega)
          refine l7_figure (j := x2_2.toNatClampNeg) hx hb hK hP ix_6 rfl dX7_passes_25 ?_
          have ix_7 : vp_in (w_2 22 0) 250 := ix_of (by omega) (by omega)
          refine a7_kept (j := (w_2 22 0).toNatClampNeg) hx hb hK hP hd hS ix_7 rfl dX7_passes_26 (fun H locs hP hS => ?_)
          obtain ⟨wn_7, hwn_7⟩ : ∃ x, x = st w_2 19 ((w_2 22 0).toNatClampNeg) (w_2 8 (x2_2.toNatClampNeg)) := ⟨_, rfl⟩
          rw [← hwn_7] at hP
          have E := bns_e E hwn_7
          have ft7_cursor : (wn_7 22 0).toInt = (w_2 22 0).toInt := by rw [hwn_7]; rfl
          have fv_7 : (wn_7 19 ((w_2 22 0).toNatClampNeg)).toInt = (w_2 8 (x2_2.toNatClampNeg)).toInt := by rw [hwn_7, st_rd]
          refine lv_goto (tgt := 42) hx hb dX7_passes_27 (by decide) ?_
          refine lv_aload_n hx hb dX7_passes_42 rfl (lv_at hl 1 rfl) ?_
          refine lv_dup hx hb dX7_passes_43 rfl ?_
          refine g7_cursor hx hb hts hin hown hK hP (hts (.fieldLink RX7 140 "LoadedForTheLaneModel" "cursor" "I") (by decide +kernel)) dX7_passes_44 ?_
          refine lv_iconst (v := 1) hx hb dX7_passes_47 (by decide) ?_
          refine lv_iadd hx hb dX7_passes_48 ?_
          refine p7_cursor hx hb hts hin hown hK hP hd hS (hts (.fieldLink RX7 140 "LoadedForTheLaneModel" "cursor" "I") (by decide +kernel)) dX7_passes_49 (fun H locs hP hS => ?_)
          obtain ⟨wn_8, hwn_8⟩ : ∃ x, x = st wn_7 22 0 ((wn_7 22 0) + 1) := ⟨_, rfl⟩
          rw [← hwn_8] at hP
          have E := bns_e E hwn_8
          have ft8_cursor : (wn_8 22 0).toInt = ((wn_7 22 0) + 1).toInt := by rw [hwn_8]; rfl
          have := q_1
          have := i_add (a := wn_7 22 0) (b := 1) (by omega) (by omega)
          refine lv_iinc (v := x2_2 + 1) (lv' := [(2, .int (x2_2 + 1)), (0, .ref (ad 0)), (1, .ref (ad 9))]) hx hb dX7_passes_52 hl (k := 0) rfl rfl (by decide) rfl (fun ls hl => ?_)
          refine lv_goto (tgt := 2) hx hb dX7_passes_55 (by decide) ?_
          have := q_1
          try have := i_add (a := x2_2) (b := 1) (by omega) (by omega)
          exact ih_2 (x2_2 + 1) wn_8 H locs ls ⟨by omega, by omega, by omega⟩ (by omega) hP hS (lv_sub hl [0, 1, 2] rfl) E
  have := q_0
  exact L_2 13 0 w H locs ls ⟨by omega, by omega, by omega⟩ (by omega) hP hS (lv_sub hl [0, 1, 2] rfl) E

set_option maxHeartbeats 4000000 in
set_option maxRecDepth 100000 in
theorem kX7_passes_lasting (l : Launch) (D : va_G) (cI : ClassId) (ad : Nat → Nat) (w : Nat → Nat → Int32) (hd : RD ad) (h1 : 0 ≤ (w 22 0).toInt) (h2 : (w 22 0).toInt ≤ 238) : Met l yX7_passes wsX7_passes rmX7_passes (va_Pc [Value.ref (ad 0), Value.ref (ad 10)] (fun U => va_P D vwCl (RM cI ad w) U.heap ∧ va_K D vwCl [(cI, .int)] U)) (va_Qv (fun u => u = sX7_passes_lasting w ∧ ((u 22 0).toInt = (w 22 0).toInt + 12)) (fun u t => va_P D vwCl (RM cI ad u) t.heap) (RA ad)) 0 0 (RA ad) := by
  refine Met.ofW (cc := cX7_passes) (maxL := 3) (ret := none) (by decide) rfl ?_
  intro p e s m args below meth c s₁ B hml hv
  obtain ⟨rfl, hP, hK⟩ := hv
  have hx := B.exec
  have hb := B.bytes
  have hr := B.returns
  have hts := atoms_spec (ws := wsX7_passes) B.pre
  have hown : s.vm.findClass RX7 = some m.cls := findClass_of_methodNamed B.named
  have hlocks := B.notSynchronized
  have hin : ∀ q ∈ wsX70, q ∈ wsX7_passes := by decide +kernel
  have hl := lv_entry ([.ref (ad 0), .ref (ad 10)]) (n := 3) (Nat.le_of_ble_eq_true rfl)
  rw [lg_entry_eq]
  generalize (lg_sl ([.ref (ad 0), .ref (ad 10)]) ++ List.replicate (3 - (lg_sl ([.ref (ad 0), .ref (ad 10)])).length) Slot.unset).toArray = ls at hl ⊢
  have hl : lv_has ls 3 [(0, .ref (ad 0)), (1, .ref (ad 10))] := hl
  suffices hgo : ∀ (H : Heap) (locs : List Loc), va_P D vwCl (RM cI ad w) H → va_S (RA ad) s.heap H locs → W p l e (headSpec wsX7_passes rmX7_passes).room s m [Value.ref (ad 0), Value.ref (ad 10)].toArray below meth c H locs 0 0 (MQ below (va_Qv (fun u => u = sX7_passes_lasting w ∧ ((u 22 0).toInt = (w 22 0).toInt + 12)) (fun u t => va_P D vwCl (RM cI ad u) t.heap) (RA ad)) [Value.ref (ad 0), Value.ref (ad 10)].toArray s 0 0 (RA ad)) (F0 m 0 ls []) from hgo s.heap [] hP va_S.rf
  intro H locs hP hS
  have E := sX7_passes_lasting.eq_1 w
  refine lv_iconst (v := 0) hx hb dX7_passes_0 (by decide) ?_
  refine lv_istore_n (lv' := [(2, .int 0), (0, .ref (ad 0)), (1, .ref (ad 10))]) hx hb dX7_passes_1 rfl hl (by decide) rfl (fun ls hl => ?_)
  have L_2 : ∀ (n_2 : Nat) (x2_2 : Int32) (w_2 : Nat → Nat → Int32) (H : Heap) (locs : List Loc) (ls : Array Slot), (0 ≤ x2_2.toInt ∧ x2_2.toInt ≤ 12 ∧ (w_2 22 0).toInt = (w 22 0).toInt + x2_2.toInt) → (12 - x2_2.toInt < (n_2 : Int)) → va_P D vwCl (RM cI ad w_2) H → va_S (RA ad) s.heap H locs → lv_has ls 3 [(2, .int x2_2), (0, .ref (ad 0)), (1, .ref (ad 10))] → sX7_passes_lasting w = sX7_passes_lasting_2 n_2 x2_2 w_2 → W p l e (headSpec wsX7_passes rmX7_passes).room s m [Value.ref (ad 0), Value.ref (ad 10)].toArray below meth c H locs 0 0 (MQ below (va_Qv (fun u => u = sX7_passes_lasting w ∧ ((u 22 0).toInt = (w 22 0).toInt + 12)) (fun u t => va_P D vwCl (RM cI ad u) t.heap) (RA ad)) [Value.ref (ad 0), Value.ref (ad 10)].toArray s 0 0 (RA ad)) (F0 m 2 ls []) := by
    intro n_2
    induction n_2 with
    | zero =>
      intro x2_2 w_2 H locs ls hinv hm
      obtain ⟨v0_2, v1_2, v2_2⟩ := hinv
      exact absurd hm (by omega)
    | succ n_2 ih_2 =>
      intro x2_2 w_2 H locs ls hinv hm_2 hP hS hl E
      obtain ⟨v0_2, v1_2, v2_2⟩ := hinv
      have E := E.trans (sX7_passes_lasting_2.eq_2 ..)
      refine lv_iload_n hx hb dX7_passes_2 rfl (lv_at hl 0 rfl) ?_
      refine lv_aload_n hx hb dX7_passes_3 rfl (lv_at hl 2 rfl) ?_
      refine n7_lasting (v := 12) hx hb hK hP (by decide) dX7_passes_4 ?_
      refine lv_icmp_ge (tgt := 58) hx hb dX7_passes_5 (by decide) (fun c_1 => ?_) (fun c_1 => ?_)
      · have E := E.trans (if_pos c_1)
        have fc_1 := i_le c_1
        rw [q_12] at fc_1
        exact W.vret hx hb hr (fun t ht hW => ⟨⟨w_2, rfl, ⟨E.symm, by omega⟩, by beta_reduce; rw [ht]; exact hP⟩, hS.F ht⟩) hS.2.2 dX7_passes_58
      · have E := E.trans (if_neg c_1)
        have fc_1 := i_nle c_1
        rw [q_12] at fc_1
        refine lv_aload_n hx hb dX7_passes_8 rfl (lv_at hl 1 rfl) ?_
        refine g7_isKeeping hx hb hts hin hown hK hP (hts (.fieldLink RX7 136 "LoadedForTheLaneModel" "isKeeping" "Z") (by decide +kernel)) dX7_passes_9 ?_
        refine lv_if_eq (tgt := 30) hx hb dX7_passes_12 (by decide) (fun c_2 => ?_) (fun c_2 => ?_)
        · have E := E.trans (if_pos c_2)
          have fc_2 := i_eq c_2
          rw [q_0] at fc_2
          refine lv_aload_n hx hb dX7_passes_30 rfl (lv_at hl 2 rfl) ?_
          refine lv_iload_n hx hb dX7_passes_31 rfl (lv_at hl 0 rfl) ?_
          refine lv_aload_n hx hb dX7_passes_32 rfl (lv_at hl 1 rfl) ?_
          refine g7_kept hx hb hts hin hown hK hP (hts (.fieldLink RX7 55 "LoadedForTheLaneModel" "kept" "[I") (by decide +kernel)) dX7_passes_33 ?_
          refine lv_aload_n hx hb dX7_passes_36 rfl (lv_at hl 1 rfl) ?_
          refine g7_cursor hx hb hts hin hown hK hP (hts (.fieldLink RX7 140 "LoadedForTheLaneModel" "cursor" "I") (by decide +kernel)) dX7_passes_37 ?_
          have ix_3 : vp_in (w_2 22 0) 250 := ix_of (by omega) (by omega)
          refine l7_kept (j := (w_2 22 0).toNatClampNeg) hx hb hK hP ix_3 rfl dX7_passes_40 ?_
          have ix_4 : vp_in x2_2 12 := ix_of (by omega) (by omega)
          refine a7_lasting (j := x2_2.toNatClampNeg) hx hb hK hP hd hS ix_4 rfl dX7_passes_41 (fun H locs hP hS => ?_)
          obtain ⟨wn_4, hwn_4⟩ : ∃ x, x = st w_2 9 (x2_2.toNatClampNeg) (w_2 19 ((w_2 22 0).toNatClampNeg)) := ⟨_, rfl⟩
          rw [← hwn_4] at hP
          have E := bns_e E hwn_4
          have ft4_cursor : (wn_4 22 0).toInt = (w_2 22 0).toInt := by rw [hwn_4]; rfl
          have fv_4 : (wn_4 9 (x2_2.toNatClampNeg)).toInt = (w_2 19 ((w_2 22 0).toNatClampNeg)).toInt := by rw [hwn_4, st_rd]
          refine lv_aload_n hx hb dX7_passes_42 rfl (lv_at hl 1 rfl) ?_
          refine lv_dup hx hb dX7_passes_43 rfl ?_
          refine g7_cursor hx hb hts hin hown hK hP (hts (.fieldLink RX7 140 "LoadedForTheLaneModel" "cursor" "I") (by decide +kernel)) dX7_passes_44 ?_
          refine lv_iconst (v := 1) hx hb dX7_passes_47 (by decide) ?_
          refine lv_iadd hx hb dX7_passes_48 ?_
          refine p7_cursor hx hb hts hin hown hK hP hd hS (hts (.fieldLink RX7 140 "LoadedForTheLaneModel" "cursor" "I") (by decide +kernel)) dX7_passes_49 (fun H locs hP hS => ?_)
          obtain ⟨wn_5, hwn_5⟩ : ∃ x, x = st wn_4 22 0 ((wn_4 22 0) + 1) := ⟨_, rfl⟩
          rw [← hwn_5] at hP
          have E := bns_e E hwn_5
          have ft5_cursor : (wn_5 22 0).toInt = ((wn_4 22 0) + 1).toInt := by rw [hwn_5]; rfl
          have := q_1
          have := i_add (a := wn_4 22 0) (b := 1) (by omega) (by omega)
          refine lv_iinc (v := x2_2 + 1) (lv' := [(2, .int (x2_2 + 1)), (0, .ref (ad 0)), (1, .ref (ad 10))]) hx hb dX7_passes_52 hl (k := 0) rfl rfl (by decide) rfl (fun ls hl => ?_)
          refine lv_goto (tgt := 2) hx hb dX7_passes_55 (by decide) ?_
          have := q_1
          try have := i_add (a := x2_2) (b := 1) (by omega) (by omega)
          exact ih_2 (x2_2 + 1) wn_5 H locs ls ⟨by omega, by omega, by omega⟩ (by omega) hP hS (lv_sub hl [0, 1, 2] rfl) E
        · have E := E.trans (if_neg c_2)
          have fc_2 := i_ne c_2
          rw [q_0] at fc_2
          refine lv_aload_n hx hb dX7_passes_15 rfl (lv_at hl 1 rfl) ?_
          refine g7_kept hx hb hts hin hown hK hP (hts (.fieldLink RX7 55 "LoadedForTheLaneModel" "kept" "[I") (by decide +kernel)) dX7_passes_16 ?_
          refine lv_aload_n hx hb dX7_passes_19 rfl (lv_at hl 1 rfl) ?_
          refine g7_cursor hx hb hts hin hown hK hP (hts (.fieldLink RX7 140 "LoadedForTheLaneModel" "cursor" "I") (by decide +kernel)) dX7_passes_20 ?_
          refine lv_aload_n hx hb dX7_passes_23 rfl (lv_at hl 2 rfl) ?_
          refine lv_iload_n hx hb dX7_passes_24 rfl (lv_at hl 0 rfl) ?_
          have ix_6 : vp_in x2_2 12 := ix_of (by omega) (by omega)
          refine l7_lasting (j := x2_2.toNatClampNeg) hx hb hK hP ix_6 rfl dX7_passes_25 ?_
          have ix_7 : vp_in (w_2 22 0) 250 := ix_of (by omega) (by omega)
          refine a7_kept (j := (w_2 22 0).toNatClampNeg) hx hb hK hP hd hS ix_7 rfl dX7_passes_26 (fun H locs hP hS => ?_)
          obtain ⟨wn_7, hwn_7⟩ : ∃ x, x = st w_2 19 ((w_2 22 0).toNatClampNeg) (w_2 9 (x2_2.toNatClampNeg)) := ⟨_, rfl⟩
          rw [← hwn_7] at hP
          have E := bns_e E hwn_7
          have ft7_cursor : (wn_7 22 0).toInt = (w_2 22 0).toInt := by rw [hwn_7]; rfl
          have fv_7 : (wn_7 19 ((w_2 22 0).toNatClampNeg)).toInt = (w_2 9 (x2_2.toNatClampNeg)).toInt := by rw [hwn_7, st_rd]
          refine lv_goto (tgt := 42) hx hb dX7_passes_27 (by decide) ?_
          refine lv_aload_n hx hb dX7_passes_42 rfl (lv_at hl 1 rfl) ?_
          refine lv_dup hx hb dX7_passes_43 rfl ?_
          refine g7_cursor hx hb hts hin hown hK hP (hts (.fieldLink RX7 140 "LoadedForTheLaneModel" "cursor" "I") (by decide +kernel)) dX7_passes_44 ?_
          refine lv_iconst (v := 1) hx hb dX7_passes_47 (by decide) ?_
          refine lv_iadd hx hb dX7_passes_48 ?_
          refine p7_cursor hx hb hts hin hown hK hP hd hS (hts (.fieldLink RX7 140 "LoadedForTheLaneModel" "cursor" "I") (by decide +kernel)) dX7_passes_49 (fun H locs hP hS => ?_)
          obtain ⟨wn_8, hwn_8⟩ : ∃ x, x = st wn_7 22 0 ((wn_7 22 0) + 1) := ⟨_, rfl⟩
          rw [← hwn_8] at hP
          have E := bns_e E hwn_8
          have ft8_cursor : (wn_8 22 0).toInt = ((wn_7 22 0) + 1).toInt := by rw [hwn_8]; rfl
          have := q_1
          have := i_add (a := wn_7 22 0) (b := 1) (by omega) (by omega)
          refine lv_iinc (v := x2_2 + 1) (lv' := [(2, .int (x2_2 + 1)), (0, .ref (ad 0)), (1, .ref (ad 10))]) hx hb dX7_passes_52 hl (k := 0) rfl rfl (by decide) rfl (fun ls hl => ?_)
          refine lv_goto (tgt := 2) hx hb dX7_passes_55 (by decide) ?_
          have := q_1
          try have := i_add (a := x2_2) (b := 1) (by omega) (by omega)
          exact ih_2 (x2_2 + 1) wn_8 H locs ls ⟨by omega, by omega, by omega⟩ (by omega) hP hS (lv_sub hl [0, 1, 2] rfl) E
  have := q_0
  exact L_2 13 0 w H locs ls ⟨by omega, by omega, by omega⟩ (by omega) hP hS (lv_sub hl [0, 1, 2] rfl) E

set_option maxHeartbeats 4000000 in
set_option maxRecDepth 100000 in
theorem kX7_passes_pieces (l : Launch) (D : va_G) (cI : ClassId) (ad : Nat → Nat) (w : Nat → Nat → Int32) (hd : RD ad) (h1 : 0 ≤ (w 22 0).toInt) (h2 : (w 22 0).toInt ≤ 248) : Met l yX7_passes wsX7_passes rmX7_passes (va_Pc [Value.ref (ad 0), Value.ref (ad 11)] (fun U => va_P D vwCl (RM cI ad w) U.heap ∧ va_K D vwCl [(cI, .int)] U)) (va_Qv (fun u => u = sX7_passes_pieces w ∧ ((u 22 0).toInt = (w 22 0).toInt + 2)) (fun u t => va_P D vwCl (RM cI ad u) t.heap) (RA ad)) 0 0 (RA ad) := by
  refine Met.ofW (cc := cX7_passes) (maxL := 3) (ret := none) (by decide) rfl ?_
  intro p e s m args below meth c s₁ B hml hv
  obtain ⟨rfl, hP, hK⟩ := hv
  have hx := B.exec
  have hb := B.bytes
  have hr := B.returns
  have hts := atoms_spec (ws := wsX7_passes) B.pre
  have hown : s.vm.findClass RX7 = some m.cls := findClass_of_methodNamed B.named
  have hlocks := B.notSynchronized
  have hin : ∀ q ∈ wsX70, q ∈ wsX7_passes := by decide +kernel
  have hl := lv_entry ([.ref (ad 0), .ref (ad 11)]) (n := 3) (Nat.le_of_ble_eq_true rfl)
  rw [lg_entry_eq]
  generalize (lg_sl ([.ref (ad 0), .ref (ad 11)]) ++ List.replicate (3 - (lg_sl ([.ref (ad 0), .ref (ad 11)])).length) Slot.unset).toArray = ls at hl ⊢
  have hl : lv_has ls 3 [(0, .ref (ad 0)), (1, .ref (ad 11))] := hl
  suffices hgo : ∀ (H : Heap) (locs : List Loc), va_P D vwCl (RM cI ad w) H → va_S (RA ad) s.heap H locs → W p l e (headSpec wsX7_passes rmX7_passes).room s m [Value.ref (ad 0), Value.ref (ad 11)].toArray below meth c H locs 0 0 (MQ below (va_Qv (fun u => u = sX7_passes_pieces w ∧ ((u 22 0).toInt = (w 22 0).toInt + 2)) (fun u t => va_P D vwCl (RM cI ad u) t.heap) (RA ad)) [Value.ref (ad 0), Value.ref (ad 11)].toArray s 0 0 (RA ad)) (F0 m 0 ls []) from hgo s.heap [] hP va_S.rf
  intro H locs hP hS
  have E := sX7_passes_pieces.eq_1 w
  refine lv_iconst (v := 0) hx hb dX7_passes_0 (by decide) ?_
  refine lv_istore_n (lv' := [(2, .int 0), (0, .ref (ad 0)), (1, .ref (ad 11))]) hx hb dX7_passes_1 rfl hl (by decide) rfl (fun ls hl => ?_)
  have L_2 : ∀ (n_2 : Nat) (x2_2 : Int32) (w_2 : Nat → Nat → Int32) (H : Heap) (locs : List Loc) (ls : Array Slot), (0 ≤ x2_2.toInt ∧ x2_2.toInt ≤ 2 ∧ (w_2 22 0).toInt = (w 22 0).toInt + x2_2.toInt) → (2 - x2_2.toInt < (n_2 : Int)) → va_P D vwCl (RM cI ad w_2) H → va_S (RA ad) s.heap H locs → lv_has ls 3 [(2, .int x2_2), (0, .ref (ad 0)), (1, .ref (ad 11))] → sX7_passes_pieces w = sX7_passes_pieces_2 n_2 x2_2 w_2 → W p l e (headSpec wsX7_passes rmX7_passes).room s m [Value.ref (ad 0), Value.ref (ad 11)].toArray below meth c H locs 0 0 (MQ below (va_Qv (fun u => u = sX7_passes_pieces w ∧ ((u 22 0).toInt = (w 22 0).toInt + 2)) (fun u t => va_P D vwCl (RM cI ad u) t.heap) (RA ad)) [Value.ref (ad 0), Value.ref (ad 11)].toArray s 0 0 (RA ad)) (F0 m 2 ls []) := by
    intro n_2
    induction n_2 with
    | zero =>
      intro x2_2 w_2 H locs ls hinv hm
      obtain ⟨v0_2, v1_2, v2_2⟩ := hinv
      exact absurd hm (by omega)
    | succ n_2 ih_2 =>
      intro x2_2 w_2 H locs ls hinv hm_2 hP hS hl E
      obtain ⟨v0_2, v1_2, v2_2⟩ := hinv
      have E := E.trans (sX7_passes_pieces_2.eq_2 ..)
      refine lv_iload_n hx hb dX7_passes_2 rfl (lv_at hl 0 rfl) ?_
      refine lv_aload_n hx hb dX7_passes_3 rfl (lv_at hl 2 rfl) ?_
      refine n7_pieces (v := 2) hx hb hK hP (by decide) dX7_passes_4 ?_
      refine lv_icmp_ge (tgt := 58) hx hb dX7_passes_5 (by decide) (fun c_1 => ?_) (fun c_1 => ?_)
      · have E := E.trans (if_pos c_1)
        have fc_1 := i_le c_1
        rw [q_2] at fc_1
        exact W.vret hx hb hr (fun t ht hW => ⟨⟨w_2, rfl, ⟨E.symm, by omega⟩, by beta_reduce; rw [ht]; exact hP⟩, hS.F ht⟩) hS.2.2 dX7_passes_58
      · have E := E.trans (if_neg c_1)
        have fc_1 := i_nle c_1
        rw [q_2] at fc_1
        refine lv_aload_n hx hb dX7_passes_8 rfl (lv_at hl 1 rfl) ?_
        refine g7_isKeeping hx hb hts hin hown hK hP (hts (.fieldLink RX7 136 "LoadedForTheLaneModel" "isKeeping" "Z") (by decide +kernel)) dX7_passes_9 ?_
        refine lv_if_eq (tgt := 30) hx hb dX7_passes_12 (by decide) (fun c_2 => ?_) (fun c_2 => ?_)
        · have E := E.trans (if_pos c_2)
          have fc_2 := i_eq c_2
          rw [q_0] at fc_2
          refine lv_aload_n hx hb dX7_passes_30 rfl (lv_at hl 2 rfl) ?_
          refine lv_iload_n hx hb dX7_passes_31 rfl (lv_at hl 0 rfl) ?_
          refine lv_aload_n hx hb dX7_passes_32 rfl (lv_at hl 1 rfl) ?_
          refine g7_kept hx hb hts hin hown hK hP (hts (.fieldLink RX7 55 "LoadedForTheLaneModel" "kept" "[I") (by decide +kernel)) dX7_passes_33 ?_
          refine lv_aload_n hx hb dX7_passes_36 rfl (lv_at hl 1 rfl) ?_
          refine g7_cursor hx hb hts hin hown hK hP (hts (.fieldLink RX7 140 "LoadedForTheLaneModel" "cursor" "I") (by decide +kernel)) dX7_passes_37 ?_
          have ix_3 : vp_in (w_2 22 0) 250 := ix_of (by omega) (by omega)
          refine l7_kept (j := (w_2 22 0).toNatClampNeg) hx hb hK hP ix_3 rfl dX7_passes_40 ?_
          have ix_4 : vp_in x2_2 2 := ix_of (by omega) (by omega)
          refine a7_pieces (j := x2_2.toNatClampNeg) hx hb hK hP hd hS ix_4 rfl dX7_passes_41 (fun H locs hP hS => ?_)
          obtain ⟨wn_4, hwn_4⟩ : ∃ x, x = st w_2 10 (x2_2.toNatClampNeg) (w_2 19 ((w_2 22 0).toNatClampNeg)) := ⟨_, rfl⟩
          rw [← hwn_4] at hP
          have E := bns_e E hwn_4
          have ft4_cursor : (wn_4 22 0).toInt = (w_2 22 0).toInt := by rw [hwn_4]; rfl
          have fv_4 : (wn_4 10 (x2_2.toNatClampNeg)).toInt = (w_2 19 ((w_2 22 0).toNatClampNeg)).toInt := by rw [hwn_4, st_rd]
          refine lv_aload_n hx hb dX7_passes_42 rfl (lv_at hl 1 rfl) ?_
          refine lv_dup hx hb dX7_passes_43 rfl ?_
          refine g7_cursor hx hb hts hin hown hK hP (hts (.fieldLink RX7 140 "LoadedForTheLaneModel" "cursor" "I") (by decide +kernel)) dX7_passes_44 ?_
          refine lv_iconst (v := 1) hx hb dX7_passes_47 (by decide) ?_
          refine lv_iadd hx hb dX7_passes_48 ?_
          refine p7_cursor hx hb hts hin hown hK hP hd hS (hts (.fieldLink RX7 140 "LoadedForTheLaneModel" "cursor" "I") (by decide +kernel)) dX7_passes_49 (fun H locs hP hS => ?_)
          obtain ⟨wn_5, hwn_5⟩ : ∃ x, x = st wn_4 22 0 ((wn_4 22 0) + 1) := ⟨_, rfl⟩
          rw [← hwn_5] at hP
          have E := bns_e E hwn_5
          have ft5_cursor : (wn_5 22 0).toInt = ((wn_4 22 0) + 1).toInt := by rw [hwn_5]; rfl
          have := q_1
          have := i_add (a := wn_4 22 0) (b := 1) (by omega) (by omega)
          refine lv_iinc (v := x2_2 + 1) (lv' := [(2, .int (x2_2 + 1)), (0, .ref (ad 0)), (1, .ref (ad 11))]) hx hb dX7_passes_52 hl (k := 0) rfl rfl (by decide) rfl (fun ls hl => ?_)
          refine lv_goto (tgt := 2) hx hb dX7_passes_55 (by decide) ?_
          have := q_1
          try have := i_add (a := x2_2) (b := 1) (by omega) (by omega)
          exact ih_2 (x2_2 + 1) wn_5 H locs ls ⟨by omega, by omega, by omega⟩ (by omega) hP hS (lv_sub hl [0, 1, 2] rfl) E
        · have E := E.trans (if_neg c_2)
          have fc_2 := i_ne c_2
          rw [q_0] at fc_2
          refine lv_aload_n hx hb dX7_passes_15 rfl (lv_at hl 1 rfl) ?_
          refine g7_kept hx hb hts hin hown hK hP (hts (.fieldLink RX7 55 "LoadedForTheLaneModel" "kept" "[I") (by decide +kernel)) dX7_passes_16 ?_
          refine lv_aload_n hx hb dX7_passes_19 rfl (lv_at hl 1 rfl) ?_
          refine g7_cursor hx hb hts hin hown hK hP (hts (.fieldLink RX7 140 "LoadedForTheLaneModel" "cursor" "I") (by decide +kernel)) dX7_passes_20 ?_
          refine lv_aload_n hx hb dX7_passes_23 rfl (lv_at hl 2 rfl) ?_
          refine lv_iload_n hx hb dX7_passes_24 rfl (lv_at hl 0 rfl) ?_
          have ix_6 : vp_in x2_2 2 := ix_of (by omega) (by omega)
          refine l7_pieces (j := x2_2.toNatClampNeg) hx hb hK hP ix_6 rfl dX7_passes_25 ?_
          have ix_7 : vp_in (w_2 22 0) 250 := ix_of (by omega) (by omega)
          refine a7_kept (j := (w_2 22 0).toNatClampNeg) hx hb hK hP hd hS ix_7 rfl dX7_passes_26 (fun H locs hP hS => ?_)
          obtain ⟨wn_7, hwn_7⟩ : ∃ x, x = st w_2 19 ((w_2 22 0).toNatClampNeg) (w_2 10 (x2_2.toNatClampNeg)) := ⟨_, rfl⟩
          rw [← hwn_7] at hP
          have E := bns_e E hwn_7
          have ft7_cursor : (wn_7 22 0).toInt = (w_2 22 0).toInt := by rw [hwn_7]; rfl
          have fv_7 : (wn_7 19 ((w_2 22 0).toNatClampNeg)).toInt = (w_2 10 (x2_2.toNatClampNeg)).toInt := by rw [hwn_7, st_rd]
          refine lv_goto (tgt := 42) hx hb dX7_passes_27 (by decide) ?_
          refine lv_aload_n hx hb dX7_passes_42 rfl (lv_at hl 1 rfl) ?_
          refine lv_dup hx hb dX7_passes_43 rfl ?_
          refine g7_cursor hx hb hts hin hown hK hP (hts (.fieldLink RX7 140 "LoadedForTheLaneModel" "cursor" "I") (by decide +kernel)) dX7_passes_44 ?_
          refine lv_iconst (v := 1) hx hb dX7_passes_47 (by decide) ?_
          refine lv_iadd hx hb dX7_passes_48 ?_
          refine p7_cursor hx hb hts hin hown hK hP hd hS (hts (.fieldLink RX7 140 "LoadedForTheLaneModel" "cursor" "I") (by decide +kernel)) dX7_passes_49 (fun H locs hP hS => ?_)
          obtain ⟨wn_8, hwn_8⟩ : ∃ x, x = st wn_7 22 0 ((wn_7 22 0) + 1) := ⟨_, rfl⟩
          rw [← hwn_8] at hP
          have E := bns_e E hwn_8
          have ft8_cursor : (wn_8 22 0).toInt = ((wn_7 22 0) + 1).toInt := by rw [hwn_8]; rfl
          have := q_1
          have := i_add (a := wn_7 22 0) (b := 1) (by omega) (by omega)
          refine lv_iinc (v := x2_2 + 1) (lv' := [(2, .int (x2_2 + 1)), (0, .ref (ad 0)), (1, .ref (ad 11))]) hx hb dX7_passes_52 hl (k := 0) rfl rfl (by decide) rfl (fun ls hl => ?_)
          refine lv_goto (tgt := 2) hx hb dX7_passes_55 (by decide) ?_
          have := q_1
          try have := i_add (a := x2_2) (b := 1) (by omega) (by omega)
          exact ih_2 (x2_2 + 1) wn_8 H locs ls ⟨by omega, by omega, by omega⟩ (by omega) hP hS (lv_sub hl [0, 1, 2] rfl) E
  have := q_0
  exact L_2 3 0 w H locs ls ⟨by omega, by omega, by omega⟩ (by omega) hP hS (lv_sub hl [0, 1, 2] rfl) E
abbrev rmX7_passOne : Room := { frames := 0, cells := 0, slots := 0, locals := 0 }
set_option maxHeartbeats 4000000 in
set_option maxRecDepth 100000 in
theorem kX7_passOne (l : Launch) (D : va_G) (cI : ClassId) (ad : Nat → Nat) (w : Nat → Nat → Int32) (a1 : Int32) (hd : RD ad) (h1 : 0 ≤ (w 22 0).toInt) (h2 : (w 22 0).toInt ≤ 249) : Met l yX7_passOne wsX7_passOne rmX7_passOne (va_Pc [Value.ref (ad 0), Value.int a1] (fun U => va_P D vwCl (RM cI ad w) U.heap ∧ va_K D vwCl [(cI, .int)] U)) (va_Qi (fun r u => (r, u) = sX7_passOne w a1 ∧ ((u 22 0).toInt = (w 22 0).toInt + 1)) (fun u t => va_P D vwCl (RM cI ad u) t.heap) (RA ad)) 0 0 (RA ad) := by
  refine Met.ofW (cc := cX7_passOne) (maxL := 3) (ret := (some .int)) (by decide) rfl ?_
  intro p e s m args below meth c s₁ B hml hv
  obtain ⟨rfl, hP, hK⟩ := hv
  have hx := B.exec
  have hb := B.bytes
  have hr := B.returns
  have hts := atoms_spec (ws := wsX7_passOne) B.pre
  have hown : s.vm.findClass RX7 = some m.cls := findClass_of_methodNamed B.named
  have hlocks := B.notSynchronized
  have hin : ∀ q ∈ wsX70, q ∈ wsX7_passOne := by decide +kernel
  have hl := lv_entry ([.ref (ad 0), .int a1]) (n := 3) (Nat.le_of_ble_eq_true rfl)
  rw [lg_entry_eq]
  generalize (lg_sl ([.ref (ad 0), .int a1]) ++ List.replicate (3 - (lg_sl ([.ref (ad 0), .int a1])).length) Slot.unset).toArray = ls at hl ⊢
  have hl : lv_has ls 3 [(0, .ref (ad 0)), (1, .int a1)] := hl
  suffices hgo : ∀ (H : Heap) (locs : List Loc), va_P D vwCl (RM cI ad w) H → va_S (RA ad) s.heap H locs → W p l e (headSpec wsX7_passOne rmX7_passOne).room s m [Value.ref (ad 0), Value.int a1].toArray below meth c H locs 0 0 (MQ below (va_Qi (fun r u => (r, u) = sX7_passOne w a1 ∧ ((u 22 0).toInt = (w 22 0).toInt + 1)) (fun u t => va_P D vwCl (RM cI ad u) t.heap) (RA ad)) [Value.ref (ad 0), Value.int a1].toArray s 0 0 (RA ad)) (F0 m 0 ls []) from hgo s.heap [] hP va_S.rf
  intro H locs hP hS
  have E := sX7_passOne.eq_1 w a1
  refine lv_aload_n hx hb dX7_passOne_0 rfl (lv_at hl 0 rfl) ?_
  refine g7_isKeeping hx hb hts hin hown hK hP (hts (.fieldLink RX7 136 "LoadedForTheLaneModel" "isKeeping" "Z") (by decide +kernel)) dX7_passOne_1 ?_
  refine lv_if_eq (tgt := 11) hx hb dX7_passOne_4 (by decide) (fun c_1 => ?_) (fun c_1 => ?_)
  · have E := E.trans (if_pos c_1)
    have fc_1 := i_eq c_1
    rw [q_0] at fc_1
    refine lv_aload_n hx hb dX7_passOne_11 rfl (lv_at hl 0 rfl) ?_
    refine g7_kept hx hb hts hin hown hK hP (hts (.fieldLink RX7 55 "LoadedForTheLaneModel" "kept" "[I") (by decide +kernel)) dX7_passOne_12 ?_
    refine lv_aload_n hx hb dX7_passOne_15 rfl (lv_at hl 0 rfl) ?_
    refine g7_cursor hx hb hts hin hown hK hP (hts (.fieldLink RX7 140 "LoadedForTheLaneModel" "cursor" "I") (by decide +kernel)) dX7_passOne_16 ?_
    have ix_2 : vp_in (w 22 0) 250 := ix_of (by omega) (by omega)
    refine l7_kept (j := (w 22 0).toNatClampNeg) hx hb hK hP ix_2 rfl dX7_passOne_19 ?_
    refine lv_istore_n (lv' := [(2, .int (w 19 ((w 22 0).toNatClampNeg))), (0, .ref (ad 0)), (1, .int a1)]) hx hb dX7_passOne_20 rfl hl (by decide) rfl (fun ls hl => ?_)
    refine lv_aload_n hx hb dX7_passOne_21 rfl (lv_at hl 1 rfl) ?_
    refine g7_isKeeping hx hb hts hin hown hK hP (hts (.fieldLink RX7 136 "LoadedForTheLaneModel" "isKeeping" "Z") (by decide +kernel)) dX7_passOne_22 ?_
    refine lv_if_eq (tgt := 38) hx hb dX7_passOne_25 (by decide) (fun c_3 => ?_) (fun c_3 => ?_)
    · have E := E.trans (if_pos c_3)
      have fc_3 := i_eq c_3
      rw [q_0] at fc_3
      refine lv_aload_n hx hb dX7_passOne_38 rfl (lv_at hl 1 rfl) ?_
      refine lv_dup hx hb dX7_passOne_39 rfl ?_
      refine g7_cursor hx hb hts hin hown hK hP (hts (.fieldLink RX7 140 "LoadedForTheLaneModel" "cursor" "I") (by decide +kernel)) dX7_passOne_40 ?_
      refine lv_iconst (v := 1) hx hb dX7_passOne_43 (by decide) ?_
      refine lv_iadd hx hb dX7_passOne_44 ?_
      refine p7_cursor hx hb hts hin hown hK hP hd hS (hts (.fieldLink RX7 140 "LoadedForTheLaneModel" "cursor" "I") (by decide +kernel)) dX7_passOne_45 (fun H locs hP hS => ?_)
      obtain ⟨wn_4, hwn_4⟩ : ∃ x, x = st w 22 0 ((w 22 0) + 1) := ⟨_, rfl⟩
      rw [← hwn_4] at hP
      have E := bns_e E hwn_4
      have ft4_cursor : (wn_4 22 0).toInt = ((w 22 0) + 1).toInt := by rw [hwn_4]; rfl
      have := q_1
      have := i_add (a := w 22 0) (b := 1) (by omega) (by omega)
      refine lv_iload_n hx hb dX7_passOne_48 rfl (lv_at hl 0 rfl) ?_
      exact W.iret (v := w 19 ((w 22 0).toNatClampNeg)) hx hb hr (fun t ht hW => ⟨⟨_, wn_4, rfl, ⟨E.symm, by omega⟩, by beta_reduce; rw [ht]; exact hP⟩, hS.F ht⟩) hS.2.2 dX7_passOne_49
    · have E := E.trans (if_neg c_3)
      have fc_3 := i_ne c_3
      rw [q_0] at fc_3
      refine lv_aload_n hx hb dX7_passOne_28 rfl (lv_at hl 1 rfl) ?_
      refine g7_kept hx hb hts hin hown hK hP (hts (.fieldLink RX7 55 "LoadedForTheLaneModel" "kept" "[I") (by decide +kernel)) dX7_passOne_29 ?_
      refine lv_aload_n hx hb dX7_passOne_32 rfl (lv_at hl 1 rfl) ?_
      refine g7_cursor hx hb hts hin hown hK hP (hts (.fieldLink RX7 140 "LoadedForTheLaneModel" "cursor" "I") (by decide +kernel)) dX7_passOne_33 ?_
      refine lv_iload_n hx hb dX7_passOne_36 rfl (lv_at hl 2 rfl) ?_
      have ix_5 : vp_in (w 22 0) 250 := ix_of (by omega) (by omega)
      refine a7_kept (j := (w 22 0).toNatClampNeg) hx hb hK hP hd hS ix_5 rfl dX7_passOne_37 (fun H locs hP hS => ?_)
      obtain ⟨wn_5, hwn_5⟩ : ∃ x, x = st w 19 ((w 22 0).toNatClampNeg) a1 := ⟨_, rfl⟩
      rw [← hwn_5] at hP
      have E := bns_e E hwn_5
      have ft5_cursor : (wn_5 22 0).toInt = (w 22 0).toInt := by rw [hwn_5]; rfl
      have fv_5 : (wn_5 19 ((w 22 0).toNatClampNeg)).toInt = (a1).toInt := by rw [hwn_5, st_rd]
      refine lv_aload_n hx hb dX7_passOne_38 rfl (lv_at hl 1 rfl) ?_
      refine lv_dup hx hb dX7_passOne_39 rfl ?_
      refine g7_cursor hx hb hts hin hown hK hP (hts (.fieldLink RX7 140 "LoadedForTheLaneModel" "cursor" "I") (by decide +kernel)) dX7_passOne_40 ?_
      refine lv_iconst (v := 1) hx hb dX7_passOne_43 (by decide) ?_
      refine lv_iadd hx hb dX7_passOne_44 ?_
      refine p7_cursor hx hb hts hin hown hK hP hd hS (hts (.fieldLink RX7 140 "LoadedForTheLaneModel" "cursor" "I") (by decide +kernel)) dX7_passOne_45 (fun H locs hP hS => ?_)
      obtain ⟨wn_6, hwn_6⟩ : ∃ x, x = st wn_5 22 0 ((wn_5 22 0) + 1) := ⟨_, rfl⟩
      rw [← hwn_6] at hP
      have E := bns_e E hwn_6
      have ft6_cursor : (wn_6 22 0).toInt = ((wn_5 22 0) + 1).toInt := by rw [hwn_6]; rfl
      have := q_1
      have := i_add (a := wn_5 22 0) (b := 1) (by omega) (by omega)
      refine lv_iload_n hx hb dX7_passOne_48 rfl (lv_at hl 0 rfl) ?_
      exact W.iret (v := w 19 ((w 22 0).toNatClampNeg)) hx hb hr (fun t ht hW => ⟨⟨_, wn_6, rfl, ⟨E.symm, by omega⟩, by beta_reduce; rw [ht]; exact hP⟩, hS.F ht⟩) hS.2.2 dX7_passOne_49
  · have E := E.trans (if_neg c_1)
    have fc_1 := i_ne c_1
    rw [q_0] at fc_1
    refine lv_iload_n hx hb dX7_passOne_7 rfl (lv_at hl 1 rfl) ?_
    refine lv_goto (tgt := 20) hx hb dX7_passOne_8 (by decide) ?_
    refine lv_istore_n (lv' := [(2, .int a1), (0, .ref (ad 0)), (1, .int a1)]) hx hb dX7_passOne_20 rfl hl (by decide) rfl (fun ls hl => ?_)
    refine lv_aload_n hx hb dX7_passOne_21 rfl (lv_at hl 1 rfl) ?_
    refine g7_isKeeping hx hb hts hin hown hK hP (hts (.fieldLink RX7 136 "LoadedForTheLaneModel" "isKeeping" "Z") (by decide +kernel)) dX7_passOne_22 ?_
    refine lv_if_eq (tgt := 38) hx hb dX7_passOne_25 (by decide) (fun c_7 => ?_) (fun c_7 => ?_)
    · have E := E.trans (if_pos c_7)
      have fc_7 := i_eq c_7
      rw [q_0] at fc_7
      refine lv_aload_n hx hb dX7_passOne_38 rfl (lv_at hl 1 rfl) ?_
      refine lv_dup hx hb dX7_passOne_39 rfl ?_
      refine g7_cursor hx hb hts hin hown hK hP (hts (.fieldLink RX7 140 "LoadedForTheLaneModel" "cursor" "I") (by decide +kernel)) dX7_passOne_40 ?_
      refine lv_iconst (v := 1) hx hb dX7_passOne_43 (by decide) ?_
      refine lv_iadd hx hb dX7_passOne_44 ?_
      refine p7_cursor hx hb hts hin hown hK hP hd hS (hts (.fieldLink RX7 140 "LoadedForTheLaneModel" "cursor" "I") (by decide +kernel)) dX7_passOne_45 (fun H locs hP hS => ?_)
      obtain ⟨wn_8, hwn_8⟩ : ∃ x, x = st w 22 0 ((w 22 0) + 1) := ⟨_, rfl⟩
      rw [← hwn_8] at hP
      have E := bns_e E hwn_8
      have ft8_cursor : (wn_8 22 0).toInt = ((w 22 0) + 1).toInt := by rw [hwn_8]; rfl
      have := q_1
      have := i_add (a := w 22 0) (b := 1) (by omega) (by omega)
      refine lv_iload_n hx hb dX7_passOne_48 rfl (lv_at hl 0 rfl) ?_
      exact W.iret (v := a1) hx hb hr (fun t ht hW => ⟨⟨_, wn_8, rfl, ⟨E.symm, by omega⟩, by beta_reduce; rw [ht]; exact hP⟩, hS.F ht⟩) hS.2.2 dX7_passOne_49
    · have E := E.trans (if_neg c_7)
      have fc_7 := i_ne c_7
      rw [q_0] at fc_7
      refine lv_aload_n hx hb dX7_passOne_28 rfl (lv_at hl 1 rfl) ?_
      refine g7_kept hx hb hts hin hown hK hP (hts (.fieldLink RX7 55 "LoadedForTheLaneModel" "kept" "[I") (by decide +kernel)) dX7_passOne_29 ?_
      refine lv_aload_n hx hb dX7_passOne_32 rfl (lv_at hl 1 rfl) ?_
      refine g7_cursor hx hb hts hin hown hK hP (hts (.fieldLink RX7 140 "LoadedForTheLaneModel" "cursor" "I") (by decide +kernel)) dX7_passOne_33 ?_
      refine lv_iload_n hx hb dX7_passOne_36 rfl (lv_at hl 2 rfl) ?_
      have ix_9 : vp_in (w 22 0) 250 := ix_of (by omega) (by omega)
      refine a7_kept (j := (w 22 0).toNatClampNeg) hx hb hK hP hd hS ix_9 rfl dX7_passOne_37 (fun H locs hP hS => ?_)
      obtain ⟨wn_9, hwn_9⟩ : ∃ x, x = st w 19 ((w 22 0).toNatClampNeg) a1 := ⟨_, rfl⟩
      rw [← hwn_9] at hP
      have E := bns_e E hwn_9
      have ft9_cursor : (wn_9 22 0).toInt = (w 22 0).toInt := by rw [hwn_9]; rfl
      have fv_9 : (wn_9 19 ((w 22 0).toNatClampNeg)).toInt = (a1).toInt := by rw [hwn_9, st_rd]
      refine lv_aload_n hx hb dX7_passOne_38 rfl (lv_at hl 1 rfl) ?_
      refine lv_dup hx hb dX7_passOne_39 rfl ?_
      refine g7_cursor hx hb hts hin hown hK hP (hts (.fieldLink RX7 140 "LoadedForTheLaneModel" "cursor" "I") (by decide +kernel)) dX7_passOne_40 ?_
      refine lv_iconst (v := 1) hx hb dX7_passOne_43 (by decide) ?_
      refine lv_iadd hx hb dX7_passOne_44 ?_
      refine p7_cursor hx hb hts hin hown hK hP hd hS (hts (.fieldLink RX7 140 "LoadedForTheLaneModel" "cursor" "I") (by decide +kernel)) dX7_passOne_45 (fun H locs hP hS => ?_)
      obtain ⟨wn_10, hwn_10⟩ : ∃ x, x = st wn_9 22 0 ((wn_9 22 0) + 1) := ⟨_, rfl⟩
      rw [← hwn_10] at hP
      have E := bns_e E hwn_10
      have ft10_cursor : (wn_10 22 0).toInt = ((wn_9 22 0) + 1).toInt := by rw [hwn_10]; rfl
      have := q_1
      have := i_add (a := wn_9 22 0) (b := 1) (by omega) (by omega)
      refine lv_iload_n hx hb dX7_passOne_48 rfl (lv_at hl 0 rfl) ?_
      exact W.iret (v := a1) hx hb hr (fun t ht hW => ⟨⟨_, wn_10, rfl, ⟨E.symm, by omega⟩, by beta_reduce; rw [ht]; exact hP⟩, hS.F ht⟩) hS.2.2 dX7_passOne_49
abbrev rmX7_passesAll : Room := { frames := 1, cells := 0, slots := 0, locals := 22 }
set_option maxHeartbeats 4000000 in
set_option maxRecDepth 100000 in
theorem kX7_passesAll (l : Launch) (D : va_G) (cI : ClassId) (ad : Nat → Nat) (w : Nat → Nat → Int32) (a1 : Int32) (a2 : Int32) (hd : RD ad) (h1 : 0 ≤ a1.toInt) (h2 : a1.toInt ≤ 1) (h3 : (a2 = 0 ∨ a2 = 1)) : Met l yX7_passesAll wsX7_passesAll rmX7_passesAll (va_Pc [Value.ref (ad 0), Value.int a1, Value.int a2] (fun U => va_P D vwCl (RM cI ad w) U.heap ∧ va_K D vwCl [(cI, .int)] U)) (va_Qv (fun u => u = sX7_passesAll w a1 a2) (fun u t => va_P D vwCl (RM cI ad u) t.heap) (RA ad)) 0 0 (RA ad) := by
  refine Met.ofW (cc := cX7_passesAll) (maxL := 3) (ret := none) (by decide) rfl ?_
  intro p e s m args below meth c s₁ B hml hv
  obtain ⟨rfl, hP, hK⟩ := hv
  have hx := B.exec
  have hb := B.bytes
  have hr := B.returns
  have hts := atoms_spec (ws := wsX7_passesAll) B.pre
  have hown : s.vm.findClass RX7 = some m.cls := findClass_of_methodNamed B.named
  have hlocks := B.notSynchronized
  have hin : ∀ q ∈ wsX70, q ∈ wsX7_passesAll := by decide +kernel
  have hl := lv_entry ([.ref (ad 0), .int a1, .int a2]) (n := 3) (Nat.le_of_ble_eq_true rfl)
  rw [lg_entry_eq]
  generalize (lg_sl ([.ref (ad 0), .int a1, .int a2]) ++ List.replicate (3 - (lg_sl ([.ref (ad 0), .int a1, .int a2])).length) Slot.unset).toArray = ls at hl ⊢
  have hl : lv_has ls 3 [(0, .ref (ad 0)), (1, .int a1), (2, .int a2)] := hl
  suffices hgo : ∀ (H : Heap) (locs : List Loc), va_P D vwCl (RM cI ad w) H → va_S (RA ad) s.heap H locs → W p l e (headSpec wsX7_passesAll rmX7_passesAll).room s m [Value.ref (ad 0), Value.int a1, Value.int a2].toArray below meth c H locs 0 0 (MQ below (va_Qv (fun u => u = sX7_passesAll w a1 a2) (fun u t => va_P D vwCl (RM cI ad u) t.heap) (RA ad)) [Value.ref (ad 0), Value.int a1, Value.int a2].toArray s 0 0 (RA ad)) (F0 m 0 ls []) from hgo s.heap [] hP va_S.rf
  intro H locs hP hS
  have E := sX7_passesAll.eq_1 w a1 a2
  refine lv_aload_n hx hb dX7_passesAll_0 rfl (lv_at hl 0 rfl) ?_
  refine lv_bipush (v := 125) hx hb dX7_passesAll_1 (by decide +kernel) ?_
  refine lv_iload_n hx hb dX7_passesAll_3 rfl (lv_at hl 1 rfl) ?_
  refine lv_imul hx hb dX7_passesAll_4 ?_
  refine p7_cursor hx hb hts hin hown hK hP hd hS (hts (.fieldLink RX7 140 "LoadedForTheLaneModel" "cursor" "I") (by decide +kernel)) dX7_passesAll_5 (fun H locs hP hS => ?_)
  obtain ⟨wn_1, hwn_1⟩ : ∃ x, x = st w 22 0 (125 * a1) := ⟨_, rfl⟩
  rw [← hwn_1] at hP
  have E := bns_e E hwn_1
  have ft1_cursor : (wn_1 22 0).toInt = (125 * a1).toInt := by rw [hwn_1]; rfl
  have := q_125
  have := i_mull (a := 125) (b := a1) (n := 125) q_125 (by omega) (by omega)
  refine lv_aload_n hx hb dX7_passesAll_8 rfl (lv_at hl 0 rfl) ?_
  refine lv_iload_n hx hb dX7_passesAll_9 rfl (lv_at hl 2 rfl) ?_
  refine p7_isKeeping hx hb hts hin hown hK hP hd hS h3 (hts (.fieldLink RX7 136 "LoadedForTheLaneModel" "isKeeping" "Z") (by decide +kernel)) dX7_passesAll_10 (fun H locs hP hS => ?_)
  obtain ⟨wn_2, hwn_2⟩ : ∃ x, x = st wn_1 21 0 a2 := ⟨_, rfl⟩
  rw [← hwn_2] at hP
  have E := bns_e E hwn_2
  have ft2_cursor : (wn_2 22 0).toInt = (wn_1 22 0).toInt := by rw [hwn_2]; rfl
  refine lv_aload_n hx hb dX7_passesAll_13 rfl (lv_at hl 0 rfl) ?_
  refine lv_aload_n hx hb dX7_passesAll_14 rfl (lv_at hl 0 rfl) ?_
  refine g7_setting hx hb hts hin hown hK hP (hts (.fieldLink RX7 13 "LoadedForTheLaneModel" "setting" "[I") (by decide +kernel)) dX7_passesAll_15 ?_
  refine va_callv (va_runV (As := [.ref (ad 2)]) (rest := []) ⟨hx, hb, hml, hown, hts⟩ (kX7_passes_setting l D cI ad wn_2 hd (by omega) (by omega)) (cwV 1 hts gX7_passesAll_X7_passes rfl rfl rfl mdX7_passes ⟨Nat.le_of_ble_eq_true rfl, Nat.le_of_ble_eq_true rfl⟩) (r7_pre hK hP) rfl rfl hl.1 rfl (lv_room (Nat.le_of_ble_eq_true rfl)) dX7_passesAll_18 ⟨Nat.zero_le _, Nat.zero_le _⟩) hS (fun _ _ h => h) (fun _ h => h) (fun wn_3 t H locs ht hvm hp_3 hB hz hk hS => ?_)
  have hP : va_P D vwCl (RM cI ad wn_3) H := ht ▸ hB
  obtain ⟨hp_3, hq0_3⟩ := hp_3
  have E := bns_e E hp_3
  refine lv_aload_n hx hb dX7_passesAll_21 rfl (lv_at hl 0 rfl) ?_
  refine lv_aload_n hx hb dX7_passesAll_22 rfl (lv_at hl 0 rfl) ?_
  refine g7_kind hx hb hts hin hown hK hP (hts (.fieldLink RX7 16 "LoadedForTheLaneModel" "kind" "[I") (by decide +kernel)) dX7_passesAll_23 ?_
  refine va_callv (va_runV (As := [.ref (ad 3)]) (rest := []) ⟨hx, hb, hml, hown, hts⟩ (kX7_passes_kind l D cI ad wn_3 hd (by omega) (by omega)) (cwV 1 hts gX7_passesAll_X7_passes rfl rfl rfl mdX7_passes ⟨Nat.le_of_ble_eq_true rfl, Nat.le_of_ble_eq_true rfl⟩) (r7_pre hK hP) rfl rfl hl.1 rfl (lv_room (Nat.le_of_ble_eq_true rfl)) dX7_passesAll_26 ⟨Nat.zero_le _, Nat.zero_le _⟩) hS (fun _ _ h => h) (fun _ h => h) (fun wn_4 t H locs ht hvm hp_4 hB hz hk hS => ?_)
  have hP : va_P D vwCl (RM cI ad wn_4) H := ht ▸ hB
  obtain ⟨hp_4, hq0_4⟩ := hp_4
  have E := bns_e E hp_4
  refine lv_aload_n hx hb dX7_passesAll_29 rfl (lv_at hl 0 rfl) ?_
  refine lv_aload_n hx hb dX7_passesAll_30 rfl (lv_at hl 0 rfl) ?_
  refine g7_sheaves hx hb hts hin hown hK hP (hts (.fieldLink RX7 19 "LoadedForTheLaneModel" "sheaves" "[I") (by decide +kernel)) dX7_passesAll_31 ?_
  refine va_callv (va_runV (As := [.ref (ad 4)]) (rest := []) ⟨hx, hb, hml, hown, hts⟩ (kX7_passes_sheaves l D cI ad wn_4 hd (by omega) (by omega)) (cwV 1 hts gX7_passesAll_X7_passes rfl rfl rfl mdX7_passes ⟨Nat.le_of_ble_eq_true rfl, Nat.le_of_ble_eq_true rfl⟩) (r7_pre hK hP) rfl rfl hl.1 rfl (lv_room (Nat.le_of_ble_eq_true rfl)) dX7_passesAll_34 ⟨Nat.zero_le _, Nat.zero_le _⟩) hS (fun _ _ h => h) (fun _ h => h) (fun wn_5 t H locs ht hvm hp_5 hB hz hk hS => ?_)
  have hP : va_P D vwCl (RM cI ad wn_5) H := ht ▸ hB
  obtain ⟨hp_5, hq0_5⟩ := hp_5
  have E := bns_e E hp_5
  refine lv_aload_n hx hb dX7_passesAll_37 rfl (lv_at hl 0 rfl) ?_
  refine lv_aload_n hx hb dX7_passesAll_38 rfl (lv_at hl 0 rfl) ?_
  refine g7_out hx hb hts hin hown hK hP (hts (.fieldLink RX7 22 "LoadedForTheLaneModel" "out" "[I") (by decide +kernel)) dX7_passesAll_39 ?_
  refine va_callv (va_runV (As := [.ref (ad 5)]) (rest := []) ⟨hx, hb, hml, hown, hts⟩ (kX7_passes_out l D cI ad wn_5 hd (by omega) (by omega)) (cwV 1 hts gX7_passesAll_X7_passes rfl rfl rfl mdX7_passes ⟨Nat.le_of_ble_eq_true rfl, Nat.le_of_ble_eq_true rfl⟩) (r7_pre hK hP) rfl rfl hl.1 rfl (lv_room (Nat.le_of_ble_eq_true rfl)) dX7_passesAll_42 ⟨Nat.zero_le _, Nat.zero_le _⟩) hS (fun _ _ h => h) (fun _ h => h) (fun wn_6 t H locs ht hvm hp_6 hB hz hk hS => ?_)
  have hP : va_P D vwCl (RM cI ad wn_6) H := ht ▸ hB
  obtain ⟨hp_6, hq0_6⟩ := hp_6
  have E := bns_e E hp_6
  refine lv_aload_n hx hb dX7_passesAll_45 rfl (lv_at hl 0 rfl) ?_
  refine lv_aload_n hx hb dX7_passesAll_46 rfl (lv_at hl 0 rfl) ?_
  refine g7_lean hx hb hts hin hown hK hP (hts (.fieldLink RX7 25 "LoadedForTheLaneModel" "lean" "[I") (by decide +kernel)) dX7_passesAll_47 ?_
  refine va_callv (va_runV (As := [.ref (ad 6)]) (rest := []) ⟨hx, hb, hml, hown, hts⟩ (kX7_passes_lean l D cI ad wn_6 hd (by omega) (by omega)) (cwV 1 hts gX7_passesAll_X7_passes rfl rfl rfl mdX7_passes ⟨Nat.le_of_ble_eq_true rfl, Nat.le_of_ble_eq_true rfl⟩) (r7_pre hK hP) rfl rfl hl.1 rfl (lv_room (Nat.le_of_ble_eq_true rfl)) dX7_passesAll_50 ⟨Nat.zero_le _, Nat.zero_le _⟩) hS (fun _ _ h => h) (fun _ h => h) (fun wn_7 t H locs ht hvm hp_7 hB hz hk hS => ?_)
  have hP : va_P D vwCl (RM cI ad wn_7) H := ht ▸ hB
  obtain ⟨hp_7, hq0_7⟩ := hp_7
  have E := bns_e E hp_7
  refine lv_aload_n hx hb dX7_passesAll_53 rfl (lv_at hl 0 rfl) ?_
  refine lv_aload_n hx hb dX7_passesAll_54 rfl (lv_at hl 0 rfl) ?_
  refine g7_badly hx hb hts hin hown hK hP (hts (.fieldLink RX7 28 "LoadedForTheLaneModel" "badly" "[I") (by decide +kernel)) dX7_passesAll_55 ?_
  refine va_callv (va_runV (As := [.ref (ad 7)]) (rest := []) ⟨hx, hb, hml, hown, hts⟩ (kX7_passes_badly l D cI ad wn_7 hd (by omega) (by omega)) (cwV 1 hts gX7_passesAll_X7_passes rfl rfl rfl mdX7_passes ⟨Nat.le_of_ble_eq_true rfl, Nat.le_of_ble_eq_true rfl⟩) (r7_pre hK hP) rfl rfl hl.1 rfl (lv_room (Nat.le_of_ble_eq_true rfl)) dX7_passesAll_58 ⟨Nat.zero_le _, Nat.zero_le _⟩) hS (fun _ _ h => h) (fun _ h => h) (fun wn_8 t H locs ht hvm hp_8 hB hz hk hS => ?_)
  have hP : va_P D vwCl (RM cI ad wn_8) H := ht ▸ hB
  obtain ⟨hp_8, hq0_8⟩ := hp_8
  have E := bns_e E hp_8
  refine lv_aload_n hx hb dX7_passesAll_61 rfl (lv_at hl 0 rfl) ?_
  refine lv_aload_n hx hb dX7_passesAll_62 rfl (lv_at hl 0 rfl) ?_
  refine g7_sort hx hb hts hin hown hK hP (hts (.fieldLink RX7 31 "LoadedForTheLaneModel" "sort" "[I") (by decide +kernel)) dX7_passesAll_63 ?_
  refine va_callv (va_runV (As := [.ref (ad 8)]) (rest := []) ⟨hx, hb, hml, hown, hts⟩ (kX7_passes_sort l D cI ad wn_8 hd (by omega) (by omega)) (cwV 1 hts gX7_passesAll_X7_passes rfl rfl rfl mdX7_passes ⟨Nat.le_of_ble_eq_true rfl, Nat.le_of_ble_eq_true rfl⟩) (r7_pre hK hP) rfl rfl hl.1 rfl (lv_room (Nat.le_of_ble_eq_true rfl)) dX7_passesAll_66 ⟨Nat.zero_le _, Nat.zero_le _⟩) hS (fun _ _ h => h) (fun _ h => h) (fun wn_9 t H locs ht hvm hp_9 hB hz hk hS => ?_)
  have hP : va_P D vwCl (RM cI ad wn_9) H := ht ▸ hB
  obtain ⟨hp_9, hq0_9⟩ := hp_9
  have E := bns_e E hp_9
  refine lv_aload_n hx hb dX7_passesAll_69 rfl (lv_at hl 0 rfl) ?_
  refine lv_aload_n hx hb dX7_passesAll_70 rfl (lv_at hl 0 rfl) ?_
  refine g7_figure hx hb hts hin hown hK hP (hts (.fieldLink RX7 34 "LoadedForTheLaneModel" "figure" "[I") (by decide +kernel)) dX7_passesAll_71 ?_
  refine va_callv (va_runV (As := [.ref (ad 9)]) (rest := []) ⟨hx, hb, hml, hown, hts⟩ (kX7_passes_figure l D cI ad wn_9 hd (by omega) (by omega)) (cwV 1 hts gX7_passesAll_X7_passes rfl rfl rfl mdX7_passes ⟨Nat.le_of_ble_eq_true rfl, Nat.le_of_ble_eq_true rfl⟩) (r7_pre hK hP) rfl rfl hl.1 rfl (lv_room (Nat.le_of_ble_eq_true rfl)) dX7_passesAll_74 ⟨Nat.zero_le _, Nat.zero_le _⟩) hS (fun _ _ h => h) (fun _ h => h) (fun wn_10 t H locs ht hvm hp_10 hB hz hk hS => ?_)
  have hP : va_P D vwCl (RM cI ad wn_10) H := ht ▸ hB
  obtain ⟨hp_10, hq0_10⟩ := hp_10
  have E := bns_e E hp_10
  refine lv_aload_n hx hb dX7_passesAll_77 rfl (lv_at hl 0 rfl) ?_
  refine lv_aload_n hx hb dX7_passesAll_78 rfl (lv_at hl 0 rfl) ?_
  refine g7_lasting hx hb hts hin hown hK hP (hts (.fieldLink RX7 37 "LoadedForTheLaneModel" "lasting" "[I") (by decide +kernel)) dX7_passesAll_79 ?_
  refine va_callv (va_runV (As := [.ref (ad 10)]) (rest := []) ⟨hx, hb, hml, hown, hts⟩ (kX7_passes_lasting l D cI ad wn_10 hd (by omega) (by omega)) (cwV 1 hts gX7_passesAll_X7_passes rfl rfl rfl mdX7_passes ⟨Nat.le_of_ble_eq_true rfl, Nat.le_of_ble_eq_true rfl⟩) (r7_pre hK hP) rfl rfl hl.1 rfl (lv_room (Nat.le_of_ble_eq_true rfl)) dX7_passesAll_82 ⟨Nat.zero_le _, Nat.zero_le _⟩) hS (fun _ _ h => h) (fun _ h => h) (fun wn_11 t H locs ht hvm hp_11 hB hz hk hS => ?_)
  have hP : va_P D vwCl (RM cI ad wn_11) H := ht ▸ hB
  obtain ⟨hp_11, hq0_11⟩ := hp_11
  have E := bns_e E hp_11
  refine lv_aload_n hx hb dX7_passesAll_85 rfl (lv_at hl 0 rfl) ?_
  refine lv_aload_n hx hb dX7_passesAll_86 rfl (lv_at hl 0 rfl) ?_
  refine g7_pieces hx hb hts hin hown hK hP (hts (.fieldLink RX7 40 "LoadedForTheLaneModel" "pieces" "[I") (by decide +kernel)) dX7_passesAll_87 ?_
  refine va_callv (va_runV (As := [.ref (ad 11)]) (rest := []) ⟨hx, hb, hml, hown, hts⟩ (kX7_passes_pieces l D cI ad wn_11 hd (by omega) (by omega)) (cwV 1 hts gX7_passesAll_X7_passes rfl rfl rfl mdX7_passes ⟨Nat.le_of_ble_eq_true rfl, Nat.le_of_ble_eq_true rfl⟩) (r7_pre hK hP) rfl rfl hl.1 rfl (lv_room (Nat.le_of_ble_eq_true rfl)) dX7_passesAll_90 ⟨Nat.zero_le _, Nat.zero_le _⟩) hS (fun _ _ h => h) (fun _ h => h) (fun wn_12 t H locs ht hvm hp_12 hB hz hk hS => ?_)
  have hP : va_P D vwCl (RM cI ad wn_12) H := ht ▸ hB
  obtain ⟨hp_12, hq0_12⟩ := hp_12
  have E := bns_e E hp_12
  refine lv_aload_n hx hb dX7_passesAll_93 rfl (lv_at hl 0 rfl) ?_
  refine lv_aload_n hx hb dX7_passesAll_94 rfl (lv_at hl 0 rfl) ?_
  refine lv_aload_n hx hb dX7_passesAll_95 rfl (lv_at hl 0 rfl) ?_
  refine g7_layers hx hb hts hin hown hK hP (hts (.fieldLink RX7 67 "LoadedForTheLaneModel" "layers" "I") (by decide +kernel)) dX7_passesAll_96 ?_
  refine va_calli (va_runV (As := [.int (wn_12 11 0)]) (rest := [.ref (ad 0)]) ⟨hx, hb, hml, hown, hts⟩ (kX7_passOne l D cI ad wn_12 (wn_12 11 0) hd (by omega) (by omega)) (cwV 1 hts gX7_passesAll_X7_passOne rfl rfl rfl mdX7_passOne ⟨Nat.le_of_ble_eq_true rfl, Nat.le_of_ble_eq_true rfl⟩) (r7_pre hK hP) rfl rfl hl.1 rfl (lv_room (Nat.le_of_ble_eq_true rfl)) dX7_passesAll_99 ⟨Nat.zero_le _, Nat.zero_le _⟩) hS (fun _ _ h => h) (fun _ h => h) (fun rn_13 wn_13 t H locs ht hvm hp_13 hB hz hk hS => ?_)
  have hP : va_P D vwCl (RM cI ad wn_13) H := ht ▸ hB
  obtain ⟨hp_13, hq0_13⟩ := hp_13
  have E := bnd_e E hp_13
  refine p7_layers hx hb hts hin hown hK hP hd hS (hts (.fieldLink RX7 67 "LoadedForTheLaneModel" "layers" "I") (by decide +kernel)) dX7_passesAll_102 (fun H locs hP hS => ?_)
  obtain ⟨wn_14, hwn_14⟩ : ∃ x, x = st wn_13 11 0 rn_13 := ⟨_, rfl⟩
  rw [← hwn_14] at hP
  have E := bns_e E hwn_14
  have ft14_cursor : (wn_14 22 0).toInt = (wn_13 22 0).toInt := by rw [hwn_14]; rfl
  exact W.vret hx hb hr (fun t ht hW => ⟨⟨wn_14, rfl, E.symm, by beta_reduce; rw [ht]; exact hP⟩, hS.F ht⟩) hS.2.2 dX7_passesAll_105
abbrev rmX7_load : Room := { frames := 5, cells := 0, slots := 0, locals := 112 }
set_option maxHeartbeats 4000000 in
set_option maxRecDepth 100000 in
theorem kX7_load (l : Launch) (D : va_G) (cI : ClassId) (ad : Nat → Nat) (w : Nat → Nat → Int32) (hd : RD ad) (hI : R7I w) (h1 : (w 11 0).toInt ≤ 11) : Met l yX7_load wsX7_load rmX7_load (va_Pc [Value.ref (ad 0)] (fun U => va_P D vwCl (RM cI ad w) U.heap ∧ va_K D vwCl [(cI, .int)] U)) (va_Qi (fun r u => (r, u) = sX7_load w) (fun u t => va_P D vwCl (RM cI ad u) t.heap) (RA ad)) 0 0 (RA ad) := by
  refine Met.ofW (cc := cX7_load) (maxL := 3) (ret := (some .int)) (by decide) rfl ?_
  intro p e s m args below meth c s₁ B hml hv
  obtain ⟨rfl, hP, hK⟩ := hv
  have hx := B.exec
  have hb := B.bytes
  have hr := B.returns
  have hts := atoms_spec (ws := wsX7_load) B.pre
  have hown : s.vm.findClass RX7 = some m.cls := findClass_of_methodNamed B.named
  have hlocks := B.notSynchronized
  have hin : ∀ q ∈ wsX70, q ∈ wsX7_load := by decide +kernel
  have hl := lv_entry ([.ref (ad 0)]) (n := 3) (Nat.le_of_ble_eq_true rfl)
  rw [lg_entry_eq]
  generalize (lg_sl ([.ref (ad 0)]) ++ List.replicate (3 - (lg_sl ([.ref (ad 0)])).length) Slot.unset).toArray = ls at hl ⊢
  have hl : lv_has ls 3 [(0, .ref (ad 0))] := hl
  suffices hgo : ∀ (H : Heap) (locs : List Loc), va_P D vwCl (RM cI ad w) H → va_S (RA ad) s.heap H locs → W p l e (headSpec wsX7_load rmX7_load).room s m [Value.ref (ad 0)].toArray below meth c H locs 0 0 (MQ below (va_Qi (fun r u => (r, u) = sX7_load w) (fun u t => va_P D vwCl (RM cI ad u) t.heap) (RA ad)) [Value.ref (ad 0)].toArray s 0 0 (RA ad)) (F0 m 0 ls []) from hgo s.heap [] hP va_S.rf
  intro H locs hP hS
  have E := sX7_load.eq_1 w
  refine lv_aload_n hx hb dX7_load_0 rfl (lv_at hl 0 rfl) ?_
  refine lv_iconst (v := 0) hx hb dX7_load_1 (by decide) ?_
  refine p7_at hx hb hts hin hown hK hP hd hS (hts (.fieldLink RX7 86 "LoadedForTheLaneModel" "at" "I") (by decide +kernel)) dX7_load_2 (fun H locs hP hS => ?_)
  obtain ⟨wn_1, hwn_1⟩ : ∃ x, x = st w 17 0 0 := ⟨_, rfl⟩
  rw [← hwn_1] at hP
  have E := bns_e E hwn_1
  have ft1_taped : (wn_1 16 0).toInt = (w 16 0).toInt := by rw [hwn_1]; rfl
  have ft1_at : (wn_1 17 0).toInt = (0).toInt := by rw [hwn_1]; rfl
  have := q_0
  have ft1_statements : (wn_1 18 0).toInt = (w 18 0).toInt := by rw [hwn_1]; rfl
  have ft1_layers : (wn_1 11 0).toInt = (w 11 0).toInt := by rw [hwn_1]; rfl
  have := q_0
  have hI_1 : R7I wn_1 := by rw [hwn_1]; exact R7I_put_at hI (by omega) (by omega)
  refine lv_aload_n hx hb dX7_load_5 rfl (lv_at hl 0 rfl) ?_
  refine lv_iconst (v := 0) hx hb dX7_load_6 (by decide) ?_
  refine p7_statements hx hb hts hin hown hK hP hd hS (hts (.fieldLink RX7 112 "LoadedForTheLaneModel" "statements" "I") (by decide +kernel)) dX7_load_7 (fun H locs hP hS => ?_)
  obtain ⟨wn_2, hwn_2⟩ : ∃ x, x = st wn_1 18 0 0 := ⟨_, rfl⟩
  rw [← hwn_2] at hP
  have E := bns_e E hwn_2
  have ft2_taped : (wn_2 16 0).toInt = (wn_1 16 0).toInt := by rw [hwn_2]; rfl
  have ft2_at : (wn_2 17 0).toInt = (wn_1 17 0).toInt := by rw [hwn_2]; rfl
  have ft2_statements : (wn_2 18 0).toInt = (0).toInt := by rw [hwn_2]; rfl
  have := q_0
  have ft2_layers : (wn_2 11 0).toInt = (wn_1 11 0).toInt := by rw [hwn_2]; rfl
  have := q_0
  have hI_2 : R7I wn_2 := by rw [hwn_2]; exact R7I_put_statements hI_1 (by omega) (by omega)
  refine lv_iconst (v := 1) hx hb dX7_load_10 (by decide) ?_
  refine lv_istore_n (lv' := [(1, .int 1), (0, .ref (ad 0))]) hx hb dX7_load_11 rfl hl (by decide) rfl (fun ls hl => ?_)
  have L_12 : ∀ (n_12 : Nat) (x1_12 : Int32) (w_12 : Nat → Nat → Int32) (H : Heap) (locs : List Loc) (ls : Array Slot), (0 ≤ x1_12.toInt ∧ x1_12.toInt ≤ 1 ∧ 0 ≤ (w_12 17 0).toInt ∧ (w_12 17 0).toInt ≤ 96 ∧ 0 ≤ (w_12 18 0).toInt ∧ 2 * (w_12 18 0).toInt ≤ (w_12 17 0).toInt ∧ (w_12 11 0).toInt ≤ 11) → (2 * (97 - (w_12 17 0).toInt) + x1_12.toInt < (n_12 : Int)) → R7I w_12 → va_P D vwCl (RM cI ad w_12) H → va_S (RA ad) s.heap H locs → lv_has ls 3 [(1, .int x1_12), (0, .ref (ad 0))] → sX7_load w = sX7_load_12 n_12 x1_12 w_12 → W p l e (headSpec wsX7_load rmX7_load).room s m [Value.ref (ad 0)].toArray below meth c H locs 0 0 (MQ below (va_Qi (fun r u => (r, u) = sX7_load w) (fun u t => va_P D vwCl (RM cI ad u) t.heap) (RA ad)) [Value.ref (ad 0)].toArray s 0 0 (RA ad)) (F0 m 12 ls []) := by
    intro n_12
    induction n_12 with
    | zero =>
      intro x1_12 w_12 H locs ls hinv hm
      obtain ⟨v0_12, v1_12, v2_12, v3_12, v4_12, v5_12, v6_12⟩ := hinv
      exact absurd hm (by omega)
    | succ n_12 ih_12 =>
      intro x1_12 w_12 H locs ls hinv hm_12 hI_12 hP hS hl E
      obtain ⟨v0_12, v1_12, v2_12, v3_12, v4_12, v5_12, v6_12⟩ := hinv
      have E := E.trans (sX7_load_12.eq_2 ..)
      refine lv_iload_n hx hb dX7_load_12 rfl (lv_at hl 0 rfl) ?_
      refine lv_if_eq (tgt := 60) hx hb dX7_load_13 (by decide) (fun c_3 => ?_) (fun c_3 => ?_)
      · have E := E.trans (if_pos c_3)
        have fc_3 := i_eq c_3
        rw [q_0] at fc_3
        refine lv_aload_n hx hb dX7_load_60 rfl (lv_at hl 1 rfl) ?_
        refine lv_iconst (v := 0) hx hb dX7_load_61 (by decide) ?_
        refine p7_taped hx hb hts hin hown hK hP hd hS (hts (.fieldLink RX7 79 "LoadedForTheLaneModel" "taped" "I") (by decide +kernel)) dX7_load_62 (fun H locs hP hS => ?_)
        obtain ⟨wn_4, hwn_4⟩ : ∃ x, x = st w_12 16 0 0 := ⟨_, rfl⟩
        rw [← hwn_4] at hP
        have E := bns_e E hwn_4
        have ft4_taped : (wn_4 16 0).toInt = (0).toInt := by rw [hwn_4]; rfl
        have := q_0
        have ft4_at : (wn_4 17 0).toInt = (w_12 17 0).toInt := by rw [hwn_4]; rfl
        have ft4_statements : (wn_4 18 0).toInt = (w_12 18 0).toInt := by rw [hwn_4]; rfl
        have ft4_layers : (wn_4 11 0).toInt = (w_12 11 0).toInt := by rw [hwn_4]; rfl
        have := q_0
        have hI_4 : R7I wn_4 := by rw [hwn_4]; exact R7I_put_taped hI_12 (by omega) (by omega)
        refine lv_iload_n hx hb dX7_load_65 rfl (lv_at hl 0 rfl) ?_
        refine lv_if_ne (tgt := 78) hx hb dX7_load_66 (by decide) (fun c_5 => ?_) (fun c_5 => ?_)
        · have E := E.trans (if_neg c_5)
          have fc_5 := i_ne c_5
          rw [q_0] at fc_5
          refine lv_aload_n hx hb dX7_load_78 rfl (lv_at hl 1 rfl) ?_
          refine lv_iconst (v := 1) hx hb dX7_load_79 (by decide) ?_
          refine lv_iconst (v := 1) hx hb dX7_load_80 (by decide) ?_
          have := q_1
          refine va_callv (va_runV (As := [.int 1, .int 1]) (rest := []) ⟨hx, hb, hml, hown, hts⟩ (kX7_passesAll l D cI ad wn_4 1 1 hd (by omega) (by omega) (Or.inr rfl)) (cwV 2 hts gX7_load_X7_passesAll rfl rfl rfl mdX7_passesAll ⟨Nat.le_of_ble_eq_true rfl, Nat.le_of_ble_eq_true rfl⟩) (r7_pre hK hP) rfl rfl hl.1 rfl (lv_room (Nat.le_of_ble_eq_true rfl)) dX7_load_81 ⟨Nat.zero_le _, Nat.zero_le _⟩) hS (fun _ _ h => h) (fun _ h => h) (fun wn_6 t H locs ht hvm hp_6 hB hz hk hS => ?_)
          have hP : va_P D vwCl (RM cI ad wn_6) H := ht ▸ hB
          have E := bns_e E hp_6
          have e_6 := fun k h1 h2 h3 => (congrFun hp_6 k).trans (iX7_save (w := wn_4) (a := 1) k h1 h2 h3)
          have hI_6 : R7I wn_6 := R7I_eq hI_4 (e_6 10 (by decide) (by decide) (by decide)) (e_6 11 (by decide) (by decide) (by decide)) (e_6 16 (by decide) (by decide) (by decide)) (e_6 17 (by decide) (by decide) (by decide)) (e_6 18 (by decide) (by decide) (by decide)) (e_6 27 (by decide) (by decide) (by decide))
          have el_6 : (wn_6 11 0).toInt = (wn_4 11 0).toInt := by rw [e_6 11 (by decide) (by decide) (by decide)]
          have es_6 : (wn_6 18 0).toInt = (wn_4 18 0).toInt := by rw [e_6 18 (by decide) (by decide) (by decide)]
          refine lv_iconst (v := 0) hx hb dX7_load_84 (by decide) ?_
          refine lv_istore_n (lv' := [(2, .int 0), (1, .int x1_12), (0, .ref (ad 0))]) hx hb dX7_load_85 rfl hl (by decide) rfl (fun ls hl => ?_)
          have L_86 : ∀ (n_86 : Nat) (x2_86 : Int32) (w_86 : Nat → Nat → Int32) (H : Heap) (locs : List Loc) (ls : Array Slot), (0 ≤ x2_86.toInt ∧ x2_86.toInt ≤ 48 ∧ (w_86 11 0).toInt ≤ 11) → (48 - x2_86.toInt < (n_86 : Int)) → R7I w_86 → va_P D vwCl (RM cI ad w_86) H → va_S (RA ad) s.heap H locs → lv_has ls 3 [(2, .int x2_86), (0, .ref (ad 0))] → sX7_load w = sX7_load_86 n_86 x2_86 w_86 → W p l e (headSpec wsX7_load rmX7_load).room s m [Value.ref (ad 0)].toArray below meth c H locs 0 0 (MQ below (va_Qi (fun r u => (r, u) = sX7_load w) (fun u t => va_P D vwCl (RM cI ad u) t.heap) (RA ad)) [Value.ref (ad 0)].toArray s 0 0 (RA ad)) (F0 m 86 ls []) := by
            intro n_86
            induction n_86 with
            | zero =>
              intro x2_86 w_86 H locs ls hinv hm
              obtain ⟨v0_86, v1_86, v2_86⟩ := hinv
              exact absurd hm (by omega)
            | succ n_86 ih_86 =>
              intro x2_86 w_86 H locs ls hinv hm_86 hI_86 hP hS hl E
              obtain ⟨v0_86, v1_86, v2_86⟩ := hinv
              have E := E.trans (sX7_load_86.eq_2 ..)
              refine lv_iload_n hx hb dX7_load_86 rfl (lv_at hl 0 rfl) ?_
              refine lv_aload_n hx hb dX7_load_87 rfl (lv_at hl 1 rfl) ?_
              refine g7_statements hx hb hts hin hown hK hP (hts (.fieldLink RX7 112 "LoadedForTheLaneModel" "statements" "I") (by decide +kernel)) dX7_load_88 ?_
              have f_7 := R7I_statements hI_86
              refine lv_icmp_ge (tgt := 128) hx hb dX7_load_91 (by decide) (fun c_8 => ?_) (fun c_8 => ?_)
              · have E := E.trans (if_pos c_8)
                have fc_8 := i_le c_8
                refine lv_aload_n hx hb dX7_load_128 rfl (lv_at hl 1 rfl) ?_
                refine g7_statements hx hb hts hin hown hK hP (hts (.fieldLink RX7 112 "LoadedForTheLaneModel" "statements" "I") (by decide +kernel)) dX7_load_129 ?_
                have f_9 := R7I_statements hI_86
                exact W.iret (v := w_86 18 0) hx hb hr (fun t ht hW => ⟨⟨_, w_86, rfl, E.symm, by beta_reduce; rw [ht]; exact hP⟩, hS.F ht⟩) hS.2.2 dX7_load_132
              · have E := E.trans (if_neg c_8)
                have fc_8 := i_nle c_8
                refine lv_aload_n hx hb dX7_load_94 rfl (lv_at hl 1 rfl) ?_
                refine lv_iload_n hx hb dX7_load_95 rfl (lv_at hl 0 rfl) ?_
                refine va_calli (va_runV (As := [.int x2_86]) (rest := []) ⟨hx, hb, hml, hown, hts⟩ (kX7_comes l D cI ad w_86 x2_86 hd hI_86 (by omega) (by omega) (by omega)) (cwV 1 hts gX7_load_X7_comes rfl rfl rfl mdX7_comes ⟨Nat.le_of_ble_eq_true rfl, Nat.le_of_ble_eq_true rfl⟩) (r7_pre hK hP) rfl rfl hl.1 rfl (lv_room (Nat.le_of_ble_eq_true rfl)) dX7_load_96 ⟨Nat.zero_le _, Nat.zero_le _⟩) hS (fun _ _ h => h) (fun _ h => h) (fun rn_10 wn_10 t H locs ht hvm hp_10 hB hz hk hS => ?_)
                have hP : va_P D vwCl (RM cI ad wn_10) H := ht ▸ hB
                obtain ⟨hp_10, hz_10, hI_10, hq0_10⟩ := hp_10
                have E := bnd_e E hp_10
                have hzi_10 := z_int hz_10
                refine lv_if_eq (tgt := 105) hx hb dX7_load_99 (by decide) (fun c_11 => ?_) (fun c_11 => ?_)
                · have E := E.trans (if_pos c_11)
                  have fc_11 := i_eq c_11
                  rw [q_0] at fc_11
                  refine lv_aload_n hx hb dX7_load_105 rfl (lv_at hl 1 rfl) ?_
                  refine lv_iconst (v := 1) hx hb dX7_load_106 (by decide) ?_
                  refine lv_iconst (v := 0) hx hb dX7_load_107 (by decide) ?_
                  have := q_1
                  have := q_0
                  refine va_callv (va_runV (As := [.int 1, .int 0]) (rest := []) ⟨hx, hb, hml, hown, hts⟩ (kX7_passesAll l D cI ad wn_10 1 0 hd (by omega) (by omega) (Or.inl rfl)) (cwV 2 hts gX7_load_X7_passesAll rfl rfl rfl mdX7_passesAll ⟨Nat.le_of_ble_eq_true rfl, Nat.le_of_ble_eq_true rfl⟩) (r7_pre hK hP) rfl rfl hl.1 rfl (lv_room (Nat.le_of_ble_eq_true rfl)) dX7_load_108 ⟨Nat.zero_le _, Nat.zero_le _⟩) hS (fun _ _ h => h) (fun _ h => h) (fun wn_12 t H locs ht hvm hp_12 hB hz hk hS => ?_)
                  have hP : va_P D vwCl (RM cI ad wn_12) H := ht ▸ hB
                  have E := bns_e E hp_12
                  refine lv_sipush (v := (-2000)) hx hb dX7_load_111 (by decide +kernel) ?_
                  refine lv_aload_n hx hb dX7_load_114 rfl (lv_at hl 1 rfl) ?_
                  refine g7_letterAt hx hb hts hin hown hK hP (hts (.fieldLink RX7 49 "LoadedForTheLaneModel" "letterAt" "[I") (by decide +kernel)) dX7_load_115 ?_
                  refine lv_iload_n hx hb dX7_load_118 rfl (lv_at hl 0 rfl) ?_
                  have ix_13 : vp_in x2_86 48 := ix_of (by omega) (by omega)
                  refine l7_letterAt (j := x2_86.toNatClampNeg) hx hb hK hP ix_13 rfl dX7_load_119 ?_
                  refine lv_isub hx hb dX7_load_120 ?_
                  exact W.iret (v := (-2000) - (wn_12 14 (x2_86.toNatClampNeg))) hx hb hr (fun t ht hW => ⟨⟨_, wn_12, rfl, E.symm, by beta_reduce; rw [ht]; exact hP⟩, hS.F ht⟩) hS.2.2 dX7_load_121
                · have E := E.trans (if_neg c_11)
                  have fc_11 := i_ne c_11
                  rw [q_0] at fc_11
                  refine lv_goto (tgt := 122) hx hb dX7_load_102 (by decide) ?_
                  refine lv_iinc (v := x2_86 + 1) (lv' := [(2, .int (x2_86 + 1)), (0, .ref (ad 0))]) hx hb dX7_load_122 hl (k := 0) rfl rfl (by decide) rfl (fun ls hl => ?_)
                  refine lv_goto (tgt := 86) hx hb dX7_load_125 (by decide) ?_
                  have := q_1
                  try have := i_add (a := x2_86) (b := 1) (by omega) (by omega)
                  exact ih_86 (x2_86 + 1) wn_10 H locs ls ⟨by omega, by omega, by omega⟩ (by omega) hI_10 hP hS (lv_sub hl [0, 1] rfl) E
          have := q_0
          exact L_86 49 0 wn_6 H locs ls ⟨by omega, by omega, by omega⟩ (by omega) hI_6 hP hS (lv_sub hl [0, 2] rfl) E
        · have E := E.trans (if_pos c_5)
          have fc_5 := i_eq c_5
          rw [q_0] at fc_5
          refine lv_sipush (v := (-1000)) hx hb dX7_load_69 (by decide +kernel) ?_
          refine lv_aload_n hx hb dX7_load_72 rfl (lv_at hl 1 rfl) ?_
          refine g7_at hx hb hts hin hown hK hP (hts (.fieldLink RX7 86 "LoadedForTheLaneModel" "at" "I") (by decide +kernel)) dX7_load_73 ?_
          have f_14 := R7I_at hI_4
          refine lv_isub hx hb dX7_load_76 ?_
          exact W.iret (v := (-1000) - (wn_4 17 0)) hx hb hr (fun t ht hW => ⟨⟨_, wn_4, rfl, E.symm, by beta_reduce; rw [ht]; exact hP⟩, hS.F ht⟩) hS.2.2 dX7_load_77
      · have E := E.trans (if_neg c_3)
        have fc_3 := i_ne c_3
        rw [q_0] at fc_3
        refine lv_aload_n hx hb dX7_load_16 rfl (lv_at hl 1 rfl) ?_
        refine g7_at hx hb hts hin hown hK hP (hts (.fieldLink RX7 86 "LoadedForTheLaneModel" "at" "I") (by decide +kernel)) dX7_load_17 ?_
        have f_15 := R7I_at hI_12
        refine lv_aload_n hx hb dX7_load_20 rfl (lv_at hl 1 rfl) ?_
        refine g7_taped hx hb hts hin hown hK hP (hts (.fieldLink RX7 79 "LoadedForTheLaneModel" "taped" "I") (by decide +kernel)) dX7_load_21 ?_
        have f_16 := R7I_taped hI_12
        refine lv_icmp_lt (tgt := 34) hx hb dX7_load_24 (by decide) (fun c_17 => ?_) (fun c_17 => ?_)
        · have E := E.trans (if_pos c_17)
          have fc_17 := i_lt c_17
          refine lv_aload_n hx hb dX7_load_34 rfl (lv_at hl 1 rfl) ?_
          refine va_calli (va_runV (As := []) (rest := []) ⟨hx, hb, hml, hown, hts⟩ (kX7_statement l D cI ad w_12 hd hI_12 (by omega)) (cwV 0 hts gX7_load_X7_statement rfl rfl rfl mdX7_statement ⟨Nat.le_of_ble_eq_true rfl, Nat.le_of_ble_eq_true rfl⟩) (r7_pre hK hP) rfl rfl hl.1 rfl (lv_room (Nat.le_of_ble_eq_true rfl)) dX7_load_35 ⟨Nat.zero_le _, Nat.zero_le _⟩) hS (fun _ _ h => h) (fun _ h => h) (fun rn_18 wn_18 t H locs ht hvm hp_18 hB hz hk hS => ?_)
          have hP : va_P D vwCl (RM cI ad wn_18) H := ht ▸ hB
          obtain ⟨hp_18, hz_18, hI_18, hq0_18, hq1_18, hq2_18, hq3_18, hq4_18⟩ := hp_18
          have E := bnd_e E hp_18
          have hzi_18 := z_int hz_18
          refine lv_istore_n (lv' := [(1, .int rn_18), (0, .ref (ad 0))]) hx hb dX7_load_38 rfl hl (by decide) rfl (fun ls hl => ?_)
          refine lv_aload_n hx hb dX7_load_39 rfl (lv_at hl 1 rfl) ?_
          refine lv_dup hx hb dX7_load_40 rfl ?_
          refine g7_statements hx hb hts hin hown hK hP (hts (.fieldLink RX7 112 "LoadedForTheLaneModel" "statements" "I") (by decide +kernel)) dX7_load_41 ?_
          have f_19 := R7I_statements hI_18
          refine lv_iload_n hx hb dX7_load_44 rfl (lv_at hl 0 rfl) ?_
          refine lv_if_eq (tgt := 52) hx hb dX7_load_45 (by decide) (fun c_20 => ?_) (fun c_20 => ?_)
          · have E := E.trans (if_pos c_20)
            have fc_20 := i_eq c_20
            rw [q_0] at fc_20
            refine lv_iconst (v := 0) hx hb dX7_load_52 (by decide) ?_
            refine lv_iadd hx hb dX7_load_53 ?_
            refine p7_statements hx hb hts hin hown hK hP hd hS (hts (.fieldLink RX7 112 "LoadedForTheLaneModel" "statements" "I") (by decide +kernel)) dX7_load_54 (fun H locs hP hS => ?_)
            obtain ⟨wn_21, hwn_21⟩ : ∃ x, x = st wn_18 18 0 ((wn_18 18 0) + 0) := ⟨_, rfl⟩
            rw [← hwn_21] at hP
            have E := bns_e E hwn_21
            have ft21_taped : (wn_21 16 0).toInt = (wn_18 16 0).toInt := by rw [hwn_21]; rfl
            have ft21_at : (wn_21 17 0).toInt = (wn_18 17 0).toInt := by rw [hwn_21]; rfl
            have ft21_statements : (wn_21 18 0).toInt = ((wn_18 18 0) + 0).toInt := by rw [hwn_21]; rfl
            have := q_0
            have := i_add (a := wn_18 18 0) (b := 0) (by omega) (by omega)
            have ft21_layers : (wn_21 11 0).toInt = (wn_18 11 0).toInt := by rw [hwn_21]; rfl
            have := q_0
            have := i_add (a := wn_18 18 0) (b := 0) (by omega) (by omega)
            have hI_21 : R7I wn_21 := by rw [hwn_21]; exact R7I_put_statements hI_18 (by omega) (by omega)
            refine lv_goto (tgt := 12) hx hb dX7_load_57 (by decide) ?_
            exact ih_12 rn_18 wn_21 H locs ls ⟨by omega, by omega, by omega, by omega, by omega, by omega, by omega⟩ (by omega) hI_21 hP hS (lv_sub hl [0, 1] rfl) E
          · have E := E.trans (if_neg c_20)
            have fc_20 := i_ne c_20
            rw [q_0] at fc_20
            refine lv_iconst (v := 1) hx hb dX7_load_48 (by decide) ?_
            refine lv_goto (tgt := 53) hx hb dX7_load_49 (by decide) ?_
            refine lv_iadd hx hb dX7_load_53 ?_
            refine p7_statements hx hb hts hin hown hK hP hd hS (hts (.fieldLink RX7 112 "LoadedForTheLaneModel" "statements" "I") (by decide +kernel)) dX7_load_54 (fun H locs hP hS => ?_)
            obtain ⟨wn_22, hwn_22⟩ : ∃ x, x = st wn_18 18 0 ((wn_18 18 0) + 1) := ⟨_, rfl⟩
            rw [← hwn_22] at hP
            have E := bns_e E hwn_22
            have ft22_taped : (wn_22 16 0).toInt = (wn_18 16 0).toInt := by rw [hwn_22]; rfl
            have ft22_at : (wn_22 17 0).toInt = (wn_18 17 0).toInt := by rw [hwn_22]; rfl
            have ft22_statements : (wn_22 18 0).toInt = ((wn_18 18 0) + 1).toInt := by rw [hwn_22]; rfl
            have := q_1
            have := i_add (a := wn_18 18 0) (b := 1) (by omega) (by omega)
            have ft22_layers : (wn_22 11 0).toInt = (wn_18 11 0).toInt := by rw [hwn_22]; rfl
            have := q_1
            have := i_add (a := wn_18 18 0) (b := 1) (by omega) (by omega)
            have hI_22 : R7I wn_22 := by rw [hwn_22]; exact R7I_put_statements hI_18 (by omega) (by omega)
            refine lv_goto (tgt := 12) hx hb dX7_load_57 (by decide) ?_
            exact ih_12 rn_18 wn_22 H locs ls ⟨by omega, by omega, by omega, by omega, by omega, by omega, by omega⟩ (by omega) hI_22 hP hS (lv_sub hl [0, 1] rfl) E
        · have E := E.trans (if_neg c_17)
          have fc_17 := i_nlt c_17
          refine lv_aload_n hx hb dX7_load_27 rfl (lv_at hl 1 rfl) ?_
          refine g7_statements hx hb hts hin hown hK hP (hts (.fieldLink RX7 112 "LoadedForTheLaneModel" "statements" "I") (by decide +kernel)) dX7_load_28 ?_
          have f_23 := R7I_statements hI_12
          refine lv_if_ne (tgt := 60) hx hb dX7_load_31 (by decide) (fun c_24 => ?_) (fun c_24 => ?_)
          · have E := E.trans (if_neg c_24)
            have fc_24 := i_ne c_24
            rw [q_0] at fc_24
            refine lv_aload_n hx hb dX7_load_60 rfl (lv_at hl 1 rfl) ?_
            refine lv_iconst (v := 0) hx hb dX7_load_61 (by decide) ?_
            refine p7_taped hx hb hts hin hown hK hP hd hS (hts (.fieldLink RX7 79 "LoadedForTheLaneModel" "taped" "I") (by decide +kernel)) dX7_load_62 (fun H locs hP hS => ?_)
            obtain ⟨wn_25, hwn_25⟩ : ∃ x, x = st w_12 16 0 0 := ⟨_, rfl⟩
            rw [← hwn_25] at hP
            have E := bns_e E hwn_25
            have ft25_taped : (wn_25 16 0).toInt = (0).toInt := by rw [hwn_25]; rfl
            have := q_0
            have ft25_at : (wn_25 17 0).toInt = (w_12 17 0).toInt := by rw [hwn_25]; rfl
            have ft25_statements : (wn_25 18 0).toInt = (w_12 18 0).toInt := by rw [hwn_25]; rfl
            have ft25_layers : (wn_25 11 0).toInt = (w_12 11 0).toInt := by rw [hwn_25]; rfl
            have := q_0
            have hI_25 : R7I wn_25 := by rw [hwn_25]; exact R7I_put_taped hI_12 (by omega) (by omega)
            refine lv_iload_n hx hb dX7_load_65 rfl (lv_at hl 0 rfl) ?_
            refine lv_if_ne (tgt := 78) hx hb dX7_load_66 (by decide) (fun c_26 => ?_) (fun c_26 => ?_)
            · have E := E.trans (if_neg c_26)
              have fc_26 := i_ne c_26
              rw [q_0] at fc_26
              refine lv_aload_n hx hb dX7_load_78 rfl (lv_at hl 1 rfl) ?_
              refine lv_iconst (v := 1) hx hb dX7_load_79 (by decide) ?_
              refine lv_iconst (v := 1) hx hb dX7_load_80 (by decide) ?_
              have := q_1
              refine va_callv (va_runV (As := [.int 1, .int 1]) (rest := []) ⟨hx, hb, hml, hown, hts⟩ (kX7_passesAll l D cI ad wn_25 1 1 hd (by omega) (by omega) (Or.inr rfl)) (cwV 2 hts gX7_load_X7_passesAll rfl rfl rfl mdX7_passesAll ⟨Nat.le_of_ble_eq_true rfl, Nat.le_of_ble_eq_true rfl⟩) (r7_pre hK hP) rfl rfl hl.1 rfl (lv_room (Nat.le_of_ble_eq_true rfl)) dX7_load_81 ⟨Nat.zero_le _, Nat.zero_le _⟩) hS (fun _ _ h => h) (fun _ h => h) (fun wn_27 t H locs ht hvm hp_27 hB hz hk hS => ?_)
              have hP : va_P D vwCl (RM cI ad wn_27) H := ht ▸ hB
              have E := bns_e E hp_27
              have e_27 := fun k h1 h2 h3 => (congrFun hp_27 k).trans (iX7_save (w := wn_25) (a := 1) k h1 h2 h3)
              have hI_27 : R7I wn_27 := R7I_eq hI_25 (e_27 10 (by decide) (by decide) (by decide)) (e_27 11 (by decide) (by decide) (by decide)) (e_27 16 (by decide) (by decide) (by decide)) (e_27 17 (by decide) (by decide) (by decide)) (e_27 18 (by decide) (by decide) (by decide)) (e_27 27 (by decide) (by decide) (by decide))
              have el_27 : (wn_27 11 0).toInt = (wn_25 11 0).toInt := by rw [e_27 11 (by decide) (by decide) (by decide)]
              have es_27 : (wn_27 18 0).toInt = (wn_25 18 0).toInt := by rw [e_27 18 (by decide) (by decide) (by decide)]
              refine lv_iconst (v := 0) hx hb dX7_load_84 (by decide) ?_
              refine lv_istore_n (lv' := [(2, .int 0), (1, .int x1_12), (0, .ref (ad 0))]) hx hb dX7_load_85 rfl hl (by decide) rfl (fun ls hl => ?_)
              have L_86 : ∀ (n_86 : Nat) (x2_86 : Int32) (w_86 : Nat → Nat → Int32) (H : Heap) (locs : List Loc) (ls : Array Slot), (0 ≤ x2_86.toInt ∧ x2_86.toInt ≤ 48 ∧ (w_86 11 0).toInt ≤ 11) → (48 - x2_86.toInt < (n_86 : Int)) → R7I w_86 → va_P D vwCl (RM cI ad w_86) H → va_S (RA ad) s.heap H locs → lv_has ls 3 [(2, .int x2_86), (0, .ref (ad 0))] → sX7_load w = sX7_load_86 n_86 x2_86 w_86 → W p l e (headSpec wsX7_load rmX7_load).room s m [Value.ref (ad 0)].toArray below meth c H locs 0 0 (MQ below (va_Qi (fun r u => (r, u) = sX7_load w) (fun u t => va_P D vwCl (RM cI ad u) t.heap) (RA ad)) [Value.ref (ad 0)].toArray s 0 0 (RA ad)) (F0 m 86 ls []) := by
                intro n_86
                induction n_86 with
                | zero =>
                  intro x2_86 w_86 H locs ls hinv hm
                  obtain ⟨v0_86, v1_86, v2_86⟩ := hinv
                  exact absurd hm (by omega)
                | succ n_86 ih_86 =>
                  intro x2_86 w_86 H locs ls hinv hm_86 hI_86 hP hS hl E
                  obtain ⟨v0_86, v1_86, v2_86⟩ := hinv
                  have E := E.trans (sX7_load_86.eq_2 ..)
                  refine lv_iload_n hx hb dX7_load_86 rfl (lv_at hl 0 rfl) ?_
                  refine lv_aload_n hx hb dX7_load_87 rfl (lv_at hl 1 rfl) ?_
                  refine g7_statements hx hb hts hin hown hK hP (hts (.fieldLink RX7 112 "LoadedForTheLaneModel" "statements" "I") (by decide +kernel)) dX7_load_88 ?_
                  have f_28 := R7I_statements hI_86
                  refine lv_icmp_ge (tgt := 128) hx hb dX7_load_91 (by decide) (fun c_29 => ?_) (fun c_29 => ?_)
                  · have E := E.trans (if_pos c_29)
                    have fc_29 := i_le c_29
                    refine lv_aload_n hx hb dX7_load_128 rfl (lv_at hl 1 rfl) ?_
                    refine g7_statements hx hb hts hin hown hK hP (hts (.fieldLink RX7 112 "LoadedForTheLaneModel" "statements" "I") (by decide +kernel)) dX7_load_129 ?_
                    have f_30 := R7I_statements hI_86
                    exact W.iret (v := w_86 18 0) hx hb hr (fun t ht hW => ⟨⟨_, w_86, rfl, E.symm, by beta_reduce; rw [ht]; exact hP⟩, hS.F ht⟩) hS.2.2 dX7_load_132
                  · have E := E.trans (if_neg c_29)
                    have fc_29 := i_nle c_29
                    refine lv_aload_n hx hb dX7_load_94 rfl (lv_at hl 1 rfl) ?_
                    refine lv_iload_n hx hb dX7_load_95 rfl (lv_at hl 0 rfl) ?_
                    refine va_calli (va_runV (As := [.int x2_86]) (rest := []) ⟨hx, hb, hml, hown, hts⟩ (kX7_comes l D cI ad w_86 x2_86 hd hI_86 (by omega) (by omega) (by omega)) (cwV 1 hts gX7_load_X7_comes rfl rfl rfl mdX7_comes ⟨Nat.le_of_ble_eq_true rfl, Nat.le_of_ble_eq_true rfl⟩) (r7_pre hK hP) rfl rfl hl.1 rfl (lv_room (Nat.le_of_ble_eq_true rfl)) dX7_load_96 ⟨Nat.zero_le _, Nat.zero_le _⟩) hS (fun _ _ h => h) (fun _ h => h) (fun rn_31 wn_31 t H locs ht hvm hp_31 hB hz hk hS => ?_)
                    have hP : va_P D vwCl (RM cI ad wn_31) H := ht ▸ hB
                    obtain ⟨hp_31, hz_31, hI_31, hq0_31⟩ := hp_31
                    have E := bnd_e E hp_31
                    have hzi_31 := z_int hz_31
                    refine lv_if_eq (tgt := 105) hx hb dX7_load_99 (by decide) (fun c_32 => ?_) (fun c_32 => ?_)
                    · have E := E.trans (if_pos c_32)
                      have fc_32 := i_eq c_32
                      rw [q_0] at fc_32
                      refine lv_aload_n hx hb dX7_load_105 rfl (lv_at hl 1 rfl) ?_
                      refine lv_iconst (v := 1) hx hb dX7_load_106 (by decide) ?_
                      refine lv_iconst (v := 0) hx hb dX7_load_107 (by decide) ?_
                      have := q_1
                      have := q_0
                      refine va_callv (va_runV (As := [.int 1, .int 0]) (rest := []) ⟨hx, hb, hml, hown, hts⟩ (kX7_passesAll l D cI ad wn_31 1 0 hd (by omega) (by omega) (Or.inl rfl)) (cwV 2 hts gX7_load_X7_passesAll rfl rfl rfl mdX7_passesAll ⟨Nat.le_of_ble_eq_true rfl, Nat.le_of_ble_eq_true rfl⟩) (r7_pre hK hP) rfl rfl hl.1 rfl (lv_room (Nat.le_of_ble_eq_true rfl)) dX7_load_108 ⟨Nat.zero_le _, Nat.zero_le _⟩) hS (fun _ _ h => h) (fun _ h => h) (fun wn_33 t H locs ht hvm hp_33 hB hz hk hS => ?_)
                      have hP : va_P D vwCl (RM cI ad wn_33) H := ht ▸ hB
                      have E := bns_e E hp_33
                      refine lv_sipush (v := (-2000)) hx hb dX7_load_111 (by decide +kernel) ?_
                      refine lv_aload_n hx hb dX7_load_114 rfl (lv_at hl 1 rfl) ?_
                      refine g7_letterAt hx hb hts hin hown hK hP (hts (.fieldLink RX7 49 "LoadedForTheLaneModel" "letterAt" "[I") (by decide +kernel)) dX7_load_115 ?_
                      refine lv_iload_n hx hb dX7_load_118 rfl (lv_at hl 0 rfl) ?_
                      have ix_34 : vp_in x2_86 48 := ix_of (by omega) (by omega)
                      refine l7_letterAt (j := x2_86.toNatClampNeg) hx hb hK hP ix_34 rfl dX7_load_119 ?_
                      refine lv_isub hx hb dX7_load_120 ?_
                      exact W.iret (v := (-2000) - (wn_33 14 (x2_86.toNatClampNeg))) hx hb hr (fun t ht hW => ⟨⟨_, wn_33, rfl, E.symm, by beta_reduce; rw [ht]; exact hP⟩, hS.F ht⟩) hS.2.2 dX7_load_121
                    · have E := E.trans (if_neg c_32)
                      have fc_32 := i_ne c_32
                      rw [q_0] at fc_32
                      refine lv_goto (tgt := 122) hx hb dX7_load_102 (by decide) ?_
                      refine lv_iinc (v := x2_86 + 1) (lv' := [(2, .int (x2_86 + 1)), (0, .ref (ad 0))]) hx hb dX7_load_122 hl (k := 0) rfl rfl (by decide) rfl (fun ls hl => ?_)
                      refine lv_goto (tgt := 86) hx hb dX7_load_125 (by decide) ?_
                      have := q_1
                      try have := i_add (a := x2_86) (b := 1) (by omega) (by omega)
                      exact ih_86 (x2_86 + 1) wn_31 H locs ls ⟨by omega, by omega, by omega⟩ (by omega) hI_31 hP hS (lv_sub hl [0, 1] rfl) E
              have := q_0
              exact L_86 49 0 wn_27 H locs ls ⟨by omega, by omega, by omega⟩ (by omega) hI_27 hP hS (lv_sub hl [0, 2] rfl) E
            · have E := E.trans (if_pos c_26)
              have fc_26 := i_eq c_26
              rw [q_0] at fc_26
              refine lv_sipush (v := (-1000)) hx hb dX7_load_69 (by decide +kernel) ?_
              refine lv_aload_n hx hb dX7_load_72 rfl (lv_at hl 1 rfl) ?_
              refine g7_at hx hb hts hin hown hK hP (hts (.fieldLink RX7 86 "LoadedForTheLaneModel" "at" "I") (by decide +kernel)) dX7_load_73 ?_
              have f_35 := R7I_at hI_25
              refine lv_isub hx hb dX7_load_76 ?_
              exact W.iret (v := (-1000) - (wn_25 17 0)) hx hb hr (fun t ht hW => ⟨⟨_, wn_25, rfl, E.symm, by beta_reduce; rw [ht]; exact hP⟩, hS.F ht⟩) hS.2.2 dX7_load_77
          · have E := E.trans (if_pos c_24)
            have fc_24 := i_eq c_24
            rw [q_0] at fc_24
            refine lv_aload_n hx hb dX7_load_34 rfl (lv_at hl 1 rfl) ?_
            refine va_calli (va_runV (As := []) (rest := []) ⟨hx, hb, hml, hown, hts⟩ (kX7_statement l D cI ad w_12 hd hI_12 (by omega)) (cwV 0 hts gX7_load_X7_statement rfl rfl rfl mdX7_statement ⟨Nat.le_of_ble_eq_true rfl, Nat.le_of_ble_eq_true rfl⟩) (r7_pre hK hP) rfl rfl hl.1 rfl (lv_room (Nat.le_of_ble_eq_true rfl)) dX7_load_35 ⟨Nat.zero_le _, Nat.zero_le _⟩) hS (fun _ _ h => h) (fun _ h => h) (fun rn_36 wn_36 t H locs ht hvm hp_36 hB hz hk hS => ?_)
            have hP : va_P D vwCl (RM cI ad wn_36) H := ht ▸ hB
            obtain ⟨hp_36, hz_36, hI_36, hq0_36, hq1_36, hq2_36, hq3_36, hq4_36⟩ := hp_36
            have E := bnd_e E hp_36
            have hzi_36 := z_int hz_36
            refine lv_istore_n (lv' := [(1, .int rn_36), (0, .ref (ad 0))]) hx hb dX7_load_38 rfl hl (by decide) rfl (fun ls hl => ?_)
            refine lv_aload_n hx hb dX7_load_39 rfl (lv_at hl 1 rfl) ?_
            refine lv_dup hx hb dX7_load_40 rfl ?_
            refine g7_statements hx hb hts hin hown hK hP (hts (.fieldLink RX7 112 "LoadedForTheLaneModel" "statements" "I") (by decide +kernel)) dX7_load_41 ?_
            have f_37 := R7I_statements hI_36
            refine lv_iload_n hx hb dX7_load_44 rfl (lv_at hl 0 rfl) ?_
            refine lv_if_eq (tgt := 52) hx hb dX7_load_45 (by decide) (fun c_38 => ?_) (fun c_38 => ?_)
            · have E := E.trans (if_pos c_38)
              have fc_38 := i_eq c_38
              rw [q_0] at fc_38
              refine lv_iconst (v := 0) hx hb dX7_load_52 (by decide) ?_
              refine lv_iadd hx hb dX7_load_53 ?_
              refine p7_statements hx hb hts hin hown hK hP hd hS (hts (.fieldLink RX7 112 "LoadedForTheLaneModel" "statements" "I") (by decide +kernel)) dX7_load_54 (fun H locs hP hS => ?_)
              obtain ⟨wn_39, hwn_39⟩ : ∃ x, x = st wn_36 18 0 ((wn_36 18 0) + 0) := ⟨_, rfl⟩
              rw [← hwn_39] at hP
              have E := bns_e E hwn_39
              have ft39_taped : (wn_39 16 0).toInt = (wn_36 16 0).toInt := by rw [hwn_39]; rfl
              have ft39_at : (wn_39 17 0).toInt = (wn_36 17 0).toInt := by rw [hwn_39]; rfl
              have ft39_statements : (wn_39 18 0).toInt = ((wn_36 18 0) + 0).toInt := by rw [hwn_39]; rfl
              have := q_0
              have := i_add (a := wn_36 18 0) (b := 0) (by omega) (by omega)
              have ft39_layers : (wn_39 11 0).toInt = (wn_36 11 0).toInt := by rw [hwn_39]; rfl
              have := q_0
              have := i_add (a := wn_36 18 0) (b := 0) (by omega) (by omega)
              have hI_39 : R7I wn_39 := by rw [hwn_39]; exact R7I_put_statements hI_36 (by omega) (by omega)
              refine lv_goto (tgt := 12) hx hb dX7_load_57 (by decide) ?_
              exact ih_12 rn_36 wn_39 H locs ls ⟨by omega, by omega, by omega, by omega, by omega, by omega, by omega⟩ (by omega) hI_39 hP hS (lv_sub hl [0, 1] rfl) E
            · have E := E.trans (if_neg c_38)
              have fc_38 := i_ne c_38
              rw [q_0] at fc_38
              refine lv_iconst (v := 1) hx hb dX7_load_48 (by decide) ?_
              refine lv_goto (tgt := 53) hx hb dX7_load_49 (by decide) ?_
              refine lv_iadd hx hb dX7_load_53 ?_
              refine p7_statements hx hb hts hin hown hK hP hd hS (hts (.fieldLink RX7 112 "LoadedForTheLaneModel" "statements" "I") (by decide +kernel)) dX7_load_54 (fun H locs hP hS => ?_)
              obtain ⟨wn_40, hwn_40⟩ : ∃ x, x = st wn_36 18 0 ((wn_36 18 0) + 1) := ⟨_, rfl⟩
              rw [← hwn_40] at hP
              have E := bns_e E hwn_40
              have ft40_taped : (wn_40 16 0).toInt = (wn_36 16 0).toInt := by rw [hwn_40]; rfl
              have ft40_at : (wn_40 17 0).toInt = (wn_36 17 0).toInt := by rw [hwn_40]; rfl
              have ft40_statements : (wn_40 18 0).toInt = ((wn_36 18 0) + 1).toInt := by rw [hwn_40]; rfl
              have := q_1
              have := i_add (a := wn_36 18 0) (b := 1) (by omega) (by omega)
              have ft40_layers : (wn_40 11 0).toInt = (wn_36 11 0).toInt := by rw [hwn_40]; rfl
              have := q_1
              have := i_add (a := wn_36 18 0) (b := 1) (by omega) (by omega)
              have hI_40 : R7I wn_40 := by rw [hwn_40]; exact R7I_put_statements hI_36 (by omega) (by omega)
              refine lv_goto (tgt := 12) hx hb dX7_load_57 (by decide) ?_
              exact ih_12 rn_36 wn_40 H locs ls ⟨by omega, by omega, by omega, by omega, by omega, by omega, by omega⟩ (by omega) hI_40 hP hS (lv_sub hl [0, 1] rfl) E
  have := q_1
  exact L_12 196 1 wn_2 H locs ls ⟨by omega, by omega, by omega, by omega, by omega, by omega, by omega⟩ (by omega) hI_2 hP hS (lv_sub hl [0, 1] rfl) E
abbrev rmX7_image : Room := { frames := 2, cells := 0, slots := 0, locals := 44 }
set_option maxHeartbeats 4000000 in
set_option maxRecDepth 100000 in
theorem kX7_image (l : Launch) (D : va_G) (cI : ClassId) (ad : Nat → Nat) (w : Nat → Nat → Int32) (hd : RD ad) (hI : R7I w)  : Met l yX7_image wsX7_image rmX7_image (va_Pc [Value.ref (ad 0)] (fun U => va_P D vwCl (RM cI ad w) U.heap ∧ va_K D vwCl [(cI, .int)] U)) (va_Qi (fun r u => (r, u) = sX7_image w) (fun u t => va_P D vwCl (RM cI ad u) t.heap) (RA ad)) 0 0 (RA ad) := by
  refine Met.ofW (cc := cX7_image) (maxL := 1) (ret := (some .int)) (by decide) rfl ?_
  intro p e s m args below meth c s₁ B hml hv
  obtain ⟨rfl, hP, hK⟩ := hv
  have hx := B.exec
  have hb := B.bytes
  have hr := B.returns
  have hts := atoms_spec (ws := wsX7_image) B.pre
  have hown : s.vm.findClass RX7 = some m.cls := findClass_of_methodNamed B.named
  have hlocks := B.notSynchronized
  have hin : ∀ q ∈ wsX70, q ∈ wsX7_image := by decide +kernel
  have hl := lv_entry ([.ref (ad 0)]) (n := 1) (Nat.le_of_ble_eq_true rfl)
  rw [lg_entry_eq]
  generalize (lg_sl ([.ref (ad 0)]) ++ List.replicate (1 - (lg_sl ([.ref (ad 0)])).length) Slot.unset).toArray = ls at hl ⊢
  have hl : lv_has ls 1 [(0, .ref (ad 0))] := hl
  suffices hgo : ∀ (H : Heap) (locs : List Loc), va_P D vwCl (RM cI ad w) H → va_S (RA ad) s.heap H locs → W p l e (headSpec wsX7_image rmX7_image).room s m [Value.ref (ad 0)].toArray below meth c H locs 0 0 (MQ below (va_Qi (fun r u => (r, u) = sX7_image w) (fun u t => va_P D vwCl (RM cI ad u) t.heap) (RA ad)) [Value.ref (ad 0)].toArray s 0 0 (RA ad)) (F0 m 0 ls []) from hgo s.heap [] hP va_S.rf
  intro H locs hP hS
  have E := sX7_image.eq_1 w
  refine lv_aload_n hx hb dX7_image_0 rfl (lv_at hl 0 rfl) ?_
  refine lv_iconst (v := 1) hx hb dX7_image_1 (by decide) ?_
  refine p7_hasImage hx hb hts hin hown hK hP hd hS (Or.inr rfl) (hts (.fieldLink RX7 150 "LoadedForTheLaneModel" "hasImage" "Z") (by decide +kernel)) dX7_image_2 (fun H locs hP hS => ?_)
  obtain ⟨wn_1, hwn_1⟩ : ∃ x, x = st w 20 0 1 := ⟨_, rfl⟩
  rw [← hwn_1] at hP
  have E := bns_e E hwn_1
  have hI_1 : R7I wn_1 := by rw [hwn_1]; exact R7I_put_hasImage hI
  refine lv_aload_n hx hb dX7_image_5 rfl (lv_at hl 0 rfl) ?_
  refine lv_iconst (v := 0) hx hb dX7_image_6 (by decide) ?_
  refine lv_iconst (v := 1) hx hb dX7_image_7 (by decide) ?_
  have := q_0
  have := q_1
  refine va_callv (va_runV (As := [.int 0, .int 1]) (rest := []) ⟨hx, hb, hml, hown, hts⟩ (kX7_passesAll l D cI ad wn_1 0 1 hd (by omega) (by omega) (Or.inr rfl)) (cwV 2 hts gX7_image_X7_passesAll rfl rfl rfl mdX7_passesAll ⟨Nat.le_of_ble_eq_true rfl, Nat.le_of_ble_eq_true rfl⟩) (r7_pre hK hP) rfl rfl hl.1 rfl (lv_room (Nat.le_of_ble_eq_true rfl)) dX7_image_8 ⟨Nat.zero_le _, Nat.zero_le _⟩) hS (fun _ _ h => h) (fun _ h => h) (fun wn_2 t H locs ht hvm hp_2 hB hz hk hS => ?_)
  have hP : va_P D vwCl (RM cI ad wn_2) H := ht ▸ hB
  have E := bns_e E hp_2
  refine lv_aload_n hx hb dX7_image_11 rfl (lv_at hl 0 rfl) ?_
  refine g7_layers hx hb hts hin hown hK hP (hts (.fieldLink RX7 67 "LoadedForTheLaneModel" "layers" "I") (by decide +kernel)) dX7_image_12 ?_
  have f_3 := R7I_layers hI_1
  exact W.iret (v := wn_2 11 0) hx hb hr (fun t ht hW => ⟨⟨_, wn_2, rfl, E.symm, by beta_reduce; rw [ht]; exact hP⟩, hS.F ht⟩) hS.2.2 dX7_image_15
abbrev rmX7_on : Room := { frames := 2, cells := 0, slots := 0, locals := 44 }
set_option maxHeartbeats 4000000 in
set_option maxRecDepth 100000 in
theorem kX7_on (l : Launch) (D : va_G) (cI : ClassId) (ad : Nat → Nat) (w : Nat → Nat → Int32) (hd : RD ad) (hI : R7I w)  : Met l yX7_on wsX7_on rmX7_on (va_Pc [Value.ref (ad 0)] (fun U => va_P D vwCl (RM cI ad w) U.heap ∧ va_K D vwCl [(cI, .int)] U)) (va_Qi (fun r u => (r, u) = sX7_on w) (fun u t => va_P D vwCl (RM cI ad u) t.heap) (RA ad)) 0 0 (RA ad) := by
  refine Met.ofW (cc := cX7_on) (maxL := 1) (ret := (some .int)) (by decide) rfl ?_
  intro p e s m args below meth c s₁ B hml hv
  obtain ⟨rfl, hP, hK⟩ := hv
  have hx := B.exec
  have hb := B.bytes
  have hr := B.returns
  have hts := atoms_spec (ws := wsX7_on) B.pre
  have hown : s.vm.findClass RX7 = some m.cls := findClass_of_methodNamed B.named
  have hlocks := B.notSynchronized
  have hin : ∀ q ∈ wsX70, q ∈ wsX7_on := by decide +kernel
  have hl := lv_entry ([.ref (ad 0)]) (n := 1) (Nat.le_of_ble_eq_true rfl)
  rw [lg_entry_eq]
  generalize (lg_sl ([.ref (ad 0)]) ++ List.replicate (1 - (lg_sl ([.ref (ad 0)])).length) Slot.unset).toArray = ls at hl ⊢
  have hl : lv_has ls 1 [(0, .ref (ad 0))] := hl
  suffices hgo : ∀ (H : Heap) (locs : List Loc), va_P D vwCl (RM cI ad w) H → va_S (RA ad) s.heap H locs → W p l e (headSpec wsX7_on rmX7_on).room s m [Value.ref (ad 0)].toArray below meth c H locs 0 0 (MQ below (va_Qi (fun r u => (r, u) = sX7_on w) (fun u t => va_P D vwCl (RM cI ad u) t.heap) (RA ad)) [Value.ref (ad 0)].toArray s 0 0 (RA ad)) (F0 m 0 ls []) from hgo s.heap [] hP va_S.rf
  intro H locs hP hS
  have E := sX7_on.eq_1 w
  refine lv_aload_n hx hb dX7_on_0 rfl (lv_at hl 0 rfl) ?_
  refine g7_hasImage hx hb hts hin hown hK hP (hts (.fieldLink RX7 150 "LoadedForTheLaneModel" "hasImage" "Z") (by decide +kernel)) dX7_on_1 ?_
  refine lv_if_ne (tgt := 14) hx hb dX7_on_4 (by decide) (fun c_1 => ?_) (fun c_1 => ?_)
  · have E := E.trans (if_neg c_1)
    have fc_1 := i_ne c_1
    rw [q_0] at fc_1
    refine lv_aload_n hx hb dX7_on_14 rfl (lv_at hl 0 rfl) ?_
    refine lv_iconst (v := 0) hx hb dX7_on_15 (by decide) ?_
    refine lv_iconst (v := 0) hx hb dX7_on_16 (by decide) ?_
    have := q_0
    refine va_callv (va_runV (As := [.int 0, .int 0]) (rest := []) ⟨hx, hb, hml, hown, hts⟩ (kX7_passesAll l D cI ad w 0 0 hd (by omega) (by omega) (Or.inl rfl)) (cwV 2 hts gX7_on_X7_passesAll rfl rfl rfl mdX7_passesAll ⟨Nat.le_of_ble_eq_true rfl, Nat.le_of_ble_eq_true rfl⟩) (r7_pre hK hP) rfl rfl hl.1 rfl (lv_room (Nat.le_of_ble_eq_true rfl)) dX7_on_17 ⟨Nat.zero_le _, Nat.zero_le _⟩) hS (fun _ _ h => h) (fun _ h => h) (fun wn_2 t H locs ht hvm hp_2 hB hz hk hS => ?_)
    have hP : va_P D vwCl (RM cI ad wn_2) H := ht ▸ hB
    have E := bns_e E hp_2
    refine lv_aload_n hx hb dX7_on_20 rfl (lv_at hl 0 rfl) ?_
    refine g7_layers hx hb hts hin hown hK hP (hts (.fieldLink RX7 67 "LoadedForTheLaneModel" "layers" "I") (by decide +kernel)) dX7_on_21 ?_
    have f_3 := R7I_layers hI
    exact W.iret (v := wn_2 11 0) hx hb hr (fun t ht hW => ⟨⟨_, wn_2, rfl, E.symm, by beta_reduce; rw [ht]; exact hP⟩, hS.F ht⟩) hS.2.2 dX7_on_24
  · have E := E.trans (if_pos c_1)
    have fc_1 := i_eq c_1
    rw [q_0] at fc_1
    refine lv_aload_n hx hb dX7_on_7 rfl (lv_at hl 0 rfl) ?_
    refine lv_bipush (v := (-3)) hx hb dX7_on_8 (by decide +kernel) ?_
    have := q_m3
    refine va_calli (va_runV (As := [.int (-3)]) (rest := []) ⟨hx, hb, hml, hown, hts⟩ (kX7_no l D cI ad w (-3) hd hI (by omega) (by omega)) (cwV 1 hts gX7_on_X7_no rfl rfl rfl mdX7_no ⟨Nat.le_of_ble_eq_true rfl, Nat.le_of_ble_eq_true rfl⟩) (r7_pre hK hP) rfl rfl hl.1 rfl (lv_room (Nat.le_of_ble_eq_true rfl)) dX7_on_10 ⟨Nat.zero_le _, Nat.zero_le _⟩) hS (fun _ _ h => h) (fun _ h => h) (fun rn_4 wn_4 t H locs ht hvm hp_4 hB hz hk hS => ?_)
    have hP : va_P D vwCl (RM cI ad wn_4) H := ht ▸ hB
    obtain ⟨hp_4, hI_4⟩ := hp_4
    have E := bnd_e E hp_4
    exact W.iret (v := rn_4) hx hb hr (fun t ht hW => ⟨⟨_, wn_4, rfl, E.symm, by beta_reduce; rw [ht]; exact hP⟩, hS.F ht⟩) hS.2.2 dX7_on_13
abbrev rmX7_off : Room := { frames := 1, cells := 0, slots := 0, locals := 21 }
set_option maxHeartbeats 4000000 in
set_option maxRecDepth 100000 in
theorem kX7_off (l : Launch) (D : va_G) (cI : ClassId) (ad : Nat → Nat) (w : Nat → Nat → Int32) (hd : RD ad) (hI : R7I w)  : Met l yX7_off wsX7_off rmX7_off (va_Pc [Value.ref (ad 0)] (fun U => va_P D vwCl (RM cI ad w) U.heap ∧ va_K D vwCl [(cI, .int)] U)) (va_Qi (fun r u => (r, u) = sX7_off w ∧ R7I u) (fun u t => va_P D vwCl (RM cI ad u) t.heap) (RA ad)) 0 0 (RA ad) := by
  refine Met.ofW (cc := cX7_off) (maxL := 1) (ret := (some .int)) (by decide) rfl ?_
  intro p e s m args below meth c s₁ B hml hv
  obtain ⟨rfl, hP, hK⟩ := hv
  have hx := B.exec
  have hb := B.bytes
  have hr := B.returns
  have hts := atoms_spec (ws := wsX7_off) B.pre
  have hown : s.vm.findClass RX7 = some m.cls := findClass_of_methodNamed B.named
  have hlocks := B.notSynchronized
  have hin : ∀ q ∈ wsX70, q ∈ wsX7_off := by decide +kernel
  have hl := lv_entry ([.ref (ad 0)]) (n := 1) (Nat.le_of_ble_eq_true rfl)
  rw [lg_entry_eq]
  generalize (lg_sl ([.ref (ad 0)]) ++ List.replicate (1 - (lg_sl ([.ref (ad 0)])).length) Slot.unset).toArray = ls at hl ⊢
  have hl : lv_has ls 1 [(0, .ref (ad 0))] := hl
  suffices hgo : ∀ (H : Heap) (locs : List Loc), va_P D vwCl (RM cI ad w) H → va_S (RA ad) s.heap H locs → W p l e (headSpec wsX7_off rmX7_off).room s m [Value.ref (ad 0)].toArray below meth c H locs 0 0 (MQ below (va_Qi (fun r u => (r, u) = sX7_off w ∧ R7I u) (fun u t => va_P D vwCl (RM cI ad u) t.heap) (RA ad)) [Value.ref (ad 0)].toArray s 0 0 (RA ad)) (F0 m 0 ls []) from hgo s.heap [] hP va_S.rf
  intro H locs hP hS
  have E := sX7_off.eq_1 w
  refine lv_aload_n hx hb dX7_off_0 rfl (lv_at hl 0 rfl) ?_
  refine g7_layers hx hb hts hin hown hK hP (hts (.fieldLink RX7 67 "LoadedForTheLaneModel" "layers" "I") (by decide +kernel)) dX7_off_1 ?_
  have f_1 := R7I_layers hI
  refine lv_if_ne (tgt := 14) hx hb dX7_off_4 (by decide) (fun c_2 => ?_) (fun c_2 => ?_)
  · have E := E.trans (if_neg c_2)
    have fc_2 := i_ne c_2
    rw [q_0] at fc_2
    refine lv_aload_n hx hb dX7_off_14 rfl (lv_at hl 0 rfl) ?_
    refine lv_dup hx hb dX7_off_15 rfl ?_
    refine g7_layers hx hb hts hin hown hK hP (hts (.fieldLink RX7 67 "LoadedForTheLaneModel" "layers" "I") (by decide +kernel)) dX7_off_16 ?_
    have f_3 := R7I_layers hI
    refine lv_iconst (v := 1) hx hb dX7_off_19 (by decide) ?_
    refine lv_isub hx hb dX7_off_20 ?_
    refine p7_layers hx hb hts hin hown hK hP hd hS (hts (.fieldLink RX7 67 "LoadedForTheLaneModel" "layers" "I") (by decide +kernel)) dX7_off_21 (fun H locs hP hS => ?_)
    obtain ⟨wn_4, hwn_4⟩ : ∃ x, x = st w 11 0 ((w 11 0) - 1) := ⟨_, rfl⟩
    rw [← hwn_4] at hP
    have E := bns_e E hwn_4
    have ft4_layers : (wn_4 11 0).toInt = ((w 11 0) - 1).toInt := by rw [hwn_4]; rfl
    have := q_1
    have := i_sub (a := w 11 0) (b := 1) (by omega) (by omega)
    have := q_1
    have := i_sub (a := w 11 0) (b := 1) (by omega) (by omega)
    have hI_4 : R7I wn_4 := by rw [hwn_4]; exact R7I_put_layers hI (by omega) (by omega)
    refine lv_aload_n hx hb dX7_off_24 rfl (lv_at hl 0 rfl) ?_
    refine g7_layers hx hb hts hin hown hK hP (hts (.fieldLink RX7 67 "LoadedForTheLaneModel" "layers" "I") (by decide +kernel)) dX7_off_25 ?_
    have f_5 := R7I_layers hI_4
    exact W.iret (v := wn_4 11 0) hx hb hr (fun t ht hW => ⟨⟨_, wn_4, rfl, ⟨E.symm, hI_4⟩, by beta_reduce; rw [ht]; exact hP⟩, hS.F ht⟩) hS.2.2 dX7_off_28
  · have E := E.trans (if_pos c_2)
    have fc_2 := i_eq c_2
    rw [q_0] at fc_2
    refine lv_aload_n hx hb dX7_off_7 rfl (lv_at hl 0 rfl) ?_
    refine lv_bipush (v := (-3)) hx hb dX7_off_8 (by decide +kernel) ?_
    have := q_m3
    refine va_calli (va_runV (As := [.int (-3)]) (rest := []) ⟨hx, hb, hml, hown, hts⟩ (kX7_no l D cI ad w (-3) hd hI (by omega) (by omega)) (cwV 1 hts gX7_off_X7_no rfl rfl rfl mdX7_no ⟨Nat.le_of_ble_eq_true rfl, Nat.le_of_ble_eq_true rfl⟩) (r7_pre hK hP) rfl rfl hl.1 rfl (lv_room (Nat.le_of_ble_eq_true rfl)) dX7_off_10 ⟨Nat.zero_le _, Nat.zero_le _⟩) hS (fun _ _ h => h) (fun _ h => h) (fun rn_6 wn_6 t H locs ht hvm hp_6 hB hz hk hS => ?_)
    have hP : va_P D vwCl (RM cI ad wn_6) H := ht ▸ hB
    obtain ⟨hp_6, hI_6⟩ := hp_6
    have E := bnd_e E hp_6
    exact W.iret (v := rn_6) hx hb hr (fun t ht hW => ⟨⟨_, wn_6, rfl, ⟨E.symm, hI_6⟩, by beta_reduce; rw [ht]; exact hP⟩, hS.F ht⟩) hS.2.2 dX7_off_13
abbrev rmX7_out : Room := { frames := 1, cells := 0, slots := 0, locals := 22 }
set_option maxHeartbeats 4000000 in
set_option maxRecDepth 100000 in
theorem kX7_out (l : Launch) (D : va_G) (cI : ClassId) (ad : Nat → Nat) (w : Nat → Nat → Int32) (a1 : Int32) (a2 : Int32) (hd : RD ad) (hI : R7I w)  : Met l yX7_out wsX7_out rmX7_out (va_Pc [Value.ref (ad 0), Value.int a1, Value.int a2] (fun U => va_P D vwCl (RM cI ad w) U.heap ∧ va_K D vwCl [(cI, .int)] U)) (va_Qi (fun r u => (r, u) = sX7_out w a1 a2 ∧ R7I u) (fun u t => va_P D vwCl (RM cI ad u) t.heap) (RA ad)) 0 0 (RA ad) := by
  refine Met.ofW (cc := cX7_out) (maxL := 5) (ret := (some .int)) (by decide) rfl ?_
  intro p e s m args below meth c s₁ B hml hv
  obtain ⟨rfl, hP, hK⟩ := hv
  have hx := B.exec
  have hb := B.bytes
  have hr := B.returns
  have hts := atoms_spec (ws := wsX7_out) B.pre
  have hown : s.vm.findClass RX7 = some m.cls := findClass_of_methodNamed B.named
  have hlocks := B.notSynchronized
  have hin : ∀ q ∈ wsX70, q ∈ wsX7_out := by decide +kernel
  have hl := lv_entry ([.ref (ad 0), .int a1, .int a2]) (n := 5) (Nat.le_of_ble_eq_true rfl)
  rw [lg_entry_eq]
  generalize (lg_sl ([.ref (ad 0), .int a1, .int a2]) ++ List.replicate (5 - (lg_sl ([.ref (ad 0), .int a1, .int a2])).length) Slot.unset).toArray = ls at hl ⊢
  have hl : lv_has ls 5 [(0, .ref (ad 0)), (1, .int a1), (2, .int a2)] := hl
  suffices hgo : ∀ (H : Heap) (locs : List Loc), va_P D vwCl (RM cI ad w) H → va_S (RA ad) s.heap H locs → W p l e (headSpec wsX7_out rmX7_out).room s m [Value.ref (ad 0), Value.int a1, Value.int a2].toArray below meth c H locs 0 0 (MQ below (va_Qi (fun r u => (r, u) = sX7_out w a1 a2 ∧ R7I u) (fun u t => va_P D vwCl (RM cI ad u) t.heap) (RA ad)) [Value.ref (ad 0), Value.int a1, Value.int a2].toArray s 0 0 (RA ad)) (F0 m 0 ls []) from hgo s.heap [] hP va_S.rf
  intro H locs hP hS
  have E := sX7_out.eq_1 w a1 a2
  refine lv_aload_n hx hb dX7_out_0 rfl (lv_at hl 0 rfl) ?_
  refine lv_iload_n hx hb dX7_out_1 rfl (lv_at hl 1 rfl) ?_
  refine vp_callSi (va_Run.run (va_runV (As := [.int a1]) (rest := []) ⟨hx, hb, hml, hown, hts⟩ (kX7_isLayer l D cI ad w a1) (cwV 1 hts gX7_out_X7_isLayer rfl rfl rfl mdX7_isLayer ⟨Nat.le_of_ble_eq_true rfl, Nat.le_of_ble_eq_true rfl⟩) (r7_pre hK hP) rfl rfl hl.1 rfl (lv_room (Nat.le_of_ble_eq_true rfl)) dX7_out_2 ⟨Nat.zero_le _, Nat.zero_le _⟩)) (fun r_1 hr_1 => ?_)
  obtain ⟨rfl, hz_1⟩ := hr_1
  refine lv_if_ne (tgt := 12) hx hb dX7_out_5 (by decide) (fun c_2 => ?_) (fun c_2 => ?_)
  · have E := E.trans (if_neg c_2)
    have fc_2 := i_ne c_2
    rw [q_0] at fc_2
    have gc_2 := fX7_isLayer c_2
    have glc_2 := R7I_layers hI
    refine lv_iload_n hx hb dX7_out_12 rfl (lv_at hl 2 rfl) ?_
    refine lv_iconst (v := 0) hx hb dX7_out_13 (by decide) ?_
    refine lv_bipush (v := 9) hx hb dX7_out_14 (by decide +kernel) ?_
    refine vp_callSi (va_Run.run (va_runS (As := [.int a2, .int 0, .int 9]) (rest := []) ⟨hx, hb, hml, hown, hts⟩ (kX7_bound l a2 0 9) (va_cwS 3 hts gX7_out_X7_bound rfl rfl rfl mdX7_bound ⟨Nat.le_of_ble_eq_true rfl, Nat.le_of_ble_eq_true rfl⟩) s_pre rfl rfl hl.1 rfl (lv_room (Nat.le_of_ble_eq_true rfl)) dX7_out_16 ⟨Nat.zero_le _, Nat.zero_le _⟩)) (fun r_3 hr_3 => ?_)
    subst hr_3
    have rf_3 := rX7_bound a2 0 9
    have := q_0
    have := q_9
    refine lv_istore_n (lv' := [(3, .int (sX7_bound a2 0 9)), (0, .ref (ad 0)), (1, .int a1), (2, .int a2)]) hx hb dX7_out_19 rfl hl (by decide) rfl (fun ls hl => ?_)
    refine lv_iload_n hx hb dX7_out_20 rfl (lv_at hl 0 rfl) ?_
    refine lv_if_eq (tgt := 30) hx hb dX7_out_21 (by decide) (fun c_4 => ?_) (fun c_4 => ?_)
    · have E := E.trans (if_pos c_4)
      have fc_4 := i_eq c_4
      rw [q_0] at fc_4
      refine lv_aload_n hx hb dX7_out_30 rfl (lv_at hl 1 rfl) ?_
      refine g7_out hx hb hts hin hown hK hP (hts (.fieldLink RX7 22 "LoadedForTheLaneModel" "out" "[I") (by decide +kernel)) dX7_out_31 ?_
      refine lv_iload_n hx hb dX7_out_34 rfl (lv_at hl 2 rfl) ?_
      have ix_5 : vp_in a1 12 := ix_of (by omega) (by omega)
      refine l7_out (j := a1.toNatClampNeg) hx hb hK hP ix_5 rfl dX7_out_35 ?_
      refine lv_istore (lv' := [(4, .int (w 4 (a1.toNatClampNeg))), (3, .int (sX7_bound a2 0 9)), (0, .ref (ad 0)), (1, .int a1), (2, .int a2)]) hx hb dX7_out_36 hl (by decide) rfl (fun ls hl => ?_)
      refine lv_aload_n hx hb dX7_out_38 rfl (lv_at hl 2 rfl) ?_
      refine g7_out hx hb hts hin hown hK hP (hts (.fieldLink RX7 22 "LoadedForTheLaneModel" "out" "[I") (by decide +kernel)) dX7_out_39 ?_
      refine lv_iload_n hx hb dX7_out_42 rfl (lv_at hl 3 rfl) ?_
      refine lv_iload_n hx hb dX7_out_43 rfl (lv_at hl 4 rfl) ?_
      have ix_6 : vp_in a1 12 := ix_of (by omega) (by omega)
      refine a7_out (j := a1.toNatClampNeg) hx hb hK hP hd hS ix_6 rfl dX7_out_44 (fun H locs hP hS => ?_)
      obtain ⟨wn_6, hwn_6⟩ : ∃ x, x = st w 4 (a1.toNatClampNeg) a2 := ⟨_, rfl⟩
      rw [← hwn_6] at hP
      have E := bns_e E hwn_6
      have hI_6 : R7I wn_6 := by rw [hwn_6]; exact R7I_put_out hI
      refine lv_iload hx hb dX7_out_45 (lv_at hl 0 rfl) ?_
      exact W.iret (v := w 4 (a1.toNatClampNeg)) hx hb hr (fun t ht hW => ⟨⟨_, wn_6, rfl, ⟨E.symm, hI_6⟩, by beta_reduce; rw [ht]; exact hP⟩, hS.F ht⟩) hS.2.2 dX7_out_47
    · have E := E.trans (if_neg c_4)
      have fc_4 := i_ne c_4
      rw [q_0] at fc_4
      refine lv_aload_n hx hb dX7_out_24 rfl (lv_at hl 1 rfl) ?_
      refine lv_iload_n hx hb dX7_out_25 rfl (lv_at hl 0 rfl) ?_
      refine va_calli (va_runV (As := [.int (sX7_bound a2 0 9)]) (rest := []) ⟨hx, hb, hml, hown, hts⟩ (kX7_no l D cI ad w (sX7_bound a2 0 9) hd hI (by omega) (by omega)) (cwV 1 hts gX7_out_X7_no rfl rfl rfl mdX7_no ⟨Nat.le_of_ble_eq_true rfl, Nat.le_of_ble_eq_true rfl⟩) (r7_pre hK hP) rfl rfl hl.1 rfl (lv_room (Nat.le_of_ble_eq_true rfl)) dX7_out_26 ⟨Nat.zero_le _, Nat.zero_le _⟩) hS (fun _ _ h => h) (fun _ h => h) (fun rn_7 wn_7 t H locs ht hvm hp_7 hB hz hk hS => ?_)
      have hP : va_P D vwCl (RM cI ad wn_7) H := ht ▸ hB
      obtain ⟨hp_7, hI_7⟩ := hp_7
      have E := bnd_e E hp_7
      exact W.iret (v := rn_7) hx hb hr (fun t ht hW => ⟨⟨_, wn_7, rfl, ⟨E.symm, hI_7⟩, by beta_reduce; rw [ht]; exact hP⟩, hS.F ht⟩) hS.2.2 dX7_out_29
  · have E := E.trans (if_pos c_2)
    have fc_2 := i_eq c_2
    rw [q_0] at fc_2
    refine lv_iconst (v := (-1)) hx hb dX7_out_8 (by decide) ?_
    refine lv_goto (tgt := 19) hx hb dX7_out_9 (by decide) ?_
    refine lv_istore_n (lv' := [(3, .int (-1)), (0, .ref (ad 0)), (1, .int a1), (2, .int a2)]) hx hb dX7_out_19 rfl hl (by decide) rfl (fun ls hl => ?_)
    refine lv_iload_n hx hb dX7_out_20 rfl (lv_at hl 0 rfl) ?_
    refine lv_if_eq (tgt := 30) hx hb dX7_out_21 (by decide) (fun z => absurd z (by decide)) (fun _ => ?_)
    refine lv_aload_n hx hb dX7_out_24 rfl (lv_at hl 1 rfl) ?_
    refine lv_iload_n hx hb dX7_out_25 rfl (lv_at hl 0 rfl) ?_
    have := q_m1
    refine va_calli (va_runV (As := [.int (-1)]) (rest := []) ⟨hx, hb, hml, hown, hts⟩ (kX7_no l D cI ad w (-1) hd hI (by omega) (by omega)) (cwV 1 hts gX7_out_X7_no rfl rfl rfl mdX7_no ⟨Nat.le_of_ble_eq_true rfl, Nat.le_of_ble_eq_true rfl⟩) (r7_pre hK hP) rfl rfl hl.1 rfl (lv_room (Nat.le_of_ble_eq_true rfl)) dX7_out_26 ⟨Nat.zero_le _, Nat.zero_le _⟩) hS (fun _ _ h => h) (fun _ h => h) (fun rn_8 wn_8 t H locs ht hvm hp_8 hB hz hk hS => ?_)
    have hP : va_P D vwCl (RM cI ad wn_8) H := ht ▸ hB
    obtain ⟨hp_8, hI_8⟩ := hp_8
    have E := bnd_e E hp_8
    exact W.iret (v := rn_8) hx hb hr (fun t ht hW => ⟨⟨_, wn_8, rfl, ⟨E.symm, hI_8⟩, by beta_reduce; rw [ht]; exact hP⟩, hS.F ht⟩) hS.2.2 dX7_out_29
abbrev rmX7_set : Room := { frames := 1, cells := 0, slots := 0, locals := 22 }
set_option maxHeartbeats 4000000 in
set_option maxRecDepth 100000 in
theorem kX7_set (l : Launch) (D : va_G) (cI : ClassId) (ad : Nat → Nat) (w : Nat → Nat → Int32) (a1 : Int32) (a2 : Int32) (hd : RD ad) (hI : R7I w)  : Met l yX7_set wsX7_set rmX7_set (va_Pc [Value.ref (ad 0), Value.int a1, Value.int a2] (fun U => va_P D vwCl (RM cI ad w) U.heap ∧ va_K D vwCl [(cI, .int)] U)) (va_Qi (fun r u => (r, u) = sX7_set w a1 a2 ∧ R7I u) (fun u t => va_P D vwCl (RM cI ad u) t.heap) (RA ad)) 0 0 (RA ad) := by
  refine Met.ofW (cc := cX7_set) (maxL := 5) (ret := (some .int)) (by decide) rfl ?_
  intro p e s m args below meth c s₁ B hml hv
  obtain ⟨rfl, hP, hK⟩ := hv
  have hx := B.exec
  have hb := B.bytes
  have hr := B.returns
  have hts := atoms_spec (ws := wsX7_set) B.pre
  have hown : s.vm.findClass RX7 = some m.cls := findClass_of_methodNamed B.named
  have hlocks := B.notSynchronized
  have hin : ∀ q ∈ wsX70, q ∈ wsX7_set := by decide +kernel
  have hl := lv_entry ([.ref (ad 0), .int a1, .int a2]) (n := 5) (Nat.le_of_ble_eq_true rfl)
  rw [lg_entry_eq]
  generalize (lg_sl ([.ref (ad 0), .int a1, .int a2]) ++ List.replicate (5 - (lg_sl ([.ref (ad 0), .int a1, .int a2])).length) Slot.unset).toArray = ls at hl ⊢
  have hl : lv_has ls 5 [(0, .ref (ad 0)), (1, .int a1), (2, .int a2)] := hl
  suffices hgo : ∀ (H : Heap) (locs : List Loc), va_P D vwCl (RM cI ad w) H → va_S (RA ad) s.heap H locs → W p l e (headSpec wsX7_set rmX7_set).room s m [Value.ref (ad 0), Value.int a1, Value.int a2].toArray below meth c H locs 0 0 (MQ below (va_Qi (fun r u => (r, u) = sX7_set w a1 a2 ∧ R7I u) (fun u t => va_P D vwCl (RM cI ad u) t.heap) (RA ad)) [Value.ref (ad 0), Value.int a1, Value.int a2].toArray s 0 0 (RA ad)) (F0 m 0 ls []) from hgo s.heap [] hP va_S.rf
  intro H locs hP hS
  have E := sX7_set.eq_1 w a1 a2
  refine lv_iload_n hx hb dX7_set_0 rfl (lv_at hl 1 rfl) ?_
  refine lv_iconst (v := 0) hx hb dX7_set_1 (by decide) ?_
  refine lv_iconst (v := 3) hx hb dX7_set_2 (by decide) ?_
  refine vp_callSi (va_Run.run (va_runS (As := [.int a1, .int 0, .int 3]) (rest := []) ⟨hx, hb, hml, hown, hts⟩ (kX7_isIn l a1 0 3) (va_cwS 3 hts gX7_set_X7_isIn rfl rfl rfl mdX7_isIn ⟨Nat.le_of_ble_eq_true rfl, Nat.le_of_ble_eq_true rfl⟩) s_pre rfl rfl hl.1 rfl (lv_room (Nat.le_of_ble_eq_true rfl)) dX7_set_3 ⟨Nat.zero_le _, Nat.zero_le _⟩)) (fun r_1 hr_1 => ?_)
  obtain ⟨rfl, hz_1⟩ := hr_1
  refine lv_if_ne (tgt := 14) hx hb dX7_set_6 (by decide) (fun c_2 => ?_) (fun c_2 => ?_)
  · have E := E.trans (if_neg c_2)
    have fc_2 := i_ne c_2
    rw [q_0] at fc_2
    have gc_2 := fX7_isIn c_2
    have := q_0
    have := q_3
    refine lv_iload_n hx hb dX7_set_14 rfl (lv_at hl 2 rfl) ?_
    refine lv_iload_n hx hb dX7_set_15 rfl (lv_at hl 1 rfl) ?_
    refine lv_iconst (v := 1) hx hb dX7_set_16 (by decide) ?_
    refine lv_icmp_eq (tgt := 25) hx hb dX7_set_17 (by decide) (fun c_3 => ?_) (fun c_3 => ?_)
    · have E := E.trans (if_pos c_3)
      have fc_3 := i_eq c_3
      rw [q_1] at fc_3
      refine lv_iconst (v := 1) hx hb dX7_set_25 (by decide) ?_
      refine lv_goto (tgt := 30) hx hb dX7_set_26 (by decide) ?_
      refine lv_iload_n hx hb dX7_set_30 rfl (lv_at hl 1 rfl) ?_
      refine vp_callSi (va_Run.run (va_runS (As := [.int a1]) (rest := [.int 1, .int a2]) ⟨hx, hb, hml, hown, hts⟩ (kX7_mostOf l a1) (va_cwS 1 hts gX7_set_X7_mostOf rfl rfl rfl mdX7_mostOf ⟨Nat.le_of_ble_eq_true rfl, Nat.le_of_ble_eq_true rfl⟩) s_pre rfl rfl hl.1 rfl (lv_room (Nat.le_of_ble_eq_true rfl)) dX7_set_31 ⟨Nat.zero_le _, Nat.zero_le _⟩)) (fun r_4 hr_4 => ?_)
      subst hr_4
      refine vp_callSi (va_Run.run (va_runS (As := [.int a2, .int 1, .int (sX7_mostOf a1)]) (rest := []) ⟨hx, hb, hml, hown, hts⟩ (kX7_bound l a2 1 (sX7_mostOf a1)) (va_cwS 3 hts gX7_set_X7_bound rfl rfl rfl mdX7_bound ⟨Nat.le_of_ble_eq_true rfl, Nat.le_of_ble_eq_true rfl⟩) s_pre rfl rfl hl.1 rfl (lv_room (Nat.le_of_ble_eq_true rfl)) dX7_set_34 ⟨Nat.zero_le _, Nat.zero_le _⟩)) (fun r_5 hr_5 => ?_)
      subst hr_5
      have rf_5 := rX7_bound a2 1 (sX7_mostOf a1)
      have := q_1
      refine lv_istore_n (lv' := [(3, .int (sX7_bound a2 1 (sX7_mostOf a1))), (0, .ref (ad 0)), (1, .int a1), (2, .int a2)]) hx hb dX7_set_37 rfl hl (by decide) rfl (fun ls hl => ?_)
      refine lv_iload_n hx hb dX7_set_38 rfl (lv_at hl 0 rfl) ?_
      refine lv_if_eq (tgt := 48) hx hb dX7_set_39 (by decide) (fun c_6 => ?_) (fun c_6 => ?_)
      · have E := E.trans (if_pos c_6)
        have fc_6 := i_eq c_6
        rw [q_0] at fc_6
        refine lv_aload_n hx hb dX7_set_48 rfl (lv_at hl 1 rfl) ?_
        refine g7_setting hx hb hts hin hown hK hP (hts (.fieldLink RX7 13 "LoadedForTheLaneModel" "setting" "[I") (by decide +kernel)) dX7_set_49 ?_
        refine lv_iload_n hx hb dX7_set_52 rfl (lv_at hl 2 rfl) ?_
        have ix_7 : vp_in a1 4 := ix_of (by omega) (by omega)
        refine l7_setting (j := a1.toNatClampNeg) hx hb hK hP ix_7 rfl dX7_set_53 ?_
        refine lv_istore (lv' := [(4, .int (w 1 (a1.toNatClampNeg))), (3, .int (sX7_bound a2 1 (sX7_mostOf a1))), (0, .ref (ad 0)), (1, .int a1), (2, .int a2)]) hx hb dX7_set_54 hl (by decide) rfl (fun ls hl => ?_)
        refine lv_aload_n hx hb dX7_set_56 rfl (lv_at hl 2 rfl) ?_
        refine g7_setting hx hb hts hin hown hK hP (hts (.fieldLink RX7 13 "LoadedForTheLaneModel" "setting" "[I") (by decide +kernel)) dX7_set_57 ?_
        refine lv_iload_n hx hb dX7_set_60 rfl (lv_at hl 3 rfl) ?_
        refine lv_iload_n hx hb dX7_set_61 rfl (lv_at hl 4 rfl) ?_
        have ix_8 : vp_in a1 4 := ix_of (by omega) (by omega)
        refine a7_setting (j := a1.toNatClampNeg) hx hb hK hP hd hS ix_8 rfl dX7_set_62 (fun H locs hP hS => ?_)
        obtain ⟨wn_8, hwn_8⟩ : ∃ x, x = st w 1 (a1.toNatClampNeg) a2 := ⟨_, rfl⟩
        rw [← hwn_8] at hP
        have E := bns_e E hwn_8
        have hI_8 : R7I wn_8 := by rw [hwn_8]; exact R7I_put_setting hI
        refine lv_iload hx hb dX7_set_63 (lv_at hl 0 rfl) ?_
        exact W.iret (v := w 1 (a1.toNatClampNeg)) hx hb hr (fun t ht hW => ⟨⟨_, wn_8, rfl, ⟨E.symm, hI_8⟩, by beta_reduce; rw [ht]; exact hP⟩, hS.F ht⟩) hS.2.2 dX7_set_65
      · have E := E.trans (if_neg c_6)
        have fc_6 := i_ne c_6
        rw [q_0] at fc_6
        refine lv_aload_n hx hb dX7_set_42 rfl (lv_at hl 1 rfl) ?_
        refine lv_iload_n hx hb dX7_set_43 rfl (lv_at hl 0 rfl) ?_
        refine va_calli (va_runV (As := [.int (sX7_bound a2 1 (sX7_mostOf a1))]) (rest := []) ⟨hx, hb, hml, hown, hts⟩ (kX7_no l D cI ad w (sX7_bound a2 1 (sX7_mostOf a1)) hd hI (by omega) (by omega)) (cwV 1 hts gX7_set_X7_no rfl rfl rfl mdX7_no ⟨Nat.le_of_ble_eq_true rfl, Nat.le_of_ble_eq_true rfl⟩) (r7_pre hK hP) rfl rfl hl.1 rfl (lv_room (Nat.le_of_ble_eq_true rfl)) dX7_set_44 ⟨Nat.zero_le _, Nat.zero_le _⟩) hS (fun _ _ h => h) (fun _ h => h) (fun rn_9 wn_9 t H locs ht hvm hp_9 hB hz hk hS => ?_)
        have hP : va_P D vwCl (RM cI ad wn_9) H := ht ▸ hB
        obtain ⟨hp_9, hI_9⟩ := hp_9
        have E := bnd_e E hp_9
        exact W.iret (v := rn_9) hx hb hr (fun t ht hW => ⟨⟨_, wn_9, rfl, ⟨E.symm, hI_9⟩, by beta_reduce; rw [ht]; exact hP⟩, hS.F ht⟩) hS.2.2 dX7_set_47
    · have E := E.trans (if_neg c_3)
      have fc_3 := i_ne c_3
      rw [q_1] at fc_3
      refine lv_iload_n hx hb dX7_set_20 rfl (lv_at hl 1 rfl) ?_
      refine lv_iconst (v := 2) hx hb dX7_set_21 (by decide) ?_
      refine lv_icmp_ne (tgt := 29) hx hb dX7_set_22 (by decide) (fun c_10 => ?_) (fun c_10 => ?_)
      · have E := E.trans (if_neg c_10)
        have fc_10 := i_ne c_10
        rw [q_2] at fc_10
        refine lv_iconst (v := 0) hx hb dX7_set_29 (by decide) ?_
        refine lv_iload_n hx hb dX7_set_30 rfl (lv_at hl 1 rfl) ?_
        refine vp_callSi (va_Run.run (va_runS (As := [.int a1]) (rest := [.int 0, .int a2]) ⟨hx, hb, hml, hown, hts⟩ (kX7_mostOf l a1) (va_cwS 1 hts gX7_set_X7_mostOf rfl rfl rfl mdX7_mostOf ⟨Nat.le_of_ble_eq_true rfl, Nat.le_of_ble_eq_true rfl⟩) s_pre rfl rfl hl.1 rfl (lv_room (Nat.le_of_ble_eq_true rfl)) dX7_set_31 ⟨Nat.zero_le _, Nat.zero_le _⟩)) (fun r_11 hr_11 => ?_)
        subst hr_11
        refine vp_callSi (va_Run.run (va_runS (As := [.int a2, .int 0, .int (sX7_mostOf a1)]) (rest := []) ⟨hx, hb, hml, hown, hts⟩ (kX7_bound l a2 0 (sX7_mostOf a1)) (va_cwS 3 hts gX7_set_X7_bound rfl rfl rfl mdX7_bound ⟨Nat.le_of_ble_eq_true rfl, Nat.le_of_ble_eq_true rfl⟩) s_pre rfl rfl hl.1 rfl (lv_room (Nat.le_of_ble_eq_true rfl)) dX7_set_34 ⟨Nat.zero_le _, Nat.zero_le _⟩)) (fun r_12 hr_12 => ?_)
        subst hr_12
        have rf_12 := rX7_bound a2 0 (sX7_mostOf a1)
        have := q_0
        refine lv_istore_n (lv' := [(3, .int (sX7_bound a2 0 (sX7_mostOf a1))), (0, .ref (ad 0)), (1, .int a1), (2, .int a2)]) hx hb dX7_set_37 rfl hl (by decide) rfl (fun ls hl => ?_)
        refine lv_iload_n hx hb dX7_set_38 rfl (lv_at hl 0 rfl) ?_
        refine lv_if_eq (tgt := 48) hx hb dX7_set_39 (by decide) (fun c_13 => ?_) (fun c_13 => ?_)
        · have E := E.trans (if_pos c_13)
          have fc_13 := i_eq c_13
          rw [q_0] at fc_13
          refine lv_aload_n hx hb dX7_set_48 rfl (lv_at hl 1 rfl) ?_
          refine g7_setting hx hb hts hin hown hK hP (hts (.fieldLink RX7 13 "LoadedForTheLaneModel" "setting" "[I") (by decide +kernel)) dX7_set_49 ?_
          refine lv_iload_n hx hb dX7_set_52 rfl (lv_at hl 2 rfl) ?_
          have ix_14 : vp_in a1 4 := ix_of (by omega) (by omega)
          refine l7_setting (j := a1.toNatClampNeg) hx hb hK hP ix_14 rfl dX7_set_53 ?_
          refine lv_istore (lv' := [(4, .int (w 1 (a1.toNatClampNeg))), (3, .int (sX7_bound a2 0 (sX7_mostOf a1))), (0, .ref (ad 0)), (1, .int a1), (2, .int a2)]) hx hb dX7_set_54 hl (by decide) rfl (fun ls hl => ?_)
          refine lv_aload_n hx hb dX7_set_56 rfl (lv_at hl 2 rfl) ?_
          refine g7_setting hx hb hts hin hown hK hP (hts (.fieldLink RX7 13 "LoadedForTheLaneModel" "setting" "[I") (by decide +kernel)) dX7_set_57 ?_
          refine lv_iload_n hx hb dX7_set_60 rfl (lv_at hl 3 rfl) ?_
          refine lv_iload_n hx hb dX7_set_61 rfl (lv_at hl 4 rfl) ?_
          have ix_15 : vp_in a1 4 := ix_of (by omega) (by omega)
          refine a7_setting (j := a1.toNatClampNeg) hx hb hK hP hd hS ix_15 rfl dX7_set_62 (fun H locs hP hS => ?_)
          obtain ⟨wn_15, hwn_15⟩ : ∃ x, x = st w 1 (a1.toNatClampNeg) a2 := ⟨_, rfl⟩
          rw [← hwn_15] at hP
          have E := bns_e E hwn_15
          have hI_15 : R7I wn_15 := by rw [hwn_15]; exact R7I_put_setting hI
          refine lv_iload hx hb dX7_set_63 (lv_at hl 0 rfl) ?_
          exact W.iret (v := w 1 (a1.toNatClampNeg)) hx hb hr (fun t ht hW => ⟨⟨_, wn_15, rfl, ⟨E.symm, hI_15⟩, by beta_reduce; rw [ht]; exact hP⟩, hS.F ht⟩) hS.2.2 dX7_set_65
        · have E := E.trans (if_neg c_13)
          have fc_13 := i_ne c_13
          rw [q_0] at fc_13
          refine lv_aload_n hx hb dX7_set_42 rfl (lv_at hl 1 rfl) ?_
          refine lv_iload_n hx hb dX7_set_43 rfl (lv_at hl 0 rfl) ?_
          refine va_calli (va_runV (As := [.int (sX7_bound a2 0 (sX7_mostOf a1))]) (rest := []) ⟨hx, hb, hml, hown, hts⟩ (kX7_no l D cI ad w (sX7_bound a2 0 (sX7_mostOf a1)) hd hI (by omega) (by omega)) (cwV 1 hts gX7_set_X7_no rfl rfl rfl mdX7_no ⟨Nat.le_of_ble_eq_true rfl, Nat.le_of_ble_eq_true rfl⟩) (r7_pre hK hP) rfl rfl hl.1 rfl (lv_room (Nat.le_of_ble_eq_true rfl)) dX7_set_44 ⟨Nat.zero_le _, Nat.zero_le _⟩) hS (fun _ _ h => h) (fun _ h => h) (fun rn_16 wn_16 t H locs ht hvm hp_16 hB hz hk hS => ?_)
          have hP : va_P D vwCl (RM cI ad wn_16) H := ht ▸ hB
          obtain ⟨hp_16, hI_16⟩ := hp_16
          have E := bnd_e E hp_16
          exact W.iret (v := rn_16) hx hb hr (fun t ht hW => ⟨⟨_, wn_16, rfl, ⟨E.symm, hI_16⟩, by beta_reduce; rw [ht]; exact hP⟩, hS.F ht⟩) hS.2.2 dX7_set_47
      · have E := E.trans (if_pos c_10)
        have fc_10 := i_eq c_10
        rw [q_2] at fc_10
        refine lv_iconst (v := 1) hx hb dX7_set_25 (by decide) ?_
        refine lv_goto (tgt := 30) hx hb dX7_set_26 (by decide) ?_
        refine lv_iload_n hx hb dX7_set_30 rfl (lv_at hl 1 rfl) ?_
        refine vp_callSi (va_Run.run (va_runS (As := [.int a1]) (rest := [.int 1, .int a2]) ⟨hx, hb, hml, hown, hts⟩ (kX7_mostOf l a1) (va_cwS 1 hts gX7_set_X7_mostOf rfl rfl rfl mdX7_mostOf ⟨Nat.le_of_ble_eq_true rfl, Nat.le_of_ble_eq_true rfl⟩) s_pre rfl rfl hl.1 rfl (lv_room (Nat.le_of_ble_eq_true rfl)) dX7_set_31 ⟨Nat.zero_le _, Nat.zero_le _⟩)) (fun r_17 hr_17 => ?_)
        subst hr_17
        refine vp_callSi (va_Run.run (va_runS (As := [.int a2, .int 1, .int (sX7_mostOf a1)]) (rest := []) ⟨hx, hb, hml, hown, hts⟩ (kX7_bound l a2 1 (sX7_mostOf a1)) (va_cwS 3 hts gX7_set_X7_bound rfl rfl rfl mdX7_bound ⟨Nat.le_of_ble_eq_true rfl, Nat.le_of_ble_eq_true rfl⟩) s_pre rfl rfl hl.1 rfl (lv_room (Nat.le_of_ble_eq_true rfl)) dX7_set_34 ⟨Nat.zero_le _, Nat.zero_le _⟩)) (fun r_18 hr_18 => ?_)
        subst hr_18
        have rf_18 := rX7_bound a2 1 (sX7_mostOf a1)
        have := q_1
        refine lv_istore_n (lv' := [(3, .int (sX7_bound a2 1 (sX7_mostOf a1))), (0, .ref (ad 0)), (1, .int a1), (2, .int a2)]) hx hb dX7_set_37 rfl hl (by decide) rfl (fun ls hl => ?_)
        refine lv_iload_n hx hb dX7_set_38 rfl (lv_at hl 0 rfl) ?_
        refine lv_if_eq (tgt := 48) hx hb dX7_set_39 (by decide) (fun c_19 => ?_) (fun c_19 => ?_)
        · have E := E.trans (if_pos c_19)
          have fc_19 := i_eq c_19
          rw [q_0] at fc_19
          refine lv_aload_n hx hb dX7_set_48 rfl (lv_at hl 1 rfl) ?_
          refine g7_setting hx hb hts hin hown hK hP (hts (.fieldLink RX7 13 "LoadedForTheLaneModel" "setting" "[I") (by decide +kernel)) dX7_set_49 ?_
          refine lv_iload_n hx hb dX7_set_52 rfl (lv_at hl 2 rfl) ?_
          have ix_20 : vp_in a1 4 := ix_of (by omega) (by omega)
          refine l7_setting (j := a1.toNatClampNeg) hx hb hK hP ix_20 rfl dX7_set_53 ?_
          refine lv_istore (lv' := [(4, .int (w 1 (a1.toNatClampNeg))), (3, .int (sX7_bound a2 1 (sX7_mostOf a1))), (0, .ref (ad 0)), (1, .int a1), (2, .int a2)]) hx hb dX7_set_54 hl (by decide) rfl (fun ls hl => ?_)
          refine lv_aload_n hx hb dX7_set_56 rfl (lv_at hl 2 rfl) ?_
          refine g7_setting hx hb hts hin hown hK hP (hts (.fieldLink RX7 13 "LoadedForTheLaneModel" "setting" "[I") (by decide +kernel)) dX7_set_57 ?_
          refine lv_iload_n hx hb dX7_set_60 rfl (lv_at hl 3 rfl) ?_
          refine lv_iload_n hx hb dX7_set_61 rfl (lv_at hl 4 rfl) ?_
          have ix_21 : vp_in a1 4 := ix_of (by omega) (by omega)
          refine a7_setting (j := a1.toNatClampNeg) hx hb hK hP hd hS ix_21 rfl dX7_set_62 (fun H locs hP hS => ?_)
          obtain ⟨wn_21, hwn_21⟩ : ∃ x, x = st w 1 (a1.toNatClampNeg) a2 := ⟨_, rfl⟩
          rw [← hwn_21] at hP
          have E := bns_e E hwn_21
          have hI_21 : R7I wn_21 := by rw [hwn_21]; exact R7I_put_setting hI
          refine lv_iload hx hb dX7_set_63 (lv_at hl 0 rfl) ?_
          exact W.iret (v := w 1 (a1.toNatClampNeg)) hx hb hr (fun t ht hW => ⟨⟨_, wn_21, rfl, ⟨E.symm, hI_21⟩, by beta_reduce; rw [ht]; exact hP⟩, hS.F ht⟩) hS.2.2 dX7_set_65
        · have E := E.trans (if_neg c_19)
          have fc_19 := i_ne c_19
          rw [q_0] at fc_19
          refine lv_aload_n hx hb dX7_set_42 rfl (lv_at hl 1 rfl) ?_
          refine lv_iload_n hx hb dX7_set_43 rfl (lv_at hl 0 rfl) ?_
          refine va_calli (va_runV (As := [.int (sX7_bound a2 1 (sX7_mostOf a1))]) (rest := []) ⟨hx, hb, hml, hown, hts⟩ (kX7_no l D cI ad w (sX7_bound a2 1 (sX7_mostOf a1)) hd hI (by omega) (by omega)) (cwV 1 hts gX7_set_X7_no rfl rfl rfl mdX7_no ⟨Nat.le_of_ble_eq_true rfl, Nat.le_of_ble_eq_true rfl⟩) (r7_pre hK hP) rfl rfl hl.1 rfl (lv_room (Nat.le_of_ble_eq_true rfl)) dX7_set_44 ⟨Nat.zero_le _, Nat.zero_le _⟩) hS (fun _ _ h => h) (fun _ h => h) (fun rn_22 wn_22 t H locs ht hvm hp_22 hB hz hk hS => ?_)
          have hP : va_P D vwCl (RM cI ad wn_22) H := ht ▸ hB
          obtain ⟨hp_22, hI_22⟩ := hp_22
          have E := bnd_e E hp_22
          exact W.iret (v := rn_22) hx hb hr (fun t ht hW => ⟨⟨_, wn_22, rfl, ⟨E.symm, hI_22⟩, by beta_reduce; rw [ht]; exact hP⟩, hS.F ht⟩) hS.2.2 dX7_set_47
  · have E := E.trans (if_pos c_2)
    have fc_2 := i_eq c_2
    rw [q_0] at fc_2
    refine lv_bipush (v := (-2)) hx hb dX7_set_9 (by decide +kernel) ?_
    refine lv_goto (tgt := 37) hx hb dX7_set_11 (by decide) ?_
    refine lv_istore_n (lv' := [(3, .int (-2)), (0, .ref (ad 0)), (1, .int a1), (2, .int a2)]) hx hb dX7_set_37 rfl hl (by decide) rfl (fun ls hl => ?_)
    refine lv_iload_n hx hb dX7_set_38 rfl (lv_at hl 0 rfl) ?_
    refine lv_if_eq (tgt := 48) hx hb dX7_set_39 (by decide) (fun z => absurd z (by decide)) (fun _ => ?_)
    refine lv_aload_n hx hb dX7_set_42 rfl (lv_at hl 1 rfl) ?_
    refine lv_iload_n hx hb dX7_set_43 rfl (lv_at hl 0 rfl) ?_
    have := q_m2
    refine va_calli (va_runV (As := [.int (-2)]) (rest := []) ⟨hx, hb, hml, hown, hts⟩ (kX7_no l D cI ad w (-2) hd hI (by omega) (by omega)) (cwV 1 hts gX7_set_X7_no rfl rfl rfl mdX7_no ⟨Nat.le_of_ble_eq_true rfl, Nat.le_of_ble_eq_true rfl⟩) (r7_pre hK hP) rfl rfl hl.1 rfl (lv_room (Nat.le_of_ble_eq_true rfl)) dX7_set_44 ⟨Nat.zero_le _, Nat.zero_le _⟩) hS (fun _ _ h => h) (fun _ h => h) (fun rn_23 wn_23 t H locs ht hvm hp_23 hB hz hk hS => ?_)
    have hP : va_P D vwCl (RM cI ad wn_23) H := ht ▸ hB
    obtain ⟨hp_23, hI_23⟩ := hp_23
    have E := bnd_e E hp_23
    exact W.iret (v := rn_23) hx hb hr (fun t ht hW => ⟨⟨_, wn_23, rfl, ⟨E.symm, hI_23⟩, by beta_reduce; rw [ht]; exact hP⟩, hS.F ht⟩) hS.2.2 dX7_set_47
abbrev rmX7_layer : Room := { frames := 3, cells := 0, slots := 0, locals := 63 }
set_option maxHeartbeats 4000000 in
set_option maxRecDepth 100000 in
theorem kX7_layer (l : Launch) (D : va_G) (cI : ClassId) (ad : Nat → Nat) (w : Nat → Nat → Int32) (a1 : Int32) (a2 : Int32) (hd : RD ad) (hI : R7I w)  : Met l yX7_layer wsX7_layer rmX7_layer (va_Pc [Value.ref (ad 0), Value.int a1, Value.int a2] (fun U => va_P D vwCl (RM cI ad w) U.heap ∧ va_K D vwCl [(cI, .int)] U)) (va_Qi (fun r u => (r, u) = sX7_layer w a1 a2) (fun u t => va_P D vwCl (RM cI ad u) t.heap) (RA ad)) 0 0 (RA ad) := by
  refine Met.ofW (cc := cX7_layer) (maxL := 3) (ret := (some .int)) (by decide) rfl ?_
  intro p e s m args below meth c s₁ B hml hv
  obtain ⟨rfl, hP, hK⟩ := hv
  have hx := B.exec
  have hb := B.bytes
  have hr := B.returns
  have hts := atoms_spec (ws := wsX7_layer) B.pre
  have hown : s.vm.findClass RX7 = some m.cls := findClass_of_methodNamed B.named
  have hlocks := B.notSynchronized
  have hin : ∀ q ∈ wsX70, q ∈ wsX7_layer := by decide +kernel
  have hl := lv_entry ([.ref (ad 0), .int a1, .int a2]) (n := 3) (Nat.le_of_ble_eq_true rfl)
  rw [lg_entry_eq]
  generalize (lg_sl ([.ref (ad 0), .int a1, .int a2]) ++ List.replicate (3 - (lg_sl ([.ref (ad 0), .int a1, .int a2])).length) Slot.unset).toArray = ls at hl ⊢
  have hl : lv_has ls 3 [(0, .ref (ad 0)), (1, .int a1), (2, .int a2)] := hl
  suffices hgo : ∀ (H : Heap) (locs : List Loc), va_P D vwCl (RM cI ad w) H → va_S (RA ad) s.heap H locs → W p l e (headSpec wsX7_layer rmX7_layer).room s m [Value.ref (ad 0), Value.int a1, Value.int a2].toArray below meth c H locs 0 0 (MQ below (va_Qi (fun r u => (r, u) = sX7_layer w a1 a2) (fun u t => va_P D vwCl (RM cI ad u) t.heap) (RA ad)) [Value.ref (ad 0), Value.int a1, Value.int a2].toArray s 0 0 (RA ad)) (F0 m 0 ls []) from hgo s.heap [] hP va_S.rf
  intro H locs hP hS
  have E := sX7_layer.eq_1 w a1 a2
  refine lv_aload_n hx hb dX7_layer_0 rfl (lv_at hl 0 rfl) ?_
  refine lv_iload_n hx hb dX7_layer_1 rfl (lv_at hl 1 rfl) ?_
  refine vp_callSi (va_Run.run (va_runV (As := [.int a1]) (rest := []) ⟨hx, hb, hml, hown, hts⟩ (kX7_isLayer l D cI ad w a1) (cwV 1 hts gX7_layer_X7_isLayer rfl rfl rfl mdX7_isLayer ⟨Nat.le_of_ble_eq_true rfl, Nat.le_of_ble_eq_true rfl⟩) (r7_pre hK hP) rfl rfl hl.1 rfl (lv_room (Nat.le_of_ble_eq_true rfl)) dX7_layer_2 ⟨Nat.zero_le _, Nat.zero_le _⟩)) (fun r_1 hr_1 => ?_)
  obtain ⟨rfl, hz_1⟩ := hr_1
  refine lv_if_ne (tgt := 14) hx hb dX7_layer_5 (by decide) (fun c_2 => ?_) (fun c_2 => ?_)
  · have E := E.trans (if_neg c_2)
    have fc_2 := i_ne c_2
    rw [q_0] at fc_2
    have gc_2 := fX7_isLayer c_2
    have glc_2 := R7I_layers hI
    refine lv_iload_n hx hb dX7_layer_14 rfl (lv_at hl 2 rfl) ?_
    by_cases c_4 : a2 = 0
    · have E := E.trans (if_pos c_4)
      refine lv_tableIn (off := 45) (tgt := 60) hx hb dX7_layer_15 (by rw [c_4]; decide) (by rw [c_4]; decide) (by rw [c_4]; rfl) (by decide) ?_
      have fc_4 := i_eq c_4
      rw [q_0] at fc_4
      refine lv_aload_n hx hb dX7_layer_60 rfl (lv_at hl 0 rfl) ?_
      refine g7_kind hx hb hts hin hown hK hP (hts (.fieldLink RX7 16 "LoadedForTheLaneModel" "kind" "[I") (by decide +kernel)) dX7_layer_61 ?_
      refine lv_iload_n hx hb dX7_layer_64 rfl (lv_at hl 1 rfl) ?_
      have ix_5 : vp_in a1 12 := ix_of (by omega) (by omega)
      refine l7_kind (j := a1.toNatClampNeg) hx hb hK hP ix_5 rfl dX7_layer_65 ?_
      exact W.iret (v := w 2 (a1.toNatClampNeg)) hx hb hr (fun t ht hW => ⟨⟨_, w, rfl, E.symm, by beta_reduce; rw [ht]; exact hP⟩, hS.F ht⟩) hS.2.2 dX7_layer_66
    have E := E.trans (if_neg c_4)
    have fc_4 := i_ne c_4
    rw [q_0] at fc_4
    by_cases c_6 : a2 = 1
    · have E := E.trans (if_pos c_6)
      refine lv_tableIn (off := 52) (tgt := 67) hx hb dX7_layer_15 (by rw [c_6]; decide) (by rw [c_6]; decide) (by rw [c_6]; rfl) (by decide) ?_
      have fc_6 := i_eq c_6
      rw [q_1] at fc_6
      refine lv_aload_n hx hb dX7_layer_67 rfl (lv_at hl 0 rfl) ?_
      refine g7_sheaves hx hb hts hin hown hK hP (hts (.fieldLink RX7 19 "LoadedForTheLaneModel" "sheaves" "[I") (by decide +kernel)) dX7_layer_68 ?_
      refine lv_iload_n hx hb dX7_layer_71 rfl (lv_at hl 1 rfl) ?_
      have ix_7 : vp_in a1 12 := ix_of (by omega) (by omega)
      refine l7_sheaves (j := a1.toNatClampNeg) hx hb hK hP ix_7 rfl dX7_layer_72 ?_
      exact W.iret (v := w 3 (a1.toNatClampNeg)) hx hb hr (fun t ht hW => ⟨⟨_, w, rfl, E.symm, by beta_reduce; rw [ht]; exact hP⟩, hS.F ht⟩) hS.2.2 dX7_layer_73
    have E := E.trans (if_neg c_6)
    have fc_6 := i_ne c_6
    rw [q_1] at fc_6
    by_cases c_8 : a2 = 2
    · have E := E.trans (if_pos c_8)
      refine lv_tableIn (off := 59) (tgt := 74) hx hb dX7_layer_15 (by rw [c_8]; decide) (by rw [c_8]; decide) (by rw [c_8]; rfl) (by decide) ?_
      have fc_8 := i_eq c_8
      rw [q_2] at fc_8
      refine lv_aload_n hx hb dX7_layer_74 rfl (lv_at hl 0 rfl) ?_
      refine g7_out hx hb hts hin hown hK hP (hts (.fieldLink RX7 22 "LoadedForTheLaneModel" "out" "[I") (by decide +kernel)) dX7_layer_75 ?_
      refine lv_iload_n hx hb dX7_layer_78 rfl (lv_at hl 1 rfl) ?_
      have ix_9 : vp_in a1 12 := ix_of (by omega) (by omega)
      refine l7_out (j := a1.toNatClampNeg) hx hb hK hP ix_9 rfl dX7_layer_79 ?_
      exact W.iret (v := w 4 (a1.toNatClampNeg)) hx hb hr (fun t ht hW => ⟨⟨_, w, rfl, E.symm, by beta_reduce; rw [ht]; exact hP⟩, hS.F ht⟩) hS.2.2 dX7_layer_80
    have E := E.trans (if_neg c_8)
    have fc_8 := i_ne c_8
    rw [q_2] at fc_8
    by_cases c_10 : a2 = 3
    · have E := E.trans (if_pos c_10)
      refine lv_tableIn (off := 66) (tgt := 81) hx hb dX7_layer_15 (by rw [c_10]; decide) (by rw [c_10]; decide) (by rw [c_10]; rfl) (by decide) ?_
      have fc_10 := i_eq c_10
      rw [q_3] at fc_10
      refine lv_aload_n hx hb dX7_layer_81 rfl (lv_at hl 0 rfl) ?_
      refine g7_lean hx hb hts hin hown hK hP (hts (.fieldLink RX7 25 "LoadedForTheLaneModel" "lean" "[I") (by decide +kernel)) dX7_layer_82 ?_
      refine lv_iload_n hx hb dX7_layer_85 rfl (lv_at hl 1 rfl) ?_
      have ix_11 : vp_in a1 12 := ix_of (by omega) (by omega)
      refine l7_lean (j := a1.toNatClampNeg) hx hb hK hP ix_11 rfl dX7_layer_86 ?_
      exact W.iret (v := w 5 (a1.toNatClampNeg)) hx hb hr (fun t ht hW => ⟨⟨_, w, rfl, E.symm, by beta_reduce; rw [ht]; exact hP⟩, hS.F ht⟩) hS.2.2 dX7_layer_87
    have E := E.trans (if_neg c_10)
    have fc_10 := i_ne c_10
    rw [q_3] at fc_10
    by_cases c_12 : a2 = 4
    · have E := E.trans (if_pos c_12)
      refine lv_tableIn (off := 73) (tgt := 88) hx hb dX7_layer_15 (by rw [c_12]; decide) (by rw [c_12]; decide) (by rw [c_12]; rfl) (by decide) ?_
      have fc_12 := i_eq c_12
      rw [q_4] at fc_12
      refine lv_aload_n hx hb dX7_layer_88 rfl (lv_at hl 0 rfl) ?_
      refine lv_iload_n hx hb dX7_layer_89 rfl (lv_at hl 1 rfl) ?_
      refine vp_callSi (va_Run.run (va_runV (As := [.int a1]) (rest := []) ⟨hx, hb, hml, hown, hts⟩ (kX7_weightOf l D cI ad w a1 (by omega) (by omega)) (cwV 1 hts gX7_layer_X7_weightOf rfl rfl rfl mdX7_weightOf ⟨Nat.le_of_ble_eq_true rfl, Nat.le_of_ble_eq_true rfl⟩) (r7_pre hK hP) rfl rfl hl.1 rfl (lv_room (Nat.le_of_ble_eq_true rfl)) dX7_layer_90 ⟨Nat.zero_le _, Nat.zero_le _⟩)) (fun r_13 hr_13 => ?_)
      subst hr_13
      exact W.iret (v := (sX7_weightOf w a1)) hx hb hr (fun t ht hW => ⟨⟨_, w, rfl, E.symm, by beta_reduce; rw [ht]; exact hP⟩, hS.F ht⟩) hS.2.2 dX7_layer_93
    have E := E.trans (if_neg c_12)
    have fc_12 := i_ne c_12
    rw [q_4] at fc_12
    by_cases c_14 : a2 = 5
    · have E := E.trans (if_pos c_14)
      refine lv_tableIn (off := 79) (tgt := 94) hx hb dX7_layer_15 (by rw [c_14]; decide) (by rw [c_14]; decide) (by rw [c_14]; rfl) (by decide) ?_
      have fc_14 := i_eq c_14
      rw [q_5] at fc_14
      refine lv_aload_n hx hb dX7_layer_94 rfl (lv_at hl 0 rfl) ?_
      refine lv_iload_n hx hb dX7_layer_95 rfl (lv_at hl 1 rfl) ?_
      refine vp_callSi (va_Run.run (va_runV (As := [.int a1]) (rest := []) ⟨hx, hb, hml, hown, hts⟩ (kX7_bindingOf l D cI ad w a1 (by omega) (by omega)) (cwV 1 hts gX7_layer_X7_bindingOf rfl rfl rfl mdX7_bindingOf ⟨Nat.le_of_ble_eq_true rfl, Nat.le_of_ble_eq_true rfl⟩) (r7_pre hK hP) rfl rfl hl.1 rfl (lv_room (Nat.le_of_ble_eq_true rfl)) dX7_layer_96 ⟨Nat.zero_le _, Nat.zero_le _⟩)) (fun r_15 hr_15 => ?_)
      subst hr_15
      exact W.iret (v := (sX7_bindingOf w a1)) hx hb hr (fun t ht hW => ⟨⟨_, w, rfl, E.symm, by beta_reduce; rw [ht]; exact hP⟩, hS.F ht⟩) hS.2.2 dX7_layer_99
    have E := E.trans (if_neg c_14)
    have fc_14 := i_ne c_14
    rw [q_5] at fc_14
    by_cases c_16 : a2 = 6
    · have E := E.trans (if_pos c_16)
      refine lv_tableIn (off := 85) (tgt := 100) hx hb dX7_layer_15 (by rw [c_16]; decide) (by rw [c_16]; decide) (by rw [c_16]; rfl) (by decide) ?_
      have fc_16 := i_eq c_16
      rw [q_6] at fc_16
      refine lv_aload_n hx hb dX7_layer_100 rfl (lv_at hl 0 rfl) ?_
      refine lv_iload_n hx hb dX7_layer_101 rfl (lv_at hl 1 rfl) ?_
      refine vp_callSi (va_Run.run (va_runV (As := [.int a1]) (rest := []) ⟨hx, hb, hml, hown, hts⟩ (kX7_thickOf l D cI ad w a1 (by omega) (by omega)) (cwV 1 hts gX7_layer_X7_thickOf rfl rfl rfl mdX7_thickOf ⟨Nat.le_of_ble_eq_true rfl, Nat.le_of_ble_eq_true rfl⟩) (r7_pre hK hP) rfl rfl hl.1 rfl (lv_room (Nat.le_of_ble_eq_true rfl)) dX7_layer_102 ⟨Nat.zero_le _, Nat.zero_le _⟩)) (fun r_17 hr_17 => ?_)
      subst hr_17
      exact W.iret (v := (sX7_thickOf w a1)) hx hb hr (fun t ht hW => ⟨⟨_, w, rfl, E.symm, by beta_reduce; rw [ht]; exact hP⟩, hS.F ht⟩) hS.2.2 dX7_layer_105
    have E := E.trans (if_neg c_16)
    have fc_16 := i_ne c_16
    rw [q_6] at fc_16
    by_cases c_18 : a2 = 7
    · have E := E.trans (if_pos c_18)
      refine lv_tableIn (off := 91) (tgt := 106) hx hb dX7_layer_15 (by rw [c_18]; decide) (by rw [c_18]; decide) (by rw [c_18]; rfl) (by decide) ?_
      have fc_18 := i_eq c_18
      rw [q_7] at fc_18
      refine lv_aload_n hx hb dX7_layer_106 rfl (lv_at hl 0 rfl) ?_
      refine lv_iload_n hx hb dX7_layer_107 rfl (lv_at hl 1 rfl) ?_
      refine vp_callSi (va_Run.run (va_runV (As := [.int a1]) (rest := []) ⟨hx, hb, hml, hown, hts⟩ (kX7_loadOf l D cI ad w a1 hI (by omega) (by omega)) (cwV 1 hts gX7_layer_X7_loadOf rfl rfl rfl mdX7_loadOf ⟨Nat.le_of_ble_eq_true rfl, Nat.le_of_ble_eq_true rfl⟩) (r7_pre hK hP) rfl rfl hl.1 rfl (lv_room (Nat.le_of_ble_eq_true rfl)) dX7_layer_108 ⟨Nat.zero_le _, Nat.zero_le _⟩)) (fun r_19 hr_19 => ?_)
      subst hr_19
      exact W.iret (v := (sX7_loadOf w a1)) hx hb hr (fun t ht hW => ⟨⟨_, w, rfl, E.symm, by beta_reduce; rw [ht]; exact hP⟩, hS.F ht⟩) hS.2.2 dX7_layer_111
    have E := E.trans (if_neg c_18)
    have fc_18 := i_ne c_18
    rw [q_7] at fc_18
    refine lv_tableOut (tgt := 112) hx hb dX7_layer_15 (by omega) (by decide) ?_
    refine lv_aload_n hx hb dX7_layer_112 rfl (lv_at hl 0 rfl) ?_
    refine lv_bipush (v := (-2)) hx hb dX7_layer_113 (by decide +kernel) ?_
    have := q_m2
    refine va_calli (va_runV (As := [.int (-2)]) (rest := []) ⟨hx, hb, hml, hown, hts⟩ (kX7_lower l D cI ad w (-2) hd hI (by omega) (by omega)) (cwV 1 hts gX7_layer_X7_lower rfl rfl rfl mdX7_lower ⟨Nat.le_of_ble_eq_true rfl, Nat.le_of_ble_eq_true rfl⟩) (r7_pre hK hP) rfl rfl hl.1 rfl (lv_room (Nat.le_of_ble_eq_true rfl)) dX7_layer_115 ⟨Nat.zero_le _, Nat.zero_le _⟩) hS (fun _ _ h => h) (fun _ h => h) (fun rn_3 wn_3 t H locs ht hvm hp_3 hB hz hk hS => ?_)
    have hP : va_P D vwCl (RM cI ad wn_3) H := ht ▸ hB
    obtain ⟨hp_3, hI_3⟩ := hp_3
    have E := bnd_e E hp_3
    exact W.iret (v := rn_3) hx hb hr (fun t ht hW => ⟨⟨_, wn_3, rfl, E.symm, by beta_reduce; rw [ht]; exact hP⟩, hS.F ht⟩) hS.2.2 dX7_layer_118
  · have E := E.trans (if_pos c_2)
    have fc_2 := i_eq c_2
    rw [q_0] at fc_2
    refine lv_aload_n hx hb dX7_layer_8 rfl (lv_at hl 0 rfl) ?_
    refine lv_iconst (v := (-1)) hx hb dX7_layer_9 (by decide) ?_
    have := q_m1
    refine va_calli (va_runV (As := [.int (-1)]) (rest := []) ⟨hx, hb, hml, hown, hts⟩ (kX7_lower l D cI ad w (-1) hd hI (by omega) (by omega)) (cwV 1 hts gX7_layer_X7_lower rfl rfl rfl mdX7_lower ⟨Nat.le_of_ble_eq_true rfl, Nat.le_of_ble_eq_true rfl⟩) (r7_pre hK hP) rfl rfl hl.1 rfl (lv_room (Nat.le_of_ble_eq_true rfl)) dX7_layer_10 ⟨Nat.zero_le _, Nat.zero_le _⟩) hS (fun _ _ h => h) (fun _ h => h) (fun rn_20 wn_20 t H locs ht hvm hp_20 hB hz hk hS => ?_)
    have hP : va_P D vwCl (RM cI ad wn_20) H := ht ▸ hB
    obtain ⟨hp_20, hI_20⟩ := hp_20
    have E := bnd_e E hp_20
    exact W.iret (v := rn_20) hx hb hr (fun t ht hW => ⟨⟨_, wn_20, rfl, E.symm, by beta_reduce; rw [ht]; exact hP⟩, hS.F ht⟩) hS.2.2 dX7_layer_13
abbrev rmX7_piece : Room := { frames := 2, cells := 0, slots := 0, locals := 42 }
set_option maxHeartbeats 4000000 in
set_option maxRecDepth 100000 in
theorem kX7_piece (l : Launch) (D : va_G) (cI : ClassId) (ad : Nat → Nat) (w : Nat → Nat → Int32) (a1 : Int32) (a2 : Int32) (a3 : Int32) (hd : RD ad) (hI : R7I w)  : Met l yX7_piece wsX7_piece rmX7_piece (va_Pc [Value.ref (ad 0), Value.int a1, Value.int a2, Value.int a3] (fun U => va_P D vwCl (RM cI ad w) U.heap ∧ va_K D vwCl [(cI, .int)] U)) (va_Qi (fun r u => (r, u) = sX7_piece w a1 a2 a3) (fun u t => va_P D vwCl (RM cI ad u) t.heap) (RA ad)) 0 0 (RA ad) := by
  refine Met.ofW (cc := cX7_piece) (maxL := 5) (ret := (some .int)) (by decide) rfl ?_
  intro p e s m args below meth c s₁ B hml hv
  obtain ⟨rfl, hP, hK⟩ := hv
  have hx := B.exec
  have hb := B.bytes
  have hr := B.returns
  have hts := atoms_spec (ws := wsX7_piece) B.pre
  have hown : s.vm.findClass RX7 = some m.cls := findClass_of_methodNamed B.named
  have hlocks := B.notSynchronized
  have hin : ∀ q ∈ wsX70, q ∈ wsX7_piece := by decide +kernel
  have hl := lv_entry ([.ref (ad 0), .int a1, .int a2, .int a3]) (n := 5) (Nat.le_of_ble_eq_true rfl)
  rw [lg_entry_eq]
  generalize (lg_sl ([.ref (ad 0), .int a1, .int a2, .int a3]) ++ List.replicate (5 - (lg_sl ([.ref (ad 0), .int a1, .int a2, .int a3])).length) Slot.unset).toArray = ls at hl ⊢
  have hl : lv_has ls 5 [(0, .ref (ad 0)), (1, .int a1), (2, .int a2), (3, .int a3)] := hl
  suffices hgo : ∀ (H : Heap) (locs : List Loc), va_P D vwCl (RM cI ad w) H → va_S (RA ad) s.heap H locs → W p l e (headSpec wsX7_piece rmX7_piece).room s m [Value.ref (ad 0), Value.int a1, Value.int a2, Value.int a3].toArray below meth c H locs 0 0 (MQ below (va_Qi (fun r u => (r, u) = sX7_piece w a1 a2 a3) (fun u t => va_P D vwCl (RM cI ad u) t.heap) (RA ad)) [Value.ref (ad 0), Value.int a1, Value.int a2, Value.int a3].toArray s 0 0 (RA ad)) (F0 m 0 ls []) from hgo s.heap [] hP va_S.rf
  intro H locs hP hS
  have E := sX7_piece.eq_1 w a1 a2 a3
  refine lv_aload_n hx hb dX7_piece_0 rfl (lv_at hl 0 rfl) ?_
  refine lv_iload_n hx hb dX7_piece_1 rfl (lv_at hl 1 rfl) ?_
  refine lv_iload_n hx hb dX7_piece_2 rfl (lv_at hl 2 rfl) ?_
  refine vp_callSi (va_Run.run (va_runV (As := [.int a1, .int a2]) (rest := []) ⟨hx, hb, hml, hown, hts⟩ (kX7_isPiece l D cI ad w a1 a2) (cwV 2 hts gX7_piece_X7_isPiece rfl rfl rfl mdX7_isPiece ⟨Nat.le_of_ble_eq_true rfl, Nat.le_of_ble_eq_true rfl⟩) (r7_pre hK hP) rfl rfl hl.1 rfl (lv_room (Nat.le_of_ble_eq_true rfl)) dX7_piece_3 ⟨Nat.zero_le _, Nat.zero_le _⟩)) (fun r_1 hr_1 => ?_)
  obtain ⟨rfl, hz_1⟩ := hr_1
  refine lv_if_ne (tgt := 15) hx hb dX7_piece_6 (by decide) (fun c_2 => ?_) (fun c_2 => ?_)
  · have E := E.trans (if_neg c_2)
    have fc_2 := i_ne c_2
    rw [q_0] at fc_2
    have gc_2 := fX7_isPiece c_2
    have gpc_2 := R7I_pieces hI (j := a1.toNatClampNeg) (by have := ix_cl (x := a1) (by omega); omega)
    refine lv_bipush (v := 6) hx hb dX7_piece_15 (by decide +kernel) ?_
    refine lv_iload_n hx hb dX7_piece_17 rfl (lv_at hl 1 rfl) ?_
    refine lv_imul hx hb dX7_piece_18 ?_
    refine lv_iload_n hx hb dX7_piece_19 rfl (lv_at hl 2 rfl) ?_
    refine lv_iadd hx hb dX7_piece_20 ?_
    refine lv_istore (lv' := [(4, .int ((6 * a1) + a2)), (0, .ref (ad 0)), (1, .int a1), (2, .int a2), (3, .int a3)]) hx hb dX7_piece_21 hl (by decide) rfl (fun ls hl => ?_)
    refine lv_iload_n hx hb dX7_piece_23 rfl (lv_at hl 4 rfl) ?_
    by_cases c_4 : a3 = 0
    · have E := E.trans (if_pos c_4)
      refine lv_tableIn (off := 28) (tgt := 52) hx hb dX7_piece_24 (by rw [c_4]; decide) (by rw [c_4]; decide) (by rw [c_4]; rfl) (by decide) ?_
      have fc_4 := i_eq c_4
      rw [q_0] at fc_4
      refine lv_aload_n hx hb dX7_piece_52 rfl (lv_at hl 1 rfl) ?_
      refine g7_sort hx hb hts hin hown hK hP (hts (.fieldLink RX7 31 "LoadedForTheLaneModel" "sort" "[I") (by decide +kernel)) dX7_piece_53 ?_
      refine lv_iload hx hb dX7_piece_56 (lv_at hl 0 rfl) ?_
      have := q_6
      have := i_mull (a := 6) (b := a1) (n := 6) q_6 (by omega) (by omega)
      have := i_add (a := 6 * a1) (b := a2) (by omega) (by omega)
      have ix_5 : vp_in ((6 * a1) + a2) 12 := ix_of (by omega) (by omega)
      refine l7_sort (j := ((6 * a1) + a2).toNatClampNeg) hx hb hK hP ix_5 rfl dX7_piece_58 ?_
      exact W.iret (v := w 7 (((6 * a1) + a2).toNatClampNeg)) hx hb hr (fun t ht hW => ⟨⟨_, w, rfl, E.symm, by beta_reduce; rw [ht]; exact hP⟩, hS.F ht⟩) hS.2.2 dX7_piece_59
    have E := E.trans (if_neg c_4)
    have fc_4 := i_ne c_4
    rw [q_0] at fc_4
    by_cases c_6 : a3 = 1
    · have E := E.trans (if_pos c_6)
      refine lv_tableIn (off := 36) (tgt := 60) hx hb dX7_piece_24 (by rw [c_6]; decide) (by rw [c_6]; decide) (by rw [c_6]; rfl) (by decide) ?_
      have fc_6 := i_eq c_6
      rw [q_1] at fc_6
      refine lv_aload_n hx hb dX7_piece_60 rfl (lv_at hl 1 rfl) ?_
      refine g7_figure hx hb hts hin hown hK hP (hts (.fieldLink RX7 34 "LoadedForTheLaneModel" "figure" "[I") (by decide +kernel)) dX7_piece_61 ?_
      refine lv_iload hx hb dX7_piece_64 (lv_at hl 0 rfl) ?_
      have := q_6
      have := i_mull (a := 6) (b := a1) (n := 6) q_6 (by omega) (by omega)
      have := i_add (a := 6 * a1) (b := a2) (by omega) (by omega)
      have ix_7 : vp_in ((6 * a1) + a2) 12 := ix_of (by omega) (by omega)
      refine l7_figure (j := ((6 * a1) + a2).toNatClampNeg) hx hb hK hP ix_7 rfl dX7_piece_66 ?_
      exact W.iret (v := w 8 (((6 * a1) + a2).toNatClampNeg)) hx hb hr (fun t ht hW => ⟨⟨_, w, rfl, E.symm, by beta_reduce; rw [ht]; exact hP⟩, hS.F ht⟩) hS.2.2 dX7_piece_67
    have E := E.trans (if_neg c_6)
    have fc_6 := i_ne c_6
    rw [q_1] at fc_6
    by_cases c_8 : a3 = 2
    · have E := E.trans (if_pos c_8)
      refine lv_tableIn (off := 44) (tgt := 68) hx hb dX7_piece_24 (by rw [c_8]; decide) (by rw [c_8]; decide) (by rw [c_8]; rfl) (by decide) ?_
      have fc_8 := i_eq c_8
      rw [q_2] at fc_8
      refine lv_aload_n hx hb dX7_piece_68 rfl (lv_at hl 1 rfl) ?_
      refine g7_lasting hx hb hts hin hown hK hP (hts (.fieldLink RX7 37 "LoadedForTheLaneModel" "lasting" "[I") (by decide +kernel)) dX7_piece_69 ?_
      refine lv_iload hx hb dX7_piece_72 (lv_at hl 0 rfl) ?_
      have := q_6
      have := i_mull (a := 6) (b := a1) (n := 6) q_6 (by omega) (by omega)
      have := i_add (a := 6 * a1) (b := a2) (by omega) (by omega)
      have ix_9 : vp_in ((6 * a1) + a2) 12 := ix_of (by omega) (by omega)
      refine l7_lasting (j := ((6 * a1) + a2).toNatClampNeg) hx hb hK hP ix_9 rfl dX7_piece_74 ?_
      exact W.iret (v := w 9 (((6 * a1) + a2).toNatClampNeg)) hx hb hr (fun t ht hW => ⟨⟨_, w, rfl, E.symm, by beta_reduce; rw [ht]; exact hP⟩, hS.F ht⟩) hS.2.2 dX7_piece_75
    have E := E.trans (if_neg c_8)
    have fc_8 := i_ne c_8
    rw [q_2] at fc_8
    refine lv_tableOut (tgt := 76) hx hb dX7_piece_24 (by omega) (by decide) ?_
    refine lv_aload_n hx hb dX7_piece_76 rfl (lv_at hl 1 rfl) ?_
    refine lv_bipush (v := (-2)) hx hb dX7_piece_77 (by decide +kernel) ?_
    have := q_m2
    refine va_calli (va_runV (As := [.int (-2)]) (rest := []) ⟨hx, hb, hml, hown, hts⟩ (kX7_no l D cI ad w (-2) hd hI (by omega) (by omega)) (cwV 1 hts gX7_piece_X7_no rfl rfl rfl mdX7_no ⟨Nat.le_of_ble_eq_true rfl, Nat.le_of_ble_eq_true rfl⟩) (r7_pre hK hP) rfl rfl hl.1 rfl (lv_room (Nat.le_of_ble_eq_true rfl)) dX7_piece_79 ⟨Nat.zero_le _, Nat.zero_le _⟩) hS (fun _ _ h => h) (fun _ h => h) (fun rn_3 wn_3 t H locs ht hvm hp_3 hB hz hk hS => ?_)
    have hP : va_P D vwCl (RM cI ad wn_3) H := ht ▸ hB
    obtain ⟨hp_3, hI_3⟩ := hp_3
    have E := bnd_e E hp_3
    exact W.iret (v := rn_3) hx hb hr (fun t ht hW => ⟨⟨_, wn_3, rfl, E.symm, by beta_reduce; rw [ht]; exact hP⟩, hS.F ht⟩) hS.2.2 dX7_piece_82
  · have E := E.trans (if_pos c_2)
    have fc_2 := i_eq c_2
    rw [q_0] at fc_2
    refine lv_aload_n hx hb dX7_piece_9 rfl (lv_at hl 0 rfl) ?_
    refine lv_iconst (v := (-1)) hx hb dX7_piece_10 (by decide) ?_
    have := q_m1
    refine va_calli (va_runV (As := [.int (-1)]) (rest := []) ⟨hx, hb, hml, hown, hts⟩ (kX7_no l D cI ad w (-1) hd hI (by omega) (by omega)) (cwV 1 hts gX7_piece_X7_no rfl rfl rfl mdX7_no ⟨Nat.le_of_ble_eq_true rfl, Nat.le_of_ble_eq_true rfl⟩) (r7_pre hK hP) rfl rfl hl.1 rfl (lv_room (Nat.le_of_ble_eq_true rfl)) dX7_piece_11 ⟨Nat.zero_le _, Nat.zero_le _⟩) hS (fun _ _ h => h) (fun _ h => h) (fun rn_10 wn_10 t H locs ht hvm hp_10 hB hz hk hS => ?_)
    have hP : va_P D vwCl (RM cI ad wn_10) H := ht ▸ hB
    obtain ⟨hp_10, hI_10⟩ := hp_10
    have E := bnd_e E hp_10
    exact W.iret (v := rn_10) hx hb hr (fun t ht hW => ⟨⟨_, wn_10, rfl, E.symm, by beta_reduce; rw [ht]; exact hP⟩, hS.F ht⟩) hS.2.2 dX7_piece_14
abbrev rmX7_shift : Room := { frames := 3, cells := 0, slots := 0, locals := 70 }
set_option maxHeartbeats 4000000 in
set_option maxRecDepth 100000 in
theorem kX7_shift (l : Launch) (D : va_G) (cI : ClassId) (ad : Nat → Nat) (w : Nat → Nat → Int32) (a1 : Int32) (a2 : Int32) (a3 : Int32) (hd : RD ad) (hI : R7I w)  : Met l yX7_shift wsX7_shift rmX7_shift (va_Pc [Value.ref (ad 0), Value.int a1, Value.int a2, Value.int a3] (fun U => va_P D vwCl (RM cI ad w) U.heap ∧ va_K D vwCl [(cI, .int)] U)) (va_Qi (fun r u => (r, u) = sX7_shift w a1 a2 a3) (fun u t => va_P D vwCl (RM cI ad u) t.heap) (RA ad)) 0 0 (RA ad) := by
  refine Met.ofW (cc := cX7_shift) (maxL := 4) (ret := (some .int)) (by decide) rfl ?_
  intro p e s m args below meth c s₁ B hml hv
  obtain ⟨rfl, hP, hK⟩ := hv
  have hx := B.exec
  have hb := B.bytes
  have hr := B.returns
  have hts := atoms_spec (ws := wsX7_shift) B.pre
  have hown : s.vm.findClass RX7 = some m.cls := findClass_of_methodNamed B.named
  have hlocks := B.notSynchronized
  have hin : ∀ q ∈ wsX70, q ∈ wsX7_shift := by decide +kernel
  have hl := lv_entry ([.ref (ad 0), .int a1, .int a2, .int a3]) (n := 4) (Nat.le_of_ble_eq_true rfl)
  rw [lg_entry_eq]
  generalize (lg_sl ([.ref (ad 0), .int a1, .int a2, .int a3]) ++ List.replicate (4 - (lg_sl ([.ref (ad 0), .int a1, .int a2, .int a3])).length) Slot.unset).toArray = ls at hl ⊢
  have hl : lv_has ls 4 [(0, .ref (ad 0)), (1, .int a1), (2, .int a2), (3, .int a3)] := hl
  suffices hgo : ∀ (H : Heap) (locs : List Loc), va_P D vwCl (RM cI ad w) H → va_S (RA ad) s.heap H locs → W p l e (headSpec wsX7_shift rmX7_shift).room s m [Value.ref (ad 0), Value.int a1, Value.int a2, Value.int a3].toArray below meth c H locs 0 0 (MQ below (va_Qi (fun r u => (r, u) = sX7_shift w a1 a2 a3) (fun u t => va_P D vwCl (RM cI ad u) t.heap) (RA ad)) [Value.ref (ad 0), Value.int a1, Value.int a2, Value.int a3].toArray s 0 0 (RA ad)) (F0 m 0 ls []) from hgo s.heap [] hP va_S.rf
  intro H locs hP hS
  have E := sX7_shift.eq_1 w a1 a2 a3
  refine lv_aload_n hx hb dX7_shift_0 rfl (lv_at hl 0 rfl) ?_
  refine lv_iload_n hx hb dX7_shift_1 rfl (lv_at hl 1 rfl) ?_
  refine lv_iload_n hx hb dX7_shift_2 rfl (lv_at hl 2 rfl) ?_
  refine vp_callSi (va_Run.run (va_runV (As := [.int a1, .int a2]) (rest := []) ⟨hx, hb, hml, hown, hts⟩ (kX7_isPiece l D cI ad w a1 a2) (cwV 2 hts gX7_shift_X7_isPiece rfl rfl rfl mdX7_isPiece ⟨Nat.le_of_ble_eq_true rfl, Nat.le_of_ble_eq_true rfl⟩) (r7_pre hK hP) rfl rfl hl.1 rfl (lv_room (Nat.le_of_ble_eq_true rfl)) dX7_shift_3 ⟨Nat.zero_le _, Nat.zero_le _⟩)) (fun r_1 hr_1 => ?_)
  obtain ⟨rfl, hz_1⟩ := hr_1
  refine lv_if_eq (tgt := 31) hx hb dX7_shift_6 (by decide) (fun c_2 => ?_) (fun c_2 => ?_)
  · have E := E.trans (if_pos c_2)
    have fc_2 := i_eq c_2
    rw [q_0] at fc_2
    refine lv_aload_n hx hb dX7_shift_31 rfl (lv_at hl 0 rfl) ?_
    refine lv_iconst (v := (-1)) hx hb dX7_shift_32 (by decide) ?_
    have := q_m1
    refine va_calli (va_runV (As := [.int (-1)]) (rest := []) ⟨hx, hb, hml, hown, hts⟩ (kX7_no l D cI ad w (-1) hd hI (by omega) (by omega)) (cwV 1 hts gX7_shift_X7_no rfl rfl rfl mdX7_no ⟨Nat.le_of_ble_eq_true rfl, Nat.le_of_ble_eq_true rfl⟩) (r7_pre hK hP) rfl rfl hl.1 rfl (lv_room (Nat.le_of_ble_eq_true rfl)) dX7_shift_33 ⟨Nat.zero_le _, Nat.zero_le _⟩) hS (fun _ _ h => h) (fun _ h => h) (fun rn_3 wn_3 t H locs ht hvm hp_3 hB hz hk hS => ?_)
    have hP : va_P D vwCl (RM cI ad wn_3) H := ht ▸ hB
    obtain ⟨hp_3, hI_3⟩ := hp_3
    have E := bnd_e E hp_3
    exact W.iret (v := rn_3) hx hb hr (fun t ht hW => ⟨⟨_, wn_3, rfl, E.symm, by beta_reduce; rw [ht]; exact hP⟩, hS.F ht⟩) hS.2.2 dX7_shift_36
  · have E := E.trans (if_neg c_2)
    have fc_2 := i_ne c_2
    rw [q_0] at fc_2
    have gc_2 := fX7_isPiece c_2
    have gpc_2 := R7I_pieces hI (j := a1.toNatClampNeg) (by have := ix_cl (x := a1) (by omega); omega)
    refine lv_aload_n hx hb dX7_shift_9 rfl (lv_at hl 0 rfl) ?_
    refine lv_iload_n hx hb dX7_shift_10 rfl (lv_at hl 3 rfl) ?_
    refine vp_callSi (va_Run.run (va_runV (As := [.int a3]) (rest := []) ⟨hx, hb, hml, hown, hts⟩ (kX7_isLayer l D cI ad w a3) (cwV 1 hts gX7_shift_X7_isLayer rfl rfl rfl mdX7_isLayer ⟨Nat.le_of_ble_eq_true rfl, Nat.le_of_ble_eq_true rfl⟩) (r7_pre hK hP) rfl rfl hl.1 rfl (lv_room (Nat.le_of_ble_eq_true rfl)) dX7_shift_11 ⟨Nat.zero_le _, Nat.zero_le _⟩)) (fun r_4 hr_4 => ?_)
    obtain ⟨rfl, hz_4⟩ := hr_4
    refine lv_if_eq (tgt := 31) hx hb dX7_shift_14 (by decide) (fun c_5 => ?_) (fun c_5 => ?_)
    · have E := E.trans (if_pos c_5)
      have fc_5 := i_eq c_5
      rw [q_0] at fc_5
      refine lv_aload_n hx hb dX7_shift_31 rfl (lv_at hl 0 rfl) ?_
      refine lv_iconst (v := (-1)) hx hb dX7_shift_32 (by decide) ?_
      have := q_m1
      refine va_calli (va_runV (As := [.int (-1)]) (rest := []) ⟨hx, hb, hml, hown, hts⟩ (kX7_no l D cI ad w (-1) hd hI (by omega) (by omega)) (cwV 1 hts gX7_shift_X7_no rfl rfl rfl mdX7_no ⟨Nat.le_of_ble_eq_true rfl, Nat.le_of_ble_eq_true rfl⟩) (r7_pre hK hP) rfl rfl hl.1 rfl (lv_room (Nat.le_of_ble_eq_true rfl)) dX7_shift_33 ⟨Nat.zero_le _, Nat.zero_le _⟩) hS (fun _ _ h => h) (fun _ h => h) (fun rn_6 wn_6 t H locs ht hvm hp_6 hB hz hk hS => ?_)
      have hP : va_P D vwCl (RM cI ad wn_6) H := ht ▸ hB
      obtain ⟨hp_6, hI_6⟩ := hp_6
      have E := bnd_e E hp_6
      exact W.iret (v := rn_6) hx hb hr (fun t ht hW => ⟨⟨_, wn_6, rfl, E.symm, by beta_reduce; rw [ht]; exact hP⟩, hS.F ht⟩) hS.2.2 dX7_shift_36
    · have E := E.trans (if_neg c_5)
      have fc_5 := i_ne c_5
      rw [q_0] at fc_5
      have gc_5 := fX7_isLayer c_5
      have glc_5 := R7I_layers hI
      refine lv_aload_n hx hb dX7_shift_17 rfl (lv_at hl 0 rfl) ?_
      refine lv_bipush (v := 6) hx hb dX7_shift_18 (by decide +kernel) ?_
      refine lv_iload_n hx hb dX7_shift_20 rfl (lv_at hl 1 rfl) ?_
      refine lv_imul hx hb dX7_shift_21 ?_
      refine lv_iload_n hx hb dX7_shift_22 rfl (lv_at hl 2 rfl) ?_
      refine lv_iadd hx hb dX7_shift_23 ?_
      refine lv_iload_n hx hb dX7_shift_24 rfl (lv_at hl 3 rfl) ?_
      have := q_6
      have := i_mull (a := 6) (b := a1) (n := 6) q_6 (by omega) (by omega)
      have := i_add (a := 6 * a1) (b := a2) (by omega) (by omega)
      refine vp_callSi (va_Run.run (va_runV (As := [.int ((6 * a1) + a2), .int a3]) (rest := []) ⟨hx, hb, hml, hown, hts⟩ (kX7_shiftAt l D cI ad w ((6 * a1) + a2) a3 hI (by omega) (by omega) (by omega) (by omega)) (cwV 2 hts gX7_shift_X7_shiftAt rfl rfl rfl mdX7_shiftAt ⟨Nat.le_of_ble_eq_true rfl, Nat.le_of_ble_eq_true rfl⟩) (r7_pre hK hP) rfl rfl hl.1 rfl (lv_room (Nat.le_of_ble_eq_true rfl)) dX7_shift_25 ⟨Nat.zero_le _, Nat.zero_le _⟩)) (fun r_7 hr_7 => ?_)
      subst hr_7
      refine lv_goto (tgt := 36) hx hb dX7_shift_28 (by decide) ?_
      exact W.iret (v := (sX7_shiftAt w ((6 * a1) + a2) a3)) hx hb hr (fun t ht hW => ⟨⟨_, w, rfl, E.symm, by beta_reduce; rw [ht]; exact hP⟩, hS.F ht⟩) hS.2.2 dX7_shift_36
abbrev rmX7_findSlip : Room := { frames := 5, cells := 0, slots := 0, locals := 115 }
set_option maxHeartbeats 4000000 in
set_option maxRecDepth 100000 in
theorem kX7_findSlip (l : Launch) (D : va_G) (cI : ClassId) (ad : Nat → Nat) (w : Nat → Nat → Int32) (a1 : Int32) (hd : RD ad) (hI : R7I w) (h1 : 0 ≤ a1.toInt) (h2 : a1.toInt < 2) : Met l yX7_findSlip wsX7_findSlip rmX7_findSlip (va_Pc [Value.ref (ad 0), Value.int a1] (fun U => va_P D vwCl (RM cI ad w) U.heap ∧ va_K D vwCl [(cI, .int)] U)) (va_Qv (fun u => u = sX7_findSlip w a1 ∧ R7I u ∧ (∀ k : Nat, k ≠ 23 → k ≠ 24 → u k = w k)) (fun u t => va_P D vwCl (RM cI ad u) t.heap) (RA ad)) 0 0 (RA ad) := by
  refine Met.ofW (cc := cX7_findSlip) (maxL := 4) (ret := none) (by decide) rfl ?_
  intro p e s m args below meth c s₁ B hml hv
  obtain ⟨rfl, hP, hK⟩ := hv
  have hx := B.exec
  have hb := B.bytes
  have hr := B.returns
  have hts := atoms_spec (ws := wsX7_findSlip) B.pre
  have hown : s.vm.findClass RX7 = some m.cls := findClass_of_methodNamed B.named
  have hlocks := B.notSynchronized
  have hin : ∀ q ∈ wsX70, q ∈ wsX7_findSlip := by decide +kernel
  have hk : ∀ k : Nat, k ≠ 23 → k ≠ 24 → w k = w k := fun _ _ _ => rfl
  have hl := lv_entry ([.ref (ad 0), .int a1]) (n := 4) (Nat.le_of_ble_eq_true rfl)
  rw [lg_entry_eq]
  generalize (lg_sl ([.ref (ad 0), .int a1]) ++ List.replicate (4 - (lg_sl ([.ref (ad 0), .int a1])).length) Slot.unset).toArray = ls at hl ⊢
  have hl : lv_has ls 4 [(0, .ref (ad 0)), (1, .int a1)] := hl
  suffices hgo : ∀ (H : Heap) (locs : List Loc), va_P D vwCl (RM cI ad w) H → va_S (RA ad) s.heap H locs → W p l e (headSpec wsX7_findSlip rmX7_findSlip).room s m [Value.ref (ad 0), Value.int a1].toArray below meth c H locs 0 0 (MQ below (va_Qv (fun u => u = sX7_findSlip w a1 ∧ R7I u ∧ (∀ k : Nat, k ≠ 23 → k ≠ 24 → u k = w k)) (fun u t => va_P D vwCl (RM cI ad u) t.heap) (RA ad)) [Value.ref (ad 0), Value.int a1].toArray s 0 0 (RA ad)) (F0 m 0 ls []) from hgo s.heap [] hP va_S.rf
  intro H locs hP hS
  have E := sX7_findSlip.eq_1 w a1
  refine lv_aload_n hx hb dX7_findSlip_0 rfl (lv_at hl 0 rfl) ?_
  refine lv_bipush (v := (-9)) hx hb dX7_findSlip_1 (by decide +kernel) ?_
  refine p7_slipPiece hx hb hts hin hown hK hP hd hS (hts (.fieldLink RX7 205 "LoadedForTheLaneModel" "slipPiece" "I") (by decide +kernel)) dX7_findSlip_3 (fun H locs hP hS => ?_)
  obtain ⟨wn_1, hwn_1⟩ : ∃ x, x = st w 23 0 (-9) := ⟨_, rfl⟩
  rw [← hwn_1] at hP
  have E := bns_e E hwn_1
  have ft1_layers : (wn_1 11 0).toInt = (w 11 0).toInt := by rw [hwn_1]; rfl
  have ft1_slipLayer : (wn_1 24 0).toInt = (w 24 0).toInt := by rw [hwn_1]; rfl
  have hk := fun (k : Nat) (h1 : k ≠ 23) (h2 : k ≠ 24) => (show wn_1 k = w k by rw [hwn_1]; exact st_o h1).trans (hk k h1 h2)
  have hI_1 : R7I wn_1 := by rw [hwn_1]; exact R7I_put_slipPiece hI
  refine lv_aload_n hx hb dX7_findSlip_6 rfl (lv_at hl 0 rfl) ?_
  refine lv_bipush (v := (-9)) hx hb dX7_findSlip_7 (by decide +kernel) ?_
  refine p7_slipLayer hx hb hts hin hown hK hP hd hS (hts (.fieldLink RX7 208 "LoadedForTheLaneModel" "slipLayer" "I") (by decide +kernel)) dX7_findSlip_9 (fun H locs hP hS => ?_)
  obtain ⟨wn_2, hwn_2⟩ : ∃ x, x = st wn_1 24 0 (-9) := ⟨_, rfl⟩
  rw [← hwn_2] at hP
  have E := bns_e E hwn_2
  have ft2_layers : (wn_2 11 0).toInt = (wn_1 11 0).toInt := by rw [hwn_2]; rfl
  have ft2_slipLayer : (wn_2 24 0).toInt = ((-9)).toInt := by rw [hwn_2]; rfl
  have := q_m9
  have hk := fun (k : Nat) (h1 : k ≠ 23) (h2 : k ≠ 24) => (show wn_2 k = wn_1 k by rw [hwn_2]; exact st_o h2).trans (hk k h1 h2)
  have hI_2 : R7I wn_2 := by rw [hwn_2]; exact R7I_put_slipLayer hI_1
  refine lv_iconst (v := 0) hx hb dX7_findSlip_12 (by decide) ?_
  refine lv_istore_n (lv' := [(2, .int 0), (0, .ref (ad 0)), (1, .int a1)]) hx hb dX7_findSlip_13 rfl hl (by decide) rfl (fun ls hl => ?_)
  have L_14 : ∀ (n_14 : Nat) (x2_14 : Int32) (ls : Array Slot), (0 ≤ x2_14.toInt ∧ x2_14.toInt ≤ 6) → (6 - x2_14.toInt < (n_14 : Int)) → lv_has ls 4 [(2, .int x2_14), (0, .ref (ad 0)), (1, .int a1)] → sX7_findSlip w a1 = sX7_findSlip_14 a1 wn_2 n_14 x2_14 → W p l e (headSpec wsX7_findSlip rmX7_findSlip).room s m [Value.ref (ad 0), Value.int a1].toArray below meth c H locs 0 0 (MQ below (va_Qv (fun u => u = sX7_findSlip w a1 ∧ R7I u ∧ (∀ k : Nat, k ≠ 23 → k ≠ 24 → u k = w k)) (fun u t => va_P D vwCl (RM cI ad u) t.heap) (RA ad)) [Value.ref (ad 0), Value.int a1].toArray s 0 0 (RA ad)) (F0 m 14 ls []) := by
    intro n_14
    induction n_14 with
    | zero =>
      intro x2_14 ls hinv hm
      obtain ⟨v0_14, v1_14⟩ := hinv
      exact absurd hm (by omega)
    | succ n_14 ih_14 =>
      intro x2_14 ls hinv hm_14 hl E
      obtain ⟨v0_14, v1_14⟩ := hinv
      have E := E.trans (sX7_findSlip_14.eq_2 ..)
      refine lv_iload_n hx hb dX7_findSlip_14 rfl (lv_at hl 0 rfl) ?_
      refine lv_aload_n hx hb dX7_findSlip_15 rfl (lv_at hl 1 rfl) ?_
      refine g7_pieces hx hb hts hin hown hK hP (hts (.fieldLink RX7 40 "LoadedForTheLaneModel" "pieces" "[I") (by decide +kernel)) dX7_findSlip_16 ?_
      refine lv_iload_n hx hb dX7_findSlip_19 rfl (lv_at hl 2 rfl) ?_
      have ix_3 : vp_in a1 2 := ix_of (by omega) (by omega)
      refine l7_pieces (j := a1.toNatClampNeg) hx hb hK hP ix_3 rfl dX7_findSlip_20 ?_
      have f_3 := R7I_pieces hI_2 (j := a1.toNatClampNeg) (by have := ix_cl (x := a1) (by omega); omega)
      refine lv_icmp_ge (tgt := 83) hx hb dX7_findSlip_21 (by decide) (fun c_4 => ?_) (fun c_4 => ?_)
      · have E := E.trans (if_pos c_4)
        have fc_4 := i_le c_4
        exact W.vret hx hb hr (fun t ht hW => ⟨⟨wn_2, rfl, ⟨E.symm, hI_2, hk⟩, by beta_reduce; rw [ht]; exact hP⟩, hS.F ht⟩) hS.2.2 dX7_findSlip_83
      · have E := E.trans (if_neg c_4)
        have fc_4 := i_nle c_4
        refine lv_aload_n hx hb dX7_findSlip_24 rfl (lv_at hl 1 rfl) ?_
        refine lv_bipush (v := 6) hx hb dX7_findSlip_25 (by decide +kernel) ?_
        refine lv_iload_n hx hb dX7_findSlip_27 rfl (lv_at hl 2 rfl) ?_
        refine lv_imul hx hb dX7_findSlip_28 ?_
        refine lv_iload_n hx hb dX7_findSlip_29 rfl (lv_at hl 0 rfl) ?_
        refine lv_iadd hx hb dX7_findSlip_30 ?_
        have := q_6
        have := i_mull (a := 6) (b := a1) (n := 6) q_6 (by omega) (by omega)
        have := i_add (a := 6 * a1) (b := x2_14) (by omega) (by omega)
        refine vp_callSi (va_Run.run (va_runV (As := [.int ((6 * a1) + x2_14)]) (rest := []) ⟨hx, hb, hml, hown, hts⟩ (kX7_fellBits l D cI ad wn_2 ((6 * a1) + x2_14) hI_2 (by omega) (by omega)) (cwV 1 hts gX7_findSlip_X7_fellBits rfl rfl rfl mdX7_fellBits ⟨Nat.le_of_ble_eq_true rfl, Nat.le_of_ble_eq_true rfl⟩) (r7_pre hK hP) rfl rfl hl.1 rfl (lv_room (Nat.le_of_ble_eq_true rfl)) dX7_findSlip_31 ⟨Nat.zero_le _, Nat.zero_le _⟩)) (fun r_5 hr_5 => ?_)
        subst hr_5
        refine lv_istore_n (lv' := [(3, .int (sX7_fellBits wn_2 ((6 * a1) + x2_14))), (2, .int x2_14), (0, .ref (ad 0)), (1, .int a1)]) hx hb dX7_findSlip_34 rfl hl (by decide) rfl (fun ls hl => ?_)
        refine lv_iload_n hx hb dX7_findSlip_35 rfl (lv_at hl 0 rfl) ?_
        refine lv_if_ne (tgt := 42) hx hb dX7_findSlip_36 (by decide) (fun c_6 => ?_) (fun c_6 => ?_)
        · have E := E.trans (if_neg c_6)
          have fc_6 := i_ne c_6
          rw [q_0] at fc_6
          obtain ⟨j0, hj0, hbit⟩ := bit_ex (x := sX7_fellBits w ((6 * a1) + x2_14)) (by assumption)
          refine lv_aload_n hx hb dX7_findSlip_42 rfl (lv_at hl 2 rfl) ?_
          refine lv_iload_n hx hb dX7_findSlip_43 rfl (lv_at hl 1 rfl) ?_
          refine p7_slipPiece hx hb hts hin hown hK hP hd hS (hts (.fieldLink RX7 205 "LoadedForTheLaneModel" "slipPiece" "I") (by decide +kernel)) dX7_findSlip_44 (fun H locs hP hS => ?_)
          obtain ⟨wn_7, hwn_7⟩ : ∃ x, x = st wn_2 23 0 x2_14 := ⟨_, rfl⟩
          rw [← hwn_7] at hP
          have E := bns_e E hwn_7
          have ft7_layers : (wn_7 11 0).toInt = (wn_2 11 0).toInt := by rw [hwn_7]; rfl
          have ft7_slipLayer : (wn_7 24 0).toInt = (wn_2 24 0).toInt := by rw [hwn_7]; rfl
          have hk := fun (k : Nat) (h1 : k ≠ 23) (h2 : k ≠ 24) => (show wn_7 k = wn_2 k by rw [hwn_7]; exact st_o h1).trans (hk k h1 h2)
          have hI_7 : R7I wn_7 := by rw [hwn_7]; exact R7I_put_slipPiece hI_2
          refine lv_aload_n hx hb dX7_findSlip_47 rfl (lv_at hl 2 rfl) ?_
          refine lv_iconst (v := 0) hx hb dX7_findSlip_48 (by decide) ?_
          refine p7_slipLayer hx hb hts hin hown hK hP hd hS (hts (.fieldLink RX7 208 "LoadedForTheLaneModel" "slipLayer" "I") (by decide +kernel)) dX7_findSlip_49 (fun H locs hP hS => ?_)
          obtain ⟨wn_8, hwn_8⟩ : ∃ x, x = st wn_7 24 0 0 := ⟨_, rfl⟩
          rw [← hwn_8] at hP
          have E := bns_e E hwn_8
          have ft8_layers : (wn_8 11 0).toInt = (wn_7 11 0).toInt := by rw [hwn_8]; rfl
          have ft8_slipLayer : (wn_8 24 0).toInt = (0).toInt := by rw [hwn_8]; rfl
          have := q_0
          have hk := fun (k : Nat) (h1 : k ≠ 23) (h2 : k ≠ 24) => (show wn_8 k = wn_7 k by rw [hwn_8]; exact st_o h2).trans (hk k h1 h2)
          have hI_8 : R7I wn_8 := by rw [hwn_8]; exact R7I_put_slipLayer hI_7
          have L_52 : ∀ (n_52 : Nat) (w_52 : Nat → Nat → Int32) (H : Heap) (locs : List Loc) (ls : Array Slot), (0 ≤ (w_52 24 0).toInt ∧ (w_52 24 0).toInt ≤ j0 ∧ ∀ k : Nat, k ≠ 23 → k ≠ 24 → w_52 k = w k) → ((j0 : Int) - (w_52 24 0).toInt < (n_52 : Int)) → R7I w_52 → va_P D vwCl (RM cI ad w_52) H → va_S (RA ad) s.heap H locs → lv_has ls 4 [(3, .int (sX7_fellBits wn_2 ((6 * a1) + x2_14))), (0, .ref (ad 0))] → sX7_findSlip w a1 = sX7_findSlip_52 a1 wn_2 x2_14 n_52 w_52 → W p l e (headSpec wsX7_findSlip rmX7_findSlip).room s m [Value.ref (ad 0), Value.int a1].toArray below meth c H locs 0 0 (MQ below (va_Qv (fun u => u = sX7_findSlip w a1 ∧ R7I u ∧ (∀ k : Nat, k ≠ 23 → k ≠ 24 → u k = w k)) (fun u t => va_P D vwCl (RM cI ad u) t.heap) (RA ad)) [Value.ref (ad 0), Value.int a1].toArray s 0 0 (RA ad)) (F0 m 52 ls []) := by
            intro n_52
            induction n_52 with
            | zero =>
              intro w_52 H locs ls hinv hm
              obtain ⟨v0_52, v1_52, v2_52⟩ := hinv
              exact absurd hm (by omega)
            | succ n_52 ih_52 =>
              intro w_52 H locs ls hinv hm_52 hI_52 hP hS hl E
              obtain ⟨v0_52, v1_52, v2_52⟩ := hinv
              have E := E.trans (sX7_findSlip_52.eq_2 ..)
              have hk := v2_52
              refine lv_iload_n hx hb dX7_findSlip_52 rfl (lv_at hl 0 rfl) ?_
              refine lv_aload_n hx hb dX7_findSlip_53 rfl (lv_at hl 1 rfl) ?_
              refine g7_slipLayer hx hb hts hin hown hK hP (hts (.fieldLink RX7 208 "LoadedForTheLaneModel" "slipLayer" "I") (by decide +kernel)) dX7_findSlip_54 ?_
              refine lv_ishr hx hb dX7_findSlip_57 ?_
              refine lv_iconst (v := 1) hx hb dX7_findSlip_58 (by decide) ?_
              refine lv_iand hx hb dX7_findSlip_59 ?_
              refine lv_if_ne (tgt := 76) hx hb dX7_findSlip_60 (by decide) (fun c_9 => ?_) (fun c_9 => ?_)
              · have E := E.trans (if_neg c_9)
                have fc_9 := i_ne c_9
                rw [q_0] at fc_9
                exact W.vret hx hb hr (fun t ht hW => ⟨⟨w_52, rfl, ⟨E.symm, hI_52, hk⟩, by beta_reduce; rw [ht]; exact hP⟩, hS.F ht⟩) hS.2.2 dX7_findSlip_76
              · have E := E.trans (if_pos c_9)
                have fc_9 := i_eq c_9
                rw [q_0] at fc_9
                have hne : (w_52 24 0).toInt ≠ j0 := fun q => hbit _ q (by assumption)
                refine lv_aload_n hx hb dX7_findSlip_63 rfl (lv_at hl 1 rfl) ?_
                refine lv_dup hx hb dX7_findSlip_64 rfl ?_
                refine g7_slipLayer hx hb hts hin hown hK hP (hts (.fieldLink RX7 208 "LoadedForTheLaneModel" "slipLayer" "I") (by decide +kernel)) dX7_findSlip_65 ?_
                refine lv_iconst (v := 1) hx hb dX7_findSlip_68 (by decide) ?_
                refine lv_iadd hx hb dX7_findSlip_69 ?_
                refine p7_slipLayer hx hb hts hin hown hK hP hd hS (hts (.fieldLink RX7 208 "LoadedForTheLaneModel" "slipLayer" "I") (by decide +kernel)) dX7_findSlip_70 (fun H locs hP hS => ?_)
                obtain ⟨wn_10, hwn_10⟩ : ∃ x, x = st w_52 24 0 ((w_52 24 0) + 1) := ⟨_, rfl⟩
                rw [← hwn_10] at hP
                have E := bns_e E hwn_10
                have ft10_layers : (wn_10 11 0).toInt = (w_52 11 0).toInt := by rw [hwn_10]; rfl
                have ft10_slipLayer : (wn_10 24 0).toInt = ((w_52 24 0) + 1).toInt := by rw [hwn_10]; rfl
                have := q_1
                have := i_add (a := w_52 24 0) (b := 1) (by omega) (by omega)
                have hk := fun (k : Nat) (h1 : k ≠ 23) (h2 : k ≠ 24) => (show wn_10 k = w_52 k by rw [hwn_10]; exact st_o h2).trans (hk k h1 h2)
                have hI_10 : R7I wn_10 := by rw [hwn_10]; exact R7I_put_slipLayer hI_52
                refine lv_goto (tgt := 52) hx hb dX7_findSlip_73 (by decide) ?_
                exact ih_52 wn_10 H locs ls ⟨by omega, by omega, hk⟩ (by omega) hI_10 hP hS (lv_sub hl [0, 1] rfl) E
          exact L_52 33 wn_8 H locs ls ⟨by omega, by omega, hk⟩ (by omega) hI_8 hP hS (lv_sub hl [0, 2] rfl) E
        · have E := E.trans (if_pos c_6)
          have fc_6 := i_eq c_6
          rw [q_0] at fc_6
          refine lv_goto (tgt := 77) hx hb dX7_findSlip_39 (by decide) ?_
          refine lv_iinc (v := x2_14 + 1) (lv' := [(2, .int (x2_14 + 1)), (3, .int (sX7_fellBits wn_2 ((6 * a1) + x2_14))), (0, .ref (ad 0)), (1, .int a1)]) hx hb dX7_findSlip_77 hl (k := 1) rfl rfl (by decide) rfl (fun ls hl => ?_)
          refine lv_goto (tgt := 14) hx hb dX7_findSlip_80 (by decide) ?_
          have := q_1
          try have := i_add (a := x2_14) (b := 1) (by omega) (by omega)
          exact ih_14 (x2_14 + 1) ls ⟨by omega, by omega⟩ (by omega) (lv_sub hl [0, 2, 3] rfl) E
  have := q_0
  exact L_14 7 0 ls ⟨by omega, by omega⟩ (by omega) (lv_sub hl [0, 1, 2] rfl) E
abbrev rmX7_doesHold : Room := { frames := 6, cells := 0, slots := 0, locals := 138 }
set_option maxHeartbeats 4000000 in
set_option maxRecDepth 100000 in
theorem kX7_doesHold (l : Launch) (D : va_G) (cI : ClassId) (ad : Nat → Nat) (w : Nat → Nat → Int32) (a1 : Int32) (hd : RD ad) (hI : R7I w) (h1 : 0 ≤ a1.toInt) (h2 : a1.toInt < 2) : Met l yX7_doesHold wsX7_doesHold rmX7_doesHold (va_Pc [Value.ref (ad 0), Value.int a1] (fun U => va_P D vwCl (RM cI ad w) U.heap ∧ va_K D vwCl [(cI, .int)] U)) (va_Qi (fun r u => (r, u) = sX7_doesHold w a1 ∧ (r = 0 ∨ r = 1) ∧ R7I u ∧ (∀ k : Nat, k ≠ 23 → k ≠ 24 → u k = w k)) (fun u t => va_P D vwCl (RM cI ad u) t.heap) (RA ad)) 0 0 (RA ad) := by
  refine Met.ofW (cc := cX7_doesHold) (maxL := 2) (ret := (some .boolean)) (by decide) rfl ?_
  intro p e s m args below meth c s₁ B hml hv
  obtain ⟨rfl, hP, hK⟩ := hv
  have hx := B.exec
  have hb := B.bytes
  have hr := B.returns
  have hts := atoms_spec (ws := wsX7_doesHold) B.pre
  have hown : s.vm.findClass RX7 = some m.cls := findClass_of_methodNamed B.named
  have hlocks := B.notSynchronized
  have hin : ∀ q ∈ wsX70, q ∈ wsX7_doesHold := by decide +kernel
  have hk : ∀ k : Nat, k ≠ 23 → k ≠ 24 → w k = w k := fun _ _ _ => rfl
  have hl := lv_entry ([.ref (ad 0), .int a1]) (n := 2) (Nat.le_of_ble_eq_true rfl)
  rw [lg_entry_eq]
  generalize (lg_sl ([.ref (ad 0), .int a1]) ++ List.replicate (2 - (lg_sl ([.ref (ad 0), .int a1])).length) Slot.unset).toArray = ls at hl ⊢
  have hl : lv_has ls 2 [(0, .ref (ad 0)), (1, .int a1)] := hl
  suffices hgo : ∀ (H : Heap) (locs : List Loc), va_P D vwCl (RM cI ad w) H → va_S (RA ad) s.heap H locs → W p l e (headSpec wsX7_doesHold rmX7_doesHold).room s m [Value.ref (ad 0), Value.int a1].toArray below meth c H locs 0 0 (MQ below (va_Qi (fun r u => (r, u) = sX7_doesHold w a1 ∧ (r = 0 ∨ r = 1) ∧ R7I u ∧ (∀ k : Nat, k ≠ 23 → k ≠ 24 → u k = w k)) (fun u t => va_P D vwCl (RM cI ad u) t.heap) (RA ad)) [Value.ref (ad 0), Value.int a1].toArray s 0 0 (RA ad)) (F0 m 0 ls []) from hgo s.heap [] hP va_S.rf
  intro H locs hP hS
  have E := sX7_doesHold.eq_1 w a1
  refine lv_aload_n hx hb dX7_doesHold_0 rfl (lv_at hl 0 rfl) ?_
  refine lv_iload_n hx hb dX7_doesHold_1 rfl (lv_at hl 1 rfl) ?_
  refine va_callv (va_runV (As := [.int a1]) (rest := []) ⟨hx, hb, hml, hown, hts⟩ (kX7_findSlip l D cI ad w a1 hd hI (by omega) (by omega)) (cwV 1 hts gX7_doesHold_X7_findSlip rfl rfl rfl mdX7_findSlip ⟨Nat.le_of_ble_eq_true rfl, Nat.le_of_ble_eq_true rfl⟩) (r7_pre hK hP) rfl rfl hl.1 rfl (lv_room (Nat.le_of_ble_eq_true rfl)) dX7_doesHold_2 ⟨Nat.zero_le _, Nat.zero_le _⟩) hS (fun _ _ h => h) (fun _ h => h) (fun wn_1 t H locs ht hvm hp_1 hB hz hk hS => ?_)
  have hP : va_P D vwCl (RM cI ad wn_1) H := ht ▸ hB
  obtain ⟨hp_1, hI_1, hq0_1⟩ := hp_1
  have E := bns_e E hp_1
  have hk := fun (k : Nat) (h1 : k ≠ 23) (h2 : k ≠ 24) => (hq0_1 k h1 h2).trans (hk k h1 h2)
  refine lv_aload_n hx hb dX7_doesHold_5 rfl (lv_at hl 0 rfl) ?_
  refine g7_slipPiece hx hb hts hin hown hK hP (hts (.fieldLink RX7 205 "LoadedForTheLaneModel" "slipPiece" "I") (by decide +kernel)) dX7_doesHold_6 ?_
  refine lv_if_ge (tgt := 16) hx hb dX7_doesHold_9 (by decide) (fun c_2 => ?_) (fun c_2 => ?_)
  · have E := E.trans (if_pos c_2)
    have fc_2 := i_le c_2
    rw [q_0] at fc_2
    refine lv_iconst (v := 0) hx hb dX7_doesHold_16 (by decide) ?_
    have := q_0
    exact W.zret (ty := .boolean) (v := 0) hx hb hr (z_nar (Or.inl rfl)) (fun t ht hW => ⟨⟨_, wn_1, rfl, ⟨E.symm, (Or.inl rfl), hI_1, hk⟩, by beta_reduce; rw [ht]; exact hP⟩, hS.F ht⟩) hS.2.2 dX7_doesHold_17
  · have E := E.trans (if_neg c_2)
    have fc_2 := i_nle c_2
    rw [q_0] at fc_2
    refine lv_iconst (v := 1) hx hb dX7_doesHold_12 (by decide) ?_
    refine lv_goto (tgt := 17) hx hb dX7_doesHold_13 (by decide) ?_
    have := q_1
    exact W.zret (ty := .boolean) (v := 1) hx hb hr (z_nar (Or.inr rfl)) (fun t ht hW => ⟨⟨_, wn_1, rfl, ⟨E.symm, (Or.inr rfl), hI_1, hk⟩, by beta_reduce; rw [ht]; exact hP⟩, hS.F ht⟩) hS.2.2 dX7_doesHold_17
abbrev rmX7_slips : Room := { frames := 6, cells := 0, slots := 0, locals := 138 }
set_option maxHeartbeats 4000000 in
set_option maxRecDepth 100000 in
theorem kX7_slips (l : Launch) (D : va_G) (cI : ClassId) (ad : Nat → Nat) (w : Nat → Nat → Int32) (a1 : Int32) (a2 : Int32) (hd : RD ad) (hI : R7I w)  : Met l yX7_slips wsX7_slips rmX7_slips (va_Pc [Value.ref (ad 0), Value.int a1, Value.int a2] (fun U => va_P D vwCl (RM cI ad w) U.heap ∧ va_K D vwCl [(cI, .int)] U)) (va_Qi (fun r u => (r, u) = sX7_slips w a1 a2 ∧ R7I u) (fun u t => va_P D vwCl (RM cI ad u) t.heap) (RA ad)) 0 0 (RA ad) := by
  refine Met.ofW (cc := cX7_slips) (maxL := 4) (ret := (some .int)) (by decide) rfl ?_
  intro p e s m args below meth c s₁ B hml hv
  obtain ⟨rfl, hP, hK⟩ := hv
  have hx := B.exec
  have hb := B.bytes
  have hr := B.returns
  have hts := atoms_spec (ws := wsX7_slips) B.pre
  have hown : s.vm.findClass RX7 = some m.cls := findClass_of_methodNamed B.named
  have hlocks := B.notSynchronized
  have hin : ∀ q ∈ wsX70, q ∈ wsX7_slips := by decide +kernel
  have hl := lv_entry ([.ref (ad 0), .int a1, .int a2]) (n := 4) (Nat.le_of_ble_eq_true rfl)
  rw [lg_entry_eq]
  generalize (lg_sl ([.ref (ad 0), .int a1, .int a2]) ++ List.replicate (4 - (lg_sl ([.ref (ad 0), .int a1, .int a2])).length) Slot.unset).toArray = ls at hl ⊢
  have hl : lv_has ls 4 [(0, .ref (ad 0)), (1, .int a1), (2, .int a2)] := hl
  suffices hgo : ∀ (H : Heap) (locs : List Loc), va_P D vwCl (RM cI ad w) H → va_S (RA ad) s.heap H locs → W p l e (headSpec wsX7_slips rmX7_slips).room s m [Value.ref (ad 0), Value.int a1, Value.int a2].toArray below meth c H locs 0 0 (MQ below (va_Qi (fun r u => (r, u) = sX7_slips w a1 a2 ∧ R7I u) (fun u t => va_P D vwCl (RM cI ad u) t.heap) (RA ad)) [Value.ref (ad 0), Value.int a1, Value.int a2].toArray s 0 0 (RA ad)) (F0 m 0 ls []) from hgo s.heap [] hP va_S.rf
  intro H locs hP hS
  have E := sX7_slips.eq_1 w a1 a2
  refine lv_iload_n hx hb dX7_slips_0 rfl (lv_at hl 1 rfl) ?_
  refine vp_callSi (va_Run.run (va_runS (As := [.int a1]) (rest := []) ⟨hx, hb, hml, hown, hts⟩ (kX7_isWay l a1) (va_cwS 1 hts gX7_slips_X7_isWay rfl rfl rfl mdX7_isWay ⟨Nat.le_of_ble_eq_true rfl, Nat.le_of_ble_eq_true rfl⟩) s_pre rfl rfl hl.1 rfl (lv_room (Nat.le_of_ble_eq_true rfl)) dX7_slips_1 ⟨Nat.zero_le _, Nat.zero_le _⟩)) (fun r_1 hr_1 => ?_)
  obtain ⟨rfl, hz_1⟩ := hr_1
  refine lv_if_ne (tgt := 11) hx hb dX7_slips_4 (by decide) (fun c_2 => ?_) (fun c_2 => ?_)
  · have E := E.trans (if_neg c_2)
    have fc_2 := i_ne c_2
    rw [q_0] at fc_2
    have gc_2 := fX7_isWay c_2
    refine lv_iload_n hx hb dX7_slips_11 rfl (lv_at hl 2 rfl) ?_
    refine lv_iconst (v := 0) hx hb dX7_slips_12 (by decide) ?_
    refine lv_iconst (v := 1) hx hb dX7_slips_13 (by decide) ?_
    refine vp_callSi (va_Run.run (va_runS (As := [.int a2, .int 0, .int 1]) (rest := []) ⟨hx, hb, hml, hown, hts⟩ (kX7_isIn l a2 0 1) (va_cwS 3 hts gX7_slips_X7_isIn rfl rfl rfl mdX7_isIn ⟨Nat.le_of_ble_eq_true rfl, Nat.le_of_ble_eq_true rfl⟩) s_pre rfl rfl hl.1 rfl (lv_room (Nat.le_of_ble_eq_true rfl)) dX7_slips_14 ⟨Nat.zero_le _, Nat.zero_le _⟩)) (fun r_3 hr_3 => ?_)
    obtain ⟨rfl, hz_3⟩ := hr_3
    refine lv_if_ne (tgt := 25) hx hb dX7_slips_17 (by decide) (fun c_4 => ?_) (fun c_4 => ?_)
    · have E := E.trans (if_neg c_4)
      have fc_4 := i_ne c_4
      rw [q_0] at fc_4
      have gc_4 := fX7_isIn c_4
      have := q_0
      have := q_1
      refine lv_iconst (v := 0) hx hb dX7_slips_25 (by decide) ?_
      refine lv_istore_n (lv' := [(3, .int 0), (0, .ref (ad 0)), (1, .int a1), (2, .int a2)]) hx hb dX7_slips_26 rfl hl (by decide) rfl (fun ls hl => ?_)
      refine lv_iload_n hx hb dX7_slips_27 rfl (lv_at hl 0 rfl) ?_
      refine lv_if_eq (tgt := 37) hx hb dX7_slips_28 (by decide) (fun _ => ?_) (fun z => absurd z (by decide))
      refine lv_aload_n hx hb dX7_slips_37 rfl (lv_at hl 1 rfl) ?_
      refine lv_iload_n hx hb dX7_slips_38 rfl (lv_at hl 2 rfl) ?_
      refine va_callv (va_runV (As := [.int a1]) (rest := []) ⟨hx, hb, hml, hown, hts⟩ (kX7_findSlip l D cI ad w a1 hd hI (by omega) (by omega)) (cwV 1 hts gX7_slips_X7_findSlip rfl rfl rfl mdX7_findSlip ⟨Nat.le_of_ble_eq_true rfl, Nat.le_of_ble_eq_true rfl⟩) (r7_pre hK hP) rfl rfl hl.1 rfl (lv_room (Nat.le_of_ble_eq_true rfl)) dX7_slips_39 ⟨Nat.zero_le _, Nat.zero_le _⟩) hS (fun _ _ h => h) (fun _ h => h) (fun wn_5 t H locs ht hvm hp_5 hB hz hk hS => ?_)
      have hP : va_P D vwCl (RM cI ad wn_5) H := ht ▸ hB
      obtain ⟨hp_5, hI_5, hq0_5⟩ := hp_5
      have E := bns_e E hp_5
      refine lv_iload_n hx hb dX7_slips_42 rfl (lv_at hl 3 rfl) ?_
      refine lv_if_ne (tgt := 53) hx hb dX7_slips_43 (by decide) (fun c_6 => ?_) (fun c_6 => ?_)
      · have E := E.trans (if_neg c_6)
        have fc_6 := i_ne c_6
        rw [q_0] at fc_6
        refine lv_aload_n hx hb dX7_slips_53 rfl (lv_at hl 1 rfl) ?_
        refine g7_slipLayer hx hb hts hin hown hK hP (hts (.fieldLink RX7 208 "LoadedForTheLaneModel" "slipLayer" "I") (by decide +kernel)) dX7_slips_54 ?_
        exact W.iret (v := wn_5 24 0) hx hb hr (fun t ht hW => ⟨⟨_, wn_5, rfl, ⟨E.symm, hI_5⟩, by beta_reduce; rw [ht]; exact hP⟩, hS.F ht⟩) hS.2.2 dX7_slips_57
      · have E := E.trans (if_pos c_6)
        have fc_6 := i_eq c_6
        rw [q_0] at fc_6
        refine lv_aload_n hx hb dX7_slips_46 rfl (lv_at hl 1 rfl) ?_
        refine g7_slipPiece hx hb hts hin hown hK hP (hts (.fieldLink RX7 205 "LoadedForTheLaneModel" "slipPiece" "I") (by decide +kernel)) dX7_slips_47 ?_
        refine lv_goto (tgt := 57) hx hb dX7_slips_50 (by decide) ?_
        exact W.iret (v := wn_5 23 0) hx hb hr (fun t ht hW => ⟨⟨_, wn_5, rfl, ⟨E.symm, hI_5⟩, by beta_reduce; rw [ht]; exact hP⟩, hS.F ht⟩) hS.2.2 dX7_slips_57
    · have E := E.trans (if_pos c_4)
      have fc_4 := i_eq c_4
      rw [q_0] at fc_4
      refine lv_bipush (v := (-2)) hx hb dX7_slips_20 (by decide +kernel) ?_
      refine lv_goto (tgt := 26) hx hb dX7_slips_22 (by decide) ?_
      refine lv_istore_n (lv' := [(3, .int (-2)), (0, .ref (ad 0)), (1, .int a1), (2, .int a2)]) hx hb dX7_slips_26 rfl hl (by decide) rfl (fun ls hl => ?_)
      refine lv_iload_n hx hb dX7_slips_27 rfl (lv_at hl 0 rfl) ?_
      refine lv_if_eq (tgt := 37) hx hb dX7_slips_28 (by decide) (fun z => absurd z (by decide)) (fun _ => ?_)
      refine lv_aload_n hx hb dX7_slips_31 rfl (lv_at hl 1 rfl) ?_
      refine lv_iload_n hx hb dX7_slips_32 rfl (lv_at hl 0 rfl) ?_
      have := q_m2
      refine va_calli (va_runV (As := [.int (-2)]) (rest := []) ⟨hx, hb, hml, hown, hts⟩ (kX7_no l D cI ad w (-2) hd hI (by omega) (by omega)) (cwV 1 hts gX7_slips_X7_no rfl rfl rfl mdX7_no ⟨Nat.le_of_ble_eq_true rfl, Nat.le_of_ble_eq_true rfl⟩) (r7_pre hK hP) rfl rfl hl.1 rfl (lv_room (Nat.le_of_ble_eq_true rfl)) dX7_slips_33 ⟨Nat.zero_le _, Nat.zero_le _⟩) hS (fun _ _ h => h) (fun _ h => h) (fun rn_7 wn_7 t H locs ht hvm hp_7 hB hz hk hS => ?_)
      have hP : va_P D vwCl (RM cI ad wn_7) H := ht ▸ hB
      obtain ⟨hp_7, hI_7⟩ := hp_7
      have E := bnd_e E hp_7
      exact W.iret (v := rn_7) hx hb hr (fun t ht hW => ⟨⟨_, wn_7, rfl, ⟨E.symm, hI_7⟩, by beta_reduce; rw [ht]; exact hP⟩, hS.F ht⟩) hS.2.2 dX7_slips_36
  · have E := E.trans (if_pos c_2)
    have fc_2 := i_eq c_2
    rw [q_0] at fc_2
    refine lv_iconst (v := (-1)) hx hb dX7_slips_7 (by decide) ?_
    refine lv_goto (tgt := 26) hx hb dX7_slips_8 (by decide) ?_
    refine lv_istore_n (lv' := [(3, .int (-1)), (0, .ref (ad 0)), (1, .int a1), (2, .int a2)]) hx hb dX7_slips_26 rfl hl (by decide) rfl (fun ls hl => ?_)
    refine lv_iload_n hx hb dX7_slips_27 rfl (lv_at hl 0 rfl) ?_
    refine lv_if_eq (tgt := 37) hx hb dX7_slips_28 (by decide) (fun z => absurd z (by decide)) (fun _ => ?_)
    refine lv_aload_n hx hb dX7_slips_31 rfl (lv_at hl 1 rfl) ?_
    refine lv_iload_n hx hb dX7_slips_32 rfl (lv_at hl 0 rfl) ?_
    have := q_m1
    refine va_calli (va_runV (As := [.int (-1)]) (rest := []) ⟨hx, hb, hml, hown, hts⟩ (kX7_no l D cI ad w (-1) hd hI (by omega) (by omega)) (cwV 1 hts gX7_slips_X7_no rfl rfl rfl mdX7_no ⟨Nat.le_of_ble_eq_true rfl, Nat.le_of_ble_eq_true rfl⟩) (r7_pre hK hP) rfl rfl hl.1 rfl (lv_room (Nat.le_of_ble_eq_true rfl)) dX7_slips_33 ⟨Nat.zero_le _, Nat.zero_le _⟩) hS (fun _ _ h => h) (fun _ h => h) (fun rn_8 wn_8 t H locs ht hvm hp_8 hB hz hk hS => ?_)
    have hP : va_P D vwCl (RM cI ad wn_8) H := ht ▸ hB
    obtain ⟨hp_8, hI_8⟩ := hp_8
    have E := bnd_e E hp_8
    exact W.iret (v := rn_8) hx hb hr (fun t ht hW => ⟨⟨_, wn_8, rfl, ⟨E.symm, hI_8⟩, by beta_reduce; rw [ht]; exact hP⟩, hS.F ht⟩) hS.2.2 dX7_slips_36
abbrev rmX7_margin : Room := { frames := 5, cells := 0, slots := 0, locals := 116 }
set_option maxHeartbeats 4000000 in
set_option maxRecDepth 100000 in
theorem kX7_margin (l : Launch) (D : va_G) (cI : ClassId) (ad : Nat → Nat) (w : Nat → Nat → Int32) (a1 : Int32) (hd : RD ad) (hI : R7I w)  : Met l yX7_margin wsX7_margin rmX7_margin (va_Pc [Value.ref (ad 0), Value.int a1] (fun U => va_P D vwCl (RM cI ad w) U.heap ∧ va_K D vwCl [(cI, .int)] U)) (va_Qi (fun r u => (r, u) = sX7_margin w a1) (fun u t => va_P D vwCl (RM cI ad u) t.heap) (RA ad)) 0 0 (RA ad) := by
  refine Met.ofW (cc := cX7_margin) (maxL := 2) (ret := (some .int)) (by decide) rfl ?_
  intro p e s m args below meth c s₁ B hml hv
  obtain ⟨rfl, hP, hK⟩ := hv
  have hx := B.exec
  have hb := B.bytes
  have hr := B.returns
  have hts := atoms_spec (ws := wsX7_margin) B.pre
  have hown : s.vm.findClass RX7 = some m.cls := findClass_of_methodNamed B.named
  have hlocks := B.notSynchronized
  have hin : ∀ q ∈ wsX70, q ∈ wsX7_margin := by decide +kernel
  have hl := lv_entry ([.ref (ad 0), .int a1]) (n := 2) (Nat.le_of_ble_eq_true rfl)
  rw [lg_entry_eq]
  generalize (lg_sl ([.ref (ad 0), .int a1]) ++ List.replicate (2 - (lg_sl ([.ref (ad 0), .int a1])).length) Slot.unset).toArray = ls at hl ⊢
  have hl : lv_has ls 2 [(0, .ref (ad 0)), (1, .int a1)] := hl
  suffices hgo : ∀ (H : Heap) (locs : List Loc), va_P D vwCl (RM cI ad w) H → va_S (RA ad) s.heap H locs → W p l e (headSpec wsX7_margin rmX7_margin).room s m [Value.ref (ad 0), Value.int a1].toArray below meth c H locs 0 0 (MQ below (va_Qi (fun r u => (r, u) = sX7_margin w a1) (fun u t => va_P D vwCl (RM cI ad u) t.heap) (RA ad)) [Value.ref (ad 0), Value.int a1].toArray s 0 0 (RA ad)) (F0 m 0 ls []) from hgo s.heap [] hP va_S.rf
  intro H locs hP hS
  have E := sX7_margin.eq_1 w a1
  refine lv_iload_n hx hb dX7_margin_0 rfl (lv_at hl 1 rfl) ?_
  refine vp_callSi (va_Run.run (va_runS (As := [.int a1]) (rest := []) ⟨hx, hb, hml, hown, hts⟩ (kX7_isWay l a1) (va_cwS 1 hts gX7_margin_X7_isWay rfl rfl rfl mdX7_isWay ⟨Nat.le_of_ble_eq_true rfl, Nat.le_of_ble_eq_true rfl⟩) s_pre rfl rfl hl.1 rfl (lv_room (Nat.le_of_ble_eq_true rfl)) dX7_margin_1 ⟨Nat.zero_le _, Nat.zero_le _⟩)) (fun r_1 hr_1 => ?_)
  obtain ⟨rfl, hz_1⟩ := hr_1
  refine lv_if_eq (tgt := 15) hx hb dX7_margin_4 (by decide) (fun c_2 => ?_) (fun c_2 => ?_)
  · have E := E.trans (if_pos c_2)
    have fc_2 := i_eq c_2
    rw [q_0] at fc_2
    refine lv_aload_n hx hb dX7_margin_15 rfl (lv_at hl 0 rfl) ?_
    refine lv_iconst (v := (-1)) hx hb dX7_margin_16 (by decide) ?_
    have := q_m1
    refine va_calli (va_runV (As := [.int (-1)]) (rest := []) ⟨hx, hb, hml, hown, hts⟩ (kX7_lower l D cI ad w (-1) hd hI (by omega) (by omega)) (cwV 1 hts gX7_margin_X7_lower rfl rfl rfl mdX7_lower ⟨Nat.le_of_ble_eq_true rfl, Nat.le_of_ble_eq_true rfl⟩) (r7_pre hK hP) rfl rfl hl.1 rfl (lv_room (Nat.le_of_ble_eq_true rfl)) dX7_margin_17 ⟨Nat.zero_le _, Nat.zero_le _⟩) hS (fun _ _ h => h) (fun _ h => h) (fun rn_3 wn_3 t H locs ht hvm hp_3 hB hz hk hS => ?_)
    have hP : va_P D vwCl (RM cI ad wn_3) H := ht ▸ hB
    obtain ⟨hp_3, hI_3⟩ := hp_3
    have E := bnd_e E hp_3
    exact W.iret (v := rn_3) hx hb hr (fun t ht hW => ⟨⟨_, wn_3, rfl, E.symm, by beta_reduce; rw [ht]; exact hP⟩, hS.F ht⟩) hS.2.2 dX7_margin_20
  · have E := E.trans (if_neg c_2)
    have fc_2 := i_ne c_2
    rw [q_0] at fc_2
    have gc_2 := fX7_isWay c_2
    refine lv_aload_n hx hb dX7_margin_7 rfl (lv_at hl 0 rfl) ?_
    refine lv_iload_n hx hb dX7_margin_8 rfl (lv_at hl 1 rfl) ?_
    refine vp_callSi (va_Run.run (va_runV (As := [.int a1]) (rest := []) ⟨hx, hb, hml, hown, hts⟩ (kX7_marginOf l D cI ad w a1 hI (by omega) (by omega)) (cwV 1 hts gX7_margin_X7_marginOf rfl rfl rfl mdX7_marginOf ⟨Nat.le_of_ble_eq_true rfl, Nat.le_of_ble_eq_true rfl⟩) (r7_pre hK hP) rfl rfl hl.1 rfl (lv_room (Nat.le_of_ble_eq_true rfl)) dX7_margin_9 ⟨Nat.zero_le _, Nat.zero_le _⟩)) (fun r_4 hr_4 => ?_)
    subst hr_4
    refine lv_goto (tgt := 20) hx hb dX7_margin_12 (by decide) ?_
    exact W.iret (v := (sX7_marginOf w a1)) hx hb hr (fun t ht hW => ⟨⟨_, w, rfl, E.symm, by beta_reduce; rw [ht]; exact hP⟩, hS.F ht⟩) hS.2.2 dX7_margin_20
abbrev rmX7_high : Room := { frames := 7, cells := 0, slots := 0, locals := 159 }
set_option maxHeartbeats 4000000 in
set_option maxRecDepth 100000 in
theorem kX7_high (l : Launch) (D : va_G) (cI : ClassId) (ad : Nat → Nat) (w : Nat → Nat → Int32) (a1 : Int32) (hd : RD ad) (hI : R7I w) (h1 : (w 11 0).toInt ≤ 11) : Met l yX7_high wsX7_high rmX7_high (va_Pc [Value.ref (ad 0), Value.int a1] (fun U => va_P D vwCl (RM cI ad w) U.heap ∧ va_K D vwCl [(cI, .int)] U)) (va_Qi (fun r u => (r, u) = sX7_high w a1 ∧ R7I u) (fun u t => va_P D vwCl (RM cI ad u) t.heap) (RA ad)) 0 0 (RA ad) := by
  refine Met.ofW (cc := cX7_high) (maxL := 4) (ret := (some .int)) (by decide) rfl ?_
  intro p e s m args below meth c s₁ B hml hv
  obtain ⟨rfl, hP, hK⟩ := hv
  have hx := B.exec
  have hb := B.bytes
  have hr := B.returns
  have hts := atoms_spec (ws := wsX7_high) B.pre
  have hown : s.vm.findClass RX7 = some m.cls := findClass_of_methodNamed B.named
  have hlocks := B.notSynchronized
  have hin : ∀ q ∈ wsX70, q ∈ wsX7_high := by decide +kernel
  have hl := lv_entry ([.ref (ad 0), .int a1]) (n := 4) (Nat.le_of_ble_eq_true rfl)
  rw [lg_entry_eq]
  generalize (lg_sl ([.ref (ad 0), .int a1]) ++ List.replicate (4 - (lg_sl ([.ref (ad 0), .int a1])).length) Slot.unset).toArray = ls at hl ⊢
  have hl : lv_has ls 4 [(0, .ref (ad 0)), (1, .int a1)] := hl
  suffices hgo : ∀ (H : Heap) (locs : List Loc), va_P D vwCl (RM cI ad w) H → va_S (RA ad) s.heap H locs → W p l e (headSpec wsX7_high rmX7_high).room s m [Value.ref (ad 0), Value.int a1].toArray below meth c H locs 0 0 (MQ below (va_Qi (fun r u => (r, u) = sX7_high w a1 ∧ R7I u) (fun u t => va_P D vwCl (RM cI ad u) t.heap) (RA ad)) [Value.ref (ad 0), Value.int a1].toArray s 0 0 (RA ad)) (F0 m 0 ls []) from hgo s.heap [] hP va_S.rf
  intro H locs hP hS
  have E := sX7_high.eq_1 w a1
  refine lv_iload_n hx hb dX7_high_0 rfl (lv_at hl 1 rfl) ?_
  refine vp_callSi (va_Run.run (va_runS (As := [.int a1]) (rest := []) ⟨hx, hb, hml, hown, hts⟩ (kX7_isWay l a1) (va_cwS 1 hts gX7_high_X7_isWay rfl rfl rfl mdX7_isWay ⟨Nat.le_of_ble_eq_true rfl, Nat.le_of_ble_eq_true rfl⟩) s_pre rfl rfl hl.1 rfl (lv_room (Nat.le_of_ble_eq_true rfl)) dX7_high_1 ⟨Nat.zero_le _, Nat.zero_le _⟩)) (fun r_1 hr_1 => ?_)
  obtain ⟨rfl, hz_1⟩ := hr_1
  refine lv_if_ne (tgt := 13) hx hb dX7_high_4 (by decide) (fun c_2 => ?_) (fun c_2 => ?_)
  · have E := E.trans (if_neg c_2)
    have fc_2 := i_ne c_2
    rw [q_0] at fc_2
    have gc_2 := fX7_isWay c_2
    refine lv_aload_n hx hb dX7_high_13 rfl (lv_at hl 0 rfl) ?_
    refine g7_layers hx hb hts hin hown hK hP (hts (.fieldLink RX7 67 "LoadedForTheLaneModel" "layers" "I") (by decide +kernel)) dX7_high_14 ?_
    have f_3 := R7I_layers hI
    refine lv_istore_n (lv' := [(2, .int (w 11 0)), (0, .ref (ad 0)), (1, .int a1)]) hx hb dX7_high_17 rfl hl (by decide) rfl (fun ls hl => ?_)
    refine lv_iconst (v := 0) hx hb dX7_high_18 (by decide) ?_
    refine lv_istore_n (lv' := [(3, .int 0), (2, .int (w 11 0)), (0, .ref (ad 0)), (1, .int a1)]) hx hb dX7_high_19 rfl hl (by decide) rfl (fun ls hl => ?_)
    refine lv_aload_n hx hb dX7_high_20 rfl (lv_at hl 2 rfl) ?_
    refine lv_iconst (v := 1) hx hb dX7_high_21 (by decide) ?_
    refine p7_layers hx hb hts hin hown hK hP hd hS (hts (.fieldLink RX7 67 "LoadedForTheLaneModel" "layers" "I") (by decide +kernel)) dX7_high_22 (fun H locs hP hS => ?_)
    obtain ⟨wn_4, hwn_4⟩ : ∃ x, x = st w 11 0 1 := ⟨_, rfl⟩
    rw [← hwn_4] at hP
    have E := bns_e E hwn_4
    have ft4_layers : (wn_4 11 0).toInt = (1).toInt := by rw [hwn_4]; rfl
    have := q_1
    have := q_1
    have hI_4 : R7I wn_4 := by rw [hwn_4]; exact R7I_put_layers hI (by omega) (by omega)
    have L_25 : ∀ (n_25 : Nat) (x3_25 : Int32) (w_25 : Nat → Nat → Int32) (H : Heap) (locs : List Loc) (ls : Array Slot), (1 ≤ (w_25 11 0).toInt ∧ (w_25 11 0).toInt ≤ 12 ∧ (w_25 11 0).toInt ≤ (w 11 0).toInt + 1) → (13 - (w_25 11 0).toInt < (n_25 : Int)) → R7I w_25 → va_P D vwCl (RM cI ad w_25) H → va_S (RA ad) s.heap H locs → lv_has ls 4 [(3, .int x3_25), (2, .int (w 11 0)), (0, .ref (ad 0)), (1, .int a1)] → sX7_high w a1 = sX7_high_25 w a1 n_25 x3_25 w_25 → W p l e (headSpec wsX7_high rmX7_high).room s m [Value.ref (ad 0), Value.int a1].toArray below meth c H locs 0 0 (MQ below (va_Qi (fun r u => (r, u) = sX7_high w a1 ∧ R7I u) (fun u t => va_P D vwCl (RM cI ad u) t.heap) (RA ad)) [Value.ref (ad 0), Value.int a1].toArray s 0 0 (RA ad)) (F0 m 25 ls []) := by
      intro n_25
      induction n_25 with
      | zero =>
        intro x3_25 w_25 H locs ls hinv hm
        obtain ⟨v0_25, v1_25, v2_25⟩ := hinv
        exact absurd hm (by omega)
      | succ n_25 ih_25 =>
        intro x3_25 w_25 H locs ls hinv hm_25 hI_25 hP hS hl E
        obtain ⟨v0_25, v1_25, v2_25⟩ := hinv
        have E := E.trans (sX7_high_25.eq_2 ..)
        refine lv_aload_n hx hb dX7_high_25 rfl (lv_at hl 2 rfl) ?_
        refine g7_layers hx hb hts hin hown hK hP (hts (.fieldLink RX7 67 "LoadedForTheLaneModel" "layers" "I") (by decide +kernel)) dX7_high_26 ?_
        have f_5 := R7I_layers hI_25
        refine lv_iload_n hx hb dX7_high_29 rfl (lv_at hl 1 rfl) ?_
        refine lv_icmp_gt (tgt := 63) hx hb dX7_high_30 (by decide) (fun c_6 => ?_) (fun c_6 => ?_)
        · have E := E.trans (if_pos c_6)
          have fc_6 := i_lt c_6
          refine lv_aload_n hx hb dX7_high_63 rfl (lv_at hl 2 rfl) ?_
          refine lv_iload_n hx hb dX7_high_64 rfl (lv_at hl 1 rfl) ?_
          refine p7_layers hx hb hts hin hown hK hP hd hS (hts (.fieldLink RX7 67 "LoadedForTheLaneModel" "layers" "I") (by decide +kernel)) dX7_high_65 (fun H locs hP hS => ?_)
          obtain ⟨wn_7, hwn_7⟩ : ∃ x, x = st w_25 11 0 (w 11 0) := ⟨_, rfl⟩
          rw [← hwn_7] at hP
          have E := bns_e E hwn_7
          have ft7_layers : (wn_7 11 0).toInt = (w 11 0).toInt := by rw [hwn_7]; rfl
          have hI_7 : R7I wn_7 := by rw [hwn_7]; exact R7I_put_layers hI_25 (by omega) (by omega)
          refine lv_iload_n hx hb dX7_high_68 rfl (lv_at hl 0 rfl) ?_
          exact W.iret (v := x3_25) hx hb hr (fun t ht hW => ⟨⟨_, wn_7, rfl, ⟨E.symm, hI_7⟩, by beta_reduce; rw [ht]; exact hP⟩, hS.F ht⟩) hS.2.2 dX7_high_69
        · have E := E.trans (if_neg c_6)
          have fc_6 := i_nlt c_6
          refine lv_aload_n hx hb dX7_high_33 rfl (lv_at hl 2 rfl) ?_
          refine lv_iload_n hx hb dX7_high_34 rfl (lv_at hl 3 rfl) ?_
          refine va_calli (va_runV (As := [.int a1]) (rest := []) ⟨hx, hb, hml, hown, hts⟩ (kX7_doesHold l D cI ad w_25 a1 hd hI_25 (by omega) (by omega)) (cwV 1 hts gX7_high_X7_doesHold rfl rfl rfl mdX7_doesHold ⟨Nat.le_of_ble_eq_true rfl, Nat.le_of_ble_eq_true rfl⟩) (r7_pre hK hP) rfl rfl hl.1 rfl (lv_room (Nat.le_of_ble_eq_true rfl)) dX7_high_35 ⟨Nat.zero_le _, Nat.zero_le _⟩) hS (fun _ _ h => h) (fun _ h => h) (fun rn_8 wn_8 t H locs ht hvm hp_8 hB hz hk hS => ?_)
          have hP : va_P D vwCl (RM cI ad wn_8) H := ht ▸ hB
          obtain ⟨hp_8, hz_8, hI_8, hq0_8⟩ := hp_8
          have E := bnd_e E hp_8
          have hzi_8 := z_int hz_8
          have ft8_layers : (wn_8 11 0).toInt = (w_25 11 0).toInt := by rw [hq0_8 11 (by decide) (by decide)]
          refine lv_if_eq (tgt := 48) hx hb dX7_high_38 (by decide) (fun c_9 => ?_) (fun c_9 => ?_)
          · have E := E.trans (if_pos c_9)
            have fc_9 := i_eq c_9
            rw [q_0] at fc_9
            refine lv_iload_n hx hb dX7_high_48 rfl (lv_at hl 0 rfl) ?_
            refine lv_istore_n (lv' := [(3, .int x3_25), (2, .int (w 11 0)), (0, .ref (ad 0)), (1, .int a1)]) hx hb dX7_high_49 rfl hl (by decide) rfl (fun ls hl => ?_)
            refine lv_aload_n hx hb dX7_high_50 rfl (lv_at hl 2 rfl) ?_
            refine lv_dup hx hb dX7_high_51 rfl ?_
            refine g7_layers hx hb hts hin hown hK hP (hts (.fieldLink RX7 67 "LoadedForTheLaneModel" "layers" "I") (by decide +kernel)) dX7_high_52 ?_
            have f_10 := R7I_layers hI_8
            refine lv_iconst (v := 1) hx hb dX7_high_55 (by decide) ?_
            refine lv_iadd hx hb dX7_high_56 ?_
            refine p7_layers hx hb hts hin hown hK hP hd hS (hts (.fieldLink RX7 67 "LoadedForTheLaneModel" "layers" "I") (by decide +kernel)) dX7_high_57 (fun H locs hP hS => ?_)
            obtain ⟨wn_11, hwn_11⟩ : ∃ x, x = st wn_8 11 0 ((wn_8 11 0) + 1) := ⟨_, rfl⟩
            rw [← hwn_11] at hP
            have E := bns_e E hwn_11
            have ft11_layers : (wn_11 11 0).toInt = ((wn_8 11 0) + 1).toInt := by rw [hwn_11]; rfl
            have := q_1
            have := i_add (a := wn_8 11 0) (b := 1) (by omega) (by omega)
            have := q_1
            have := i_add (a := wn_8 11 0) (b := 1) (by omega) (by omega)
            have hI_11 : R7I wn_11 := by rw [hwn_11]; exact R7I_put_layers hI_8 (by omega) (by omega)
            refine lv_goto (tgt := 25) hx hb dX7_high_60 (by decide) ?_
            exact ih_25 x3_25 wn_11 H locs ls ⟨by omega, by omega, by omega⟩ (by omega) hI_11 hP hS (lv_sub hl [0, 1, 2, 3] rfl) E
          · have E := E.trans (if_neg c_9)
            have fc_9 := i_ne c_9
            rw [q_0] at fc_9
            refine lv_aload_n hx hb dX7_high_41 rfl (lv_at hl 2 rfl) ?_
            refine g7_layers hx hb hts hin hown hK hP (hts (.fieldLink RX7 67 "LoadedForTheLaneModel" "layers" "I") (by decide +kernel)) dX7_high_42 ?_
            have f_12 := R7I_layers hI_8
            refine lv_goto (tgt := 49) hx hb dX7_high_45 (by decide) ?_
            refine lv_istore_n (lv' := [(3, .int (wn_8 11 0)), (2, .int (w 11 0)), (0, .ref (ad 0)), (1, .int a1)]) hx hb dX7_high_49 rfl hl (by decide) rfl (fun ls hl => ?_)
            refine lv_aload_n hx hb dX7_high_50 rfl (lv_at hl 2 rfl) ?_
            refine lv_dup hx hb dX7_high_51 rfl ?_
            refine g7_layers hx hb hts hin hown hK hP (hts (.fieldLink RX7 67 "LoadedForTheLaneModel" "layers" "I") (by decide +kernel)) dX7_high_52 ?_
            have f_13 := R7I_layers hI_8
            refine lv_iconst (v := 1) hx hb dX7_high_55 (by decide) ?_
            refine lv_iadd hx hb dX7_high_56 ?_
            refine p7_layers hx hb hts hin hown hK hP hd hS (hts (.fieldLink RX7 67 "LoadedForTheLaneModel" "layers" "I") (by decide +kernel)) dX7_high_57 (fun H locs hP hS => ?_)
            obtain ⟨wn_14, hwn_14⟩ : ∃ x, x = st wn_8 11 0 ((wn_8 11 0) + 1) := ⟨_, rfl⟩
            rw [← hwn_14] at hP
            have E := bns_e E hwn_14
            have ft14_layers : (wn_14 11 0).toInt = ((wn_8 11 0) + 1).toInt := by rw [hwn_14]; rfl
            have := q_1
            have := i_add (a := wn_8 11 0) (b := 1) (by omega) (by omega)
            have := q_1
            have := i_add (a := wn_8 11 0) (b := 1) (by omega) (by omega)
            have hI_14 : R7I wn_14 := by rw [hwn_14]; exact R7I_put_layers hI_8 (by omega) (by omega)
            refine lv_goto (tgt := 25) hx hb dX7_high_60 (by decide) ?_
            exact ih_25 (wn_8 11 0) wn_14 H locs ls ⟨by omega, by omega, by omega⟩ (by omega) hI_14 hP hS (lv_sub hl [0, 1, 2, 3] rfl) E
    have := q_0
    exact L_25 13 0 wn_4 H locs ls ⟨by omega, by omega, by omega⟩ (by omega) hI_4 hP hS (lv_sub hl [0, 1, 2, 3] rfl) E
  · have E := E.trans (if_pos c_2)
    have fc_2 := i_eq c_2
    rw [q_0] at fc_2
    refine lv_aload_n hx hb dX7_high_7 rfl (lv_at hl 0 rfl) ?_
    refine lv_iconst (v := (-1)) hx hb dX7_high_8 (by decide) ?_
    have := q_m1
    refine va_calli (va_runV (As := [.int (-1)]) (rest := []) ⟨hx, hb, hml, hown, hts⟩ (kX7_no l D cI ad w (-1) hd hI (by omega) (by omega)) (cwV 1 hts gX7_high_X7_no rfl rfl rfl mdX7_no ⟨Nat.le_of_ble_eq_true rfl, Nat.le_of_ble_eq_true rfl⟩) (r7_pre hK hP) rfl rfl hl.1 rfl (lv_room (Nat.le_of_ble_eq_true rfl)) dX7_high_9 ⟨Nat.zero_le _, Nat.zero_le _⟩) hS (fun _ _ h => h) (fun _ h => h) (fun rn_15 wn_15 t H locs ht hvm hp_15 hB hz hk hS => ?_)
    have hP : va_P D vwCl (RM cI ad wn_15) H := ht ▸ hB
    obtain ⟨hp_15, hI_15⟩ := hp_15
    have E := bnd_e E hp_15
    exact W.iret (v := rn_15) hx hb hr (fun t ht hW => ⟨⟨_, wn_15, rfl, ⟨E.symm, hI_15⟩, by beta_reduce; rw [ht]; exact hP⟩, hS.F ht⟩) hS.2.2 dX7_high_12
abbrev rmX7_more : Room := { frames := 7, cells := 0, slots := 0, locals := 159 }
set_option maxHeartbeats 4000000 in
set_option maxRecDepth 100000 in
theorem kX7_more (l : Launch) (D : va_G) (cI : ClassId) (ad : Nat → Nat) (w : Nat → Nat → Int32) (a1 : Int32) (hd : RD ad) (hI : R7I w) (h1 : (w 11 0).toInt ≤ 11) : Met l yX7_more wsX7_more rmX7_more (va_Pc [Value.ref (ad 0), Value.int a1] (fun U => va_P D vwCl (RM cI ad w) U.heap ∧ va_K D vwCl [(cI, .int)] U)) (va_Qi (fun r u => (r, u) = sX7_more w a1 ∧ R7I u) (fun u t => va_P D vwCl (RM cI ad u) t.heap) (RA ad)) 0 0 (RA ad) := by
  refine Met.ofW (cc := cX7_more) (maxL := 4) (ret := (some .int)) (by decide) rfl ?_
  intro p e s m args below meth c s₁ B hml hv
  obtain ⟨rfl, hP, hK⟩ := hv
  have hx := B.exec
  have hb := B.bytes
  have hr := B.returns
  have hts := atoms_spec (ws := wsX7_more) B.pre
  have hown : s.vm.findClass RX7 = some m.cls := findClass_of_methodNamed B.named
  have hlocks := B.notSynchronized
  have hin : ∀ q ∈ wsX70, q ∈ wsX7_more := by decide +kernel
  have hl := lv_entry ([.ref (ad 0), .int a1]) (n := 4) (Nat.le_of_ble_eq_true rfl)
  rw [lg_entry_eq]
  generalize (lg_sl ([.ref (ad 0), .int a1]) ++ List.replicate (4 - (lg_sl ([.ref (ad 0), .int a1])).length) Slot.unset).toArray = ls at hl ⊢
  have hl : lv_has ls 4 [(0, .ref (ad 0)), (1, .int a1)] := hl
  suffices hgo : ∀ (H : Heap) (locs : List Loc), va_P D vwCl (RM cI ad w) H → va_S (RA ad) s.heap H locs → W p l e (headSpec wsX7_more rmX7_more).room s m [Value.ref (ad 0), Value.int a1].toArray below meth c H locs 0 0 (MQ below (va_Qi (fun r u => (r, u) = sX7_more w a1 ∧ R7I u) (fun u t => va_P D vwCl (RM cI ad u) t.heap) (RA ad)) [Value.ref (ad 0), Value.int a1].toArray s 0 0 (RA ad)) (F0 m 0 ls []) from hgo s.heap [] hP va_S.rf
  intro H locs hP hS
  have E := sX7_more.eq_1 w a1
  refine lv_iload_n hx hb dX7_more_0 rfl (lv_at hl 1 rfl) ?_
  refine vp_callSi (va_Run.run (va_runS (As := [.int a1]) (rest := []) ⟨hx, hb, hml, hown, hts⟩ (kX7_isWay l a1) (va_cwS 1 hts gX7_more_X7_isWay rfl rfl rfl mdX7_isWay ⟨Nat.le_of_ble_eq_true rfl, Nat.le_of_ble_eq_true rfl⟩) s_pre rfl rfl hl.1 rfl (lv_room (Nat.le_of_ble_eq_true rfl)) dX7_more_1 ⟨Nat.zero_le _, Nat.zero_le _⟩)) (fun r_1 hr_1 => ?_)
  obtain ⟨rfl, hz_1⟩ := hr_1
  refine lv_if_ne (tgt := 11) hx hb dX7_more_4 (by decide) (fun c_2 => ?_) (fun c_2 => ?_)
  · have E := E.trans (if_neg c_2)
    have fc_2 := i_ne c_2
    rw [q_0] at fc_2
    have gc_2 := fX7_isWay c_2
    refine lv_aload_n hx hb dX7_more_11 rfl (lv_at hl 0 rfl) ?_
    refine g7_layers hx hb hts hin hown hK hP (hts (.fieldLink RX7 67 "LoadedForTheLaneModel" "layers" "I") (by decide +kernel)) dX7_more_12 ?_
    have f_3 := R7I_layers hI
    refine lv_if_ne (tgt := 23) hx hb dX7_more_15 (by decide) (fun c_4 => ?_) (fun c_4 => ?_)
    · have E := E.trans (if_neg c_4)
      have fc_4 := i_ne c_4
      rw [q_0] at fc_4
      refine lv_iconst (v := 0) hx hb dX7_more_23 (by decide) ?_
      refine lv_istore_n (lv' := [(2, .int 0), (0, .ref (ad 0)), (1, .int a1)]) hx hb dX7_more_24 rfl hl (by decide) rfl (fun ls hl => ?_)
      refine lv_iload_n hx hb dX7_more_25 rfl (lv_at hl 0 rfl) ?_
      refine lv_if_eq (tgt := 35) hx hb dX7_more_26 (by decide) (fun _ => ?_) (fun z => absurd z (by decide))
      refine lv_aload_n hx hb dX7_more_35 rfl (lv_at hl 1 rfl) ?_
      refine g7_kind hx hb hts hin hown hK hP (hts (.fieldLink RX7 16 "LoadedForTheLaneModel" "kind" "[I") (by decide +kernel)) dX7_more_36 ?_
      refine lv_aload_n hx hb dX7_more_39 rfl (lv_at hl 1 rfl) ?_
      refine g7_layers hx hb hts hin hown hK hP (hts (.fieldLink RX7 67 "LoadedForTheLaneModel" "layers" "I") (by decide +kernel)) dX7_more_40 ?_
      have f_5 := R7I_layers hI
      refine lv_aload_n hx hb dX7_more_43 rfl (lv_at hl 1 rfl) ?_
      refine g7_kind hx hb hts hin hown hK hP (hts (.fieldLink RX7 16 "LoadedForTheLaneModel" "kind" "[I") (by decide +kernel)) dX7_more_44 ?_
      refine lv_aload_n hx hb dX7_more_47 rfl (lv_at hl 1 rfl) ?_
      refine g7_layers hx hb hts hin hown hK hP (hts (.fieldLink RX7 67 "LoadedForTheLaneModel" "layers" "I") (by decide +kernel)) dX7_more_48 ?_
      have f_6 := R7I_layers hI
      refine lv_iconst (v := 1) hx hb dX7_more_51 (by decide) ?_
      refine lv_isub hx hb dX7_more_52 ?_
      have := q_1
      have := i_sub (a := w 11 0) (b := 1) (by omega) (by omega)
      have ix_7 : vp_in ((w 11 0) - 1) 12 := ix_of (by omega) (by omega)
      refine l7_kind (j := ((w 11 0) - 1).toNatClampNeg) hx hb hK hP ix_7 rfl dX7_more_53 ?_
      have ix_8 : vp_in (w 11 0) 12 := ix_of (by omega) (by omega)
      refine a7_kind (j := (w 11 0).toNatClampNeg) hx hb hK hP hd hS ix_8 rfl dX7_more_54 (fun H locs hP hS => ?_)
      obtain ⟨wn_8, hwn_8⟩ : ∃ x, x = st w 2 ((w 11 0).toNatClampNeg) (w 2 (((w 11 0) - 1).toNatClampNeg)) := ⟨_, rfl⟩
      rw [← hwn_8] at hP
      have E := bns_e E hwn_8
      have ft8_layers : (wn_8 11 0).toInt = (w 11 0).toInt := by rw [hwn_8]; rfl
      have fv_8 : (wn_8 2 ((w 11 0).toNatClampNeg)).toInt = (w 2 (((w 11 0) - 1).toNatClampNeg)).toInt := by rw [hwn_8, st_rd]
      have hI_8 : R7I wn_8 := by rw [hwn_8]; exact R7I_put_kind hI
      refine lv_aload_n hx hb dX7_more_55 rfl (lv_at hl 1 rfl) ?_
      refine g7_sheaves hx hb hts hin hown hK hP (hts (.fieldLink RX7 19 "LoadedForTheLaneModel" "sheaves" "[I") (by decide +kernel)) dX7_more_56 ?_
      refine lv_aload_n hx hb dX7_more_59 rfl (lv_at hl 1 rfl) ?_
      refine g7_layers hx hb hts hin hown hK hP (hts (.fieldLink RX7 67 "LoadedForTheLaneModel" "layers" "I") (by decide +kernel)) dX7_more_60 ?_
      have f_9 := R7I_layers hI_8
      refine lv_aload_n hx hb dX7_more_63 rfl (lv_at hl 1 rfl) ?_
      refine g7_sheaves hx hb hts hin hown hK hP (hts (.fieldLink RX7 19 "LoadedForTheLaneModel" "sheaves" "[I") (by decide +kernel)) dX7_more_64 ?_
      refine lv_aload_n hx hb dX7_more_67 rfl (lv_at hl 1 rfl) ?_
      refine g7_layers hx hb hts hin hown hK hP (hts (.fieldLink RX7 67 "LoadedForTheLaneModel" "layers" "I") (by decide +kernel)) dX7_more_68 ?_
      have f_10 := R7I_layers hI_8
      refine lv_iconst (v := 1) hx hb dX7_more_71 (by decide) ?_
      refine lv_isub hx hb dX7_more_72 ?_
      have := q_1
      have := i_sub (a := wn_8 11 0) (b := 1) (by omega) (by omega)
      have ix_11 : vp_in ((wn_8 11 0) - 1) 12 := ix_of (by omega) (by omega)
      refine l7_sheaves (j := ((wn_8 11 0) - 1).toNatClampNeg) hx hb hK hP ix_11 rfl dX7_more_73 ?_
      have ix_12 : vp_in (wn_8 11 0) 12 := ix_of (by omega) (by omega)
      refine a7_sheaves (j := (wn_8 11 0).toNatClampNeg) hx hb hK hP hd hS ix_12 rfl dX7_more_74 (fun H locs hP hS => ?_)
      obtain ⟨wn_12, hwn_12⟩ : ∃ x, x = st wn_8 3 ((wn_8 11 0).toNatClampNeg) (wn_8 3 (((wn_8 11 0) - 1).toNatClampNeg)) := ⟨_, rfl⟩
      rw [← hwn_12] at hP
      have E := bns_e E hwn_12
      have ft12_layers : (wn_12 11 0).toInt = (wn_8 11 0).toInt := by rw [hwn_12]; rfl
      have fv_12 : (wn_12 3 ((wn_8 11 0).toNatClampNeg)).toInt = (wn_8 3 (((wn_8 11 0) - 1).toNatClampNeg)).toInt := by rw [hwn_12, st_rd]
      have hI_12 : R7I wn_12 := by rw [hwn_12]; exact R7I_put_sheaves hI_8
      refine lv_aload_n hx hb dX7_more_75 rfl (lv_at hl 1 rfl) ?_
      refine g7_out hx hb hts hin hown hK hP (hts (.fieldLink RX7 22 "LoadedForTheLaneModel" "out" "[I") (by decide +kernel)) dX7_more_76 ?_
      refine lv_aload_n hx hb dX7_more_79 rfl (lv_at hl 1 rfl) ?_
      refine g7_layers hx hb hts hin hown hK hP (hts (.fieldLink RX7 67 "LoadedForTheLaneModel" "layers" "I") (by decide +kernel)) dX7_more_80 ?_
      have f_13 := R7I_layers hI_12
      refine lv_aload_n hx hb dX7_more_83 rfl (lv_at hl 1 rfl) ?_
      refine g7_out hx hb hts hin hown hK hP (hts (.fieldLink RX7 22 "LoadedForTheLaneModel" "out" "[I") (by decide +kernel)) dX7_more_84 ?_
      refine lv_aload_n hx hb dX7_more_87 rfl (lv_at hl 1 rfl) ?_
      refine g7_layers hx hb hts hin hown hK hP (hts (.fieldLink RX7 67 "LoadedForTheLaneModel" "layers" "I") (by decide +kernel)) dX7_more_88 ?_
      have f_14 := R7I_layers hI_12
      refine lv_iconst (v := 1) hx hb dX7_more_91 (by decide) ?_
      refine lv_isub hx hb dX7_more_92 ?_
      have := q_1
      have := i_sub (a := wn_12 11 0) (b := 1) (by omega) (by omega)
      have ix_15 : vp_in ((wn_12 11 0) - 1) 12 := ix_of (by omega) (by omega)
      refine l7_out (j := ((wn_12 11 0) - 1).toNatClampNeg) hx hb hK hP ix_15 rfl dX7_more_93 ?_
      have ix_16 : vp_in (wn_12 11 0) 12 := ix_of (by omega) (by omega)
      refine a7_out (j := (wn_12 11 0).toNatClampNeg) hx hb hK hP hd hS ix_16 rfl dX7_more_94 (fun H locs hP hS => ?_)
      obtain ⟨wn_16, hwn_16⟩ : ∃ x, x = st wn_12 4 ((wn_12 11 0).toNatClampNeg) (wn_12 4 (((wn_12 11 0) - 1).toNatClampNeg)) := ⟨_, rfl⟩
      rw [← hwn_16] at hP
      have E := bns_e E hwn_16
      have ft16_layers : (wn_16 11 0).toInt = (wn_12 11 0).toInt := by rw [hwn_16]; rfl
      have fv_16 : (wn_16 4 ((wn_12 11 0).toNatClampNeg)).toInt = (wn_12 4 (((wn_12 11 0) - 1).toNatClampNeg)).toInt := by rw [hwn_16, st_rd]
      have hI_16 : R7I wn_16 := by rw [hwn_16]; exact R7I_put_out hI_12
      refine lv_aload_n hx hb dX7_more_95 rfl (lv_at hl 1 rfl) ?_
      refine g7_lean hx hb hts hin hown hK hP (hts (.fieldLink RX7 25 "LoadedForTheLaneModel" "lean" "[I") (by decide +kernel)) dX7_more_96 ?_
      refine lv_aload_n hx hb dX7_more_99 rfl (lv_at hl 1 rfl) ?_
      refine g7_layers hx hb hts hin hown hK hP (hts (.fieldLink RX7 67 "LoadedForTheLaneModel" "layers" "I") (by decide +kernel)) dX7_more_100 ?_
      have f_17 := R7I_layers hI_16
      refine lv_aload_n hx hb dX7_more_103 rfl (lv_at hl 1 rfl) ?_
      refine g7_lean hx hb hts hin hown hK hP (hts (.fieldLink RX7 25 "LoadedForTheLaneModel" "lean" "[I") (by decide +kernel)) dX7_more_104 ?_
      refine lv_aload_n hx hb dX7_more_107 rfl (lv_at hl 1 rfl) ?_
      refine g7_layers hx hb hts hin hown hK hP (hts (.fieldLink RX7 67 "LoadedForTheLaneModel" "layers" "I") (by decide +kernel)) dX7_more_108 ?_
      have f_18 := R7I_layers hI_16
      refine lv_iconst (v := 1) hx hb dX7_more_111 (by decide) ?_
      refine lv_isub hx hb dX7_more_112 ?_
      have := q_1
      have := i_sub (a := wn_16 11 0) (b := 1) (by omega) (by omega)
      have ix_19 : vp_in ((wn_16 11 0) - 1) 12 := ix_of (by omega) (by omega)
      refine l7_lean (j := ((wn_16 11 0) - 1).toNatClampNeg) hx hb hK hP ix_19 rfl dX7_more_113 ?_
      have ix_20 : vp_in (wn_16 11 0) 12 := ix_of (by omega) (by omega)
      refine a7_lean (j := (wn_16 11 0).toNatClampNeg) hx hb hK hP hd hS ix_20 rfl dX7_more_114 (fun H locs hP hS => ?_)
      obtain ⟨wn_20, hwn_20⟩ : ∃ x, x = st wn_16 5 ((wn_16 11 0).toNatClampNeg) (wn_16 5 (((wn_16 11 0) - 1).toNatClampNeg)) := ⟨_, rfl⟩
      rw [← hwn_20] at hP
      have E := bns_e E hwn_20
      have ft20_layers : (wn_20 11 0).toInt = (wn_16 11 0).toInt := by rw [hwn_20]; rfl
      have fv_20 : (wn_20 5 ((wn_16 11 0).toNatClampNeg)).toInt = (wn_16 5 (((wn_16 11 0) - 1).toNatClampNeg)).toInt := by rw [hwn_20, st_rd]
      have hI_20 : R7I wn_20 := by rw [hwn_20]; exact R7I_put_lean hI_16
      refine lv_aload_n hx hb dX7_more_115 rfl (lv_at hl 1 rfl) ?_
      refine lv_dup hx hb dX7_more_116 rfl ?_
      refine g7_layers hx hb hts hin hown hK hP (hts (.fieldLink RX7 67 "LoadedForTheLaneModel" "layers" "I") (by decide +kernel)) dX7_more_117 ?_
      have f_21 := R7I_layers hI_20
      refine lv_iconst (v := 1) hx hb dX7_more_120 (by decide) ?_
      refine lv_iadd hx hb dX7_more_121 ?_
      refine p7_layers hx hb hts hin hown hK hP hd hS (hts (.fieldLink RX7 67 "LoadedForTheLaneModel" "layers" "I") (by decide +kernel)) dX7_more_122 (fun H locs hP hS => ?_)
      obtain ⟨wn_22, hwn_22⟩ : ∃ x, x = st wn_20 11 0 ((wn_20 11 0) + 1) := ⟨_, rfl⟩
      rw [← hwn_22] at hP
      have E := bns_e E hwn_22
      have ft22_layers : (wn_22 11 0).toInt = ((wn_20 11 0) + 1).toInt := by rw [hwn_22]; rfl
      have := q_1
      have := i_add (a := wn_20 11 0) (b := 1) (by omega) (by omega)
      have := q_1
      have := i_add (a := wn_20 11 0) (b := 1) (by omega) (by omega)
      have hI_22 : R7I wn_22 := by rw [hwn_22]; exact R7I_put_layers hI_20 (by omega) (by omega)
      refine lv_aload_n hx hb dX7_more_125 rfl (lv_at hl 1 rfl) ?_
      refine lv_iload_n hx hb dX7_more_126 rfl (lv_at hl 2 rfl) ?_
      refine va_calli (va_runV (As := [.int a1]) (rest := []) ⟨hx, hb, hml, hown, hts⟩ (kX7_doesHold l D cI ad wn_22 a1 hd hI_22 (by omega) (by omega)) (cwV 1 hts gX7_more_X7_doesHold rfl rfl rfl mdX7_doesHold ⟨Nat.le_of_ble_eq_true rfl, Nat.le_of_ble_eq_true rfl⟩) (r7_pre hK hP) rfl rfl hl.1 rfl (lv_room (Nat.le_of_ble_eq_true rfl)) dX7_more_127 ⟨Nat.zero_le _, Nat.zero_le _⟩) hS (fun _ _ h => h) (fun _ h => h) (fun rn_23 wn_23 t H locs ht hvm hp_23 hB hz hk hS => ?_)
      have hP : va_P D vwCl (RM cI ad wn_23) H := ht ▸ hB
      obtain ⟨hp_23, hz_23, hI_23, hq0_23⟩ := hp_23
      have E := bnd_e E hp_23
      have hzi_23 := z_int hz_23
      have ft23_layers : (wn_23 11 0).toInt = (wn_22 11 0).toInt := by rw [hq0_23 11 (by decide) (by decide)]
      refine lv_istore_n (lv' := [(3, .int rn_23), (2, .int 0), (0, .ref (ad 0)), (1, .int a1)]) hx hb dX7_more_130 rfl hl (by decide) rfl (fun ls hl => ?_)
      refine lv_aload_n hx hb dX7_more_131 rfl (lv_at hl 2 rfl) ?_
      refine lv_dup hx hb dX7_more_132 rfl ?_
      refine g7_layers hx hb hts hin hown hK hP (hts (.fieldLink RX7 67 "LoadedForTheLaneModel" "layers" "I") (by decide +kernel)) dX7_more_133 ?_
      have f_24 := R7I_layers hI_23
      refine lv_iconst (v := 1) hx hb dX7_more_136 (by decide) ?_
      refine lv_isub hx hb dX7_more_137 ?_
      refine p7_layers hx hb hts hin hown hK hP hd hS (hts (.fieldLink RX7 67 "LoadedForTheLaneModel" "layers" "I") (by decide +kernel)) dX7_more_138 (fun H locs hP hS => ?_)
      obtain ⟨wn_25, hwn_25⟩ : ∃ x, x = st wn_23 11 0 ((wn_23 11 0) - 1) := ⟨_, rfl⟩
      rw [← hwn_25] at hP
      have E := bns_e E hwn_25
      have ft25_layers : (wn_25 11 0).toInt = ((wn_23 11 0) - 1).toInt := by rw [hwn_25]; rfl
      have := q_1
      have := i_sub (a := wn_23 11 0) (b := 1) (by omega) (by omega)
      have := q_1
      have := i_sub (a := wn_23 11 0) (b := 1) (by omega) (by omega)
      have hI_25 : R7I wn_25 := by rw [hwn_25]; exact R7I_put_layers hI_23 (by omega) (by omega)
      refine lv_iload_n hx hb dX7_more_141 rfl (lv_at hl 0 rfl) ?_
      refine lv_if_eq (tgt := 149) hx hb dX7_more_142 (by decide) (fun c_26 => ?_) (fun c_26 => ?_)
      · have E := E.trans (if_pos c_26)
        have fc_26 := i_eq c_26
        rw [q_0] at fc_26
        refine lv_iconst (v := 0) hx hb dX7_more_149 (by decide) ?_
        exact W.iret (v := 0) hx hb hr (fun t ht hW => ⟨⟨_, wn_25, rfl, ⟨E.symm, hI_25⟩, by beta_reduce; rw [ht]; exact hP⟩, hS.F ht⟩) hS.2.2 dX7_more_150
      · have E := E.trans (if_neg c_26)
        have fc_26 := i_ne c_26
        rw [q_0] at fc_26
        refine lv_iconst (v := 1) hx hb dX7_more_145 (by decide) ?_
        refine lv_goto (tgt := 150) hx hb dX7_more_146 (by decide) ?_
        exact W.iret (v := 1) hx hb hr (fun t ht hW => ⟨⟨_, wn_25, rfl, ⟨E.symm, hI_25⟩, by beta_reduce; rw [ht]; exact hP⟩, hS.F ht⟩) hS.2.2 dX7_more_150
    · have E := E.trans (if_pos c_4)
      have fc_4 := i_eq c_4
      rw [q_0] at fc_4
      refine lv_bipush (v := (-3)) hx hb dX7_more_18 (by decide +kernel) ?_
      refine lv_goto (tgt := 24) hx hb dX7_more_20 (by decide) ?_
      refine lv_istore_n (lv' := [(2, .int (-3)), (0, .ref (ad 0)), (1, .int a1)]) hx hb dX7_more_24 rfl hl (by decide) rfl (fun ls hl => ?_)
      refine lv_iload_n hx hb dX7_more_25 rfl (lv_at hl 0 rfl) ?_
      refine lv_if_eq (tgt := 35) hx hb dX7_more_26 (by decide) (fun z => absurd z (by decide)) (fun _ => ?_)
      refine lv_aload_n hx hb dX7_more_29 rfl (lv_at hl 1 rfl) ?_
      refine lv_iload_n hx hb dX7_more_30 rfl (lv_at hl 0 rfl) ?_
      have := q_m3
      refine va_calli (va_runV (As := [.int (-3)]) (rest := []) ⟨hx, hb, hml, hown, hts⟩ (kX7_no l D cI ad w (-3) hd hI (by omega) (by omega)) (cwV 1 hts gX7_more_X7_no rfl rfl rfl mdX7_no ⟨Nat.le_of_ble_eq_true rfl, Nat.le_of_ble_eq_true rfl⟩) (r7_pre hK hP) rfl rfl hl.1 rfl (lv_room (Nat.le_of_ble_eq_true rfl)) dX7_more_31 ⟨Nat.zero_le _, Nat.zero_le _⟩) hS (fun _ _ h => h) (fun _ h => h) (fun rn_27 wn_27 t H locs ht hvm hp_27 hB hz hk hS => ?_)
      have hP : va_P D vwCl (RM cI ad wn_27) H := ht ▸ hB
      obtain ⟨hp_27, hI_27⟩ := hp_27
      have E := bnd_e E hp_27
      exact W.iret (v := rn_27) hx hb hr (fun t ht hW => ⟨⟨_, wn_27, rfl, ⟨E.symm, hI_27⟩, by beta_reduce; rw [ht]; exact hP⟩, hS.F ht⟩) hS.2.2 dX7_more_34
  · have E := E.trans (if_pos c_2)
    have fc_2 := i_eq c_2
    rw [q_0] at fc_2
    refine lv_iconst (v := (-1)) hx hb dX7_more_7 (by decide) ?_
    refine lv_goto (tgt := 24) hx hb dX7_more_8 (by decide) ?_
    refine lv_istore_n (lv' := [(2, .int (-1)), (0, .ref (ad 0)), (1, .int a1)]) hx hb dX7_more_24 rfl hl (by decide) rfl (fun ls hl => ?_)
    refine lv_iload_n hx hb dX7_more_25 rfl (lv_at hl 0 rfl) ?_
    refine lv_if_eq (tgt := 35) hx hb dX7_more_26 (by decide) (fun z => absurd z (by decide)) (fun _ => ?_)
    refine lv_aload_n hx hb dX7_more_29 rfl (lv_at hl 1 rfl) ?_
    refine lv_iload_n hx hb dX7_more_30 rfl (lv_at hl 0 rfl) ?_
    have := q_m1
    refine va_calli (va_runV (As := [.int (-1)]) (rest := []) ⟨hx, hb, hml, hown, hts⟩ (kX7_no l D cI ad w (-1) hd hI (by omega) (by omega)) (cwV 1 hts gX7_more_X7_no rfl rfl rfl mdX7_no ⟨Nat.le_of_ble_eq_true rfl, Nat.le_of_ble_eq_true rfl⟩) (r7_pre hK hP) rfl rfl hl.1 rfl (lv_room (Nat.le_of_ble_eq_true rfl)) dX7_more_31 ⟨Nat.zero_le _, Nat.zero_le _⟩) hS (fun _ _ h => h) (fun _ h => h) (fun rn_28 wn_28 t H locs ht hvm hp_28 hB hz hk hS => ?_)
    have hP : va_P D vwCl (RM cI ad wn_28) H := ht ▸ hB
    obtain ⟨hp_28, hI_28⟩ := hp_28
    have E := bnd_e E hp_28
    exact W.iret (v := rn_28) hx hb hr (fun t ht hW => ⟨⟨_, wn_28, rfl, ⟨E.symm, hI_28⟩, by beta_reduce; rw [ht]; exact hP⟩, hS.F ht⟩) hS.2.2 dX7_more_34
abbrev rmX7_farOut : Room := { frames := 7, cells := 0, slots := 0, locals := 159 }
set_option maxHeartbeats 4000000 in
set_option maxRecDepth 100000 in
theorem kX7_farOut (l : Launch) (D : va_G) (cI : ClassId) (ad : Nat → Nat) (w : Nat → Nat → Int32) (a1 : Int32) (a2 : Int32) (hd : RD ad) (hI : R7I w)  : Met l yX7_farOut wsX7_farOut rmX7_farOut (va_Pc [Value.ref (ad 0), Value.int a1, Value.int a2] (fun U => va_P D vwCl (RM cI ad w) U.heap ∧ va_K D vwCl [(cI, .int)] U)) (va_Qi (fun r u => (r, u) = sX7_farOut w a1 a2 ∧ R7I u) (fun u t => va_P D vwCl (RM cI ad u) t.heap) (RA ad)) 0 0 (RA ad) := by
  refine Met.ofW (cc := cX7_farOut) (maxL := 6) (ret := (some .int)) (by decide) rfl ?_
  intro p e s m args below meth c s₁ B hml hv
  obtain ⟨rfl, hP, hK⟩ := hv
  have hx := B.exec
  have hb := B.bytes
  have hr := B.returns
  have hts := atoms_spec (ws := wsX7_farOut) B.pre
  have hown : s.vm.findClass RX7 = some m.cls := findClass_of_methodNamed B.named
  have hlocks := B.notSynchronized
  have hin : ∀ q ∈ wsX70, q ∈ wsX7_farOut := by decide +kernel
  have hl := lv_entry ([.ref (ad 0), .int a1, .int a2]) (n := 6) (Nat.le_of_ble_eq_true rfl)
  rw [lg_entry_eq]
  generalize (lg_sl ([.ref (ad 0), .int a1, .int a2]) ++ List.replicate (6 - (lg_sl ([.ref (ad 0), .int a1, .int a2])).length) Slot.unset).toArray = ls at hl ⊢
  have hl : lv_has ls 6 [(0, .ref (ad 0)), (1, .int a1), (2, .int a2)] := hl
  suffices hgo : ∀ (H : Heap) (locs : List Loc), va_P D vwCl (RM cI ad w) H → va_S (RA ad) s.heap H locs → W p l e (headSpec wsX7_farOut rmX7_farOut).room s m [Value.ref (ad 0), Value.int a1, Value.int a2].toArray below meth c H locs 0 0 (MQ below (va_Qi (fun r u => (r, u) = sX7_farOut w a1 a2 ∧ R7I u) (fun u t => va_P D vwCl (RM cI ad u) t.heap) (RA ad)) [Value.ref (ad 0), Value.int a1, Value.int a2].toArray s 0 0 (RA ad)) (F0 m 0 ls []) from hgo s.heap [] hP va_S.rf
  intro H locs hP hS
  have E := sX7_farOut.eq_1 w a1 a2
  refine lv_iload_n hx hb dX7_farOut_0 rfl (lv_at hl 1 rfl) ?_
  refine vp_callSi (va_Run.run (va_runS (As := [.int a1]) (rest := []) ⟨hx, hb, hml, hown, hts⟩ (kX7_isWay l a1) (va_cwS 1 hts gX7_farOut_X7_isWay rfl rfl rfl mdX7_isWay ⟨Nat.le_of_ble_eq_true rfl, Nat.le_of_ble_eq_true rfl⟩) s_pre rfl rfl hl.1 rfl (lv_room (Nat.le_of_ble_eq_true rfl)) dX7_farOut_1 ⟨Nat.zero_le _, Nat.zero_le _⟩)) (fun r_1 hr_1 => ?_)
  obtain ⟨rfl, hz_1⟩ := hr_1
  refine lv_if_eq (tgt := 15) hx hb dX7_farOut_4 (by decide) (fun c_2 => ?_) (fun c_2 => ?_)
  · have E := E.trans (if_pos c_2)
    have fc_2 := i_eq c_2
    rw [q_0] at fc_2
    refine lv_aload_n hx hb dX7_farOut_15 rfl (lv_at hl 0 rfl) ?_
    refine lv_iconst (v := (-1)) hx hb dX7_farOut_16 (by decide) ?_
    have := q_m1
    refine va_calli (va_runV (As := [.int (-1)]) (rest := []) ⟨hx, hb, hml, hown, hts⟩ (kX7_no l D cI ad w (-1) hd hI (by omega) (by omega)) (cwV 1 hts gX7_farOut_X7_no rfl rfl rfl mdX7_no ⟨Nat.le_of_ble_eq_true rfl, Nat.le_of_ble_eq_true rfl⟩) (r7_pre hK hP) rfl rfl hl.1 rfl (lv_room (Nat.le_of_ble_eq_true rfl)) dX7_farOut_17 ⟨Nat.zero_le _, Nat.zero_le _⟩) hS (fun _ _ h => h) (fun _ h => h) (fun rn_3 wn_3 t H locs ht hvm hp_3 hB hz hk hS => ?_)
    have hP : va_P D vwCl (RM cI ad wn_3) H := ht ▸ hB
    obtain ⟨hp_3, hI_3⟩ := hp_3
    have E := bnd_e E hp_3
    exact W.iret (v := rn_3) hx hb hr (fun t ht hW => ⟨⟨_, wn_3, rfl, ⟨E.symm, hI_3⟩, by beta_reduce; rw [ht]; exact hP⟩, hS.F ht⟩) hS.2.2 dX7_farOut_20
  · have E := E.trans (if_neg c_2)
    have fc_2 := i_ne c_2
    rw [q_0] at fc_2
    have gc_2 := fX7_isWay c_2
    refine lv_aload_n hx hb dX7_farOut_7 rfl (lv_at hl 0 rfl) ?_
    refine lv_iload_n hx hb dX7_farOut_8 rfl (lv_at hl 2 rfl) ?_
    refine vp_callSi (va_Run.run (va_runV (As := [.int a2]) (rest := []) ⟨hx, hb, hml, hown, hts⟩ (kX7_isLayer l D cI ad w a2) (cwV 1 hts gX7_farOut_X7_isLayer rfl rfl rfl mdX7_isLayer ⟨Nat.le_of_ble_eq_true rfl, Nat.le_of_ble_eq_true rfl⟩) (r7_pre hK hP) rfl rfl hl.1 rfl (lv_room (Nat.le_of_ble_eq_true rfl)) dX7_farOut_9 ⟨Nat.zero_le _, Nat.zero_le _⟩)) (fun r_4 hr_4 => ?_)
    obtain ⟨rfl, hz_4⟩ := hr_4
    refine lv_if_ne (tgt := 21) hx hb dX7_farOut_12 (by decide) (fun c_5 => ?_) (fun c_5 => ?_)
    · have E := E.trans (if_neg c_5)
      have fc_5 := i_ne c_5
      rw [q_0] at fc_5
      have gc_5 := fX7_isLayer c_5
      have glc_5 := R7I_layers hI
      refine lv_aload_n hx hb dX7_farOut_21 rfl (lv_at hl 0 rfl) ?_
      refine g7_out hx hb hts hin hown hK hP (hts (.fieldLink RX7 22 "LoadedForTheLaneModel" "out" "[I") (by decide +kernel)) dX7_farOut_22 ?_
      refine lv_iload_n hx hb dX7_farOut_25 rfl (lv_at hl 2 rfl) ?_
      have ix_6 : vp_in a2 12 := ix_of (by omega) (by omega)
      refine l7_out (j := a2.toNatClampNeg) hx hb hK hP ix_6 rfl dX7_farOut_26 ?_
      refine lv_istore_n (lv' := [(3, .int (w 4 (a2.toNatClampNeg))), (0, .ref (ad 0)), (1, .int a1), (2, .int a2)]) hx hb dX7_farOut_27 rfl hl (by decide) rfl (fun ls hl => ?_)
      refine lv_bipush (v := (-9)) hx hb dX7_farOut_28 (by decide +kernel) ?_
      refine lv_istore (lv' := [(4, .int (-9)), (3, .int (w 4 (a2.toNatClampNeg))), (0, .ref (ad 0)), (1, .int a1), (2, .int a2)]) hx hb dX7_farOut_30 hl (by decide) rfl (fun ls hl => ?_)
      refine lv_bipush (v := 9) hx hb dX7_farOut_32 (by decide +kernel) ?_
      refine lv_istore (lv' := [(5, .int 9), (4, .int (-9)), (3, .int (w 4 (a2.toNatClampNeg))), (0, .ref (ad 0)), (1, .int a1), (2, .int a2)]) hx hb dX7_farOut_34 hl (by decide) rfl (fun ls hl => ?_)
      have L_36 : ∀ (n_36 : Nat) (x4_36 : Int32) (x5_36 : Int32) (w_36 : Nat → Nat → Int32) (H : Heap) (locs : List Loc) (ls : Array Slot), (-1 ≤ x5_36.toInt ∧ x5_36.toInt ≤ 9) → (x5_36.toInt + 1 < (n_36 : Int)) → R7I w_36 → va_P D vwCl (RM cI ad w_36) H → va_S (RA ad) s.heap H locs → lv_has ls 6 [(5, .int x5_36), (4, .int x4_36), (3, .int (w 4 (a2.toNatClampNeg))), (0, .ref (ad 0)), (1, .int a1), (2, .int a2)] → sX7_farOut w a1 a2 = sX7_farOut_36 w a1 a2 n_36 x4_36 x5_36 w_36 → W p l e (headSpec wsX7_farOut rmX7_farOut).room s m [Value.ref (ad 0), Value.int a1, Value.int a2].toArray below meth c H locs 0 0 (MQ below (va_Qi (fun r u => (r, u) = sX7_farOut w a1 a2 ∧ R7I u) (fun u t => va_P D vwCl (RM cI ad u) t.heap) (RA ad)) [Value.ref (ad 0), Value.int a1, Value.int a2].toArray s 0 0 (RA ad)) (F0 m 36 ls []) := by
        intro n_36
        induction n_36 with
        | zero =>
          intro x4_36 x5_36 w_36 H locs ls hinv hm
          obtain ⟨v0_36, v1_36⟩ := hinv
          exact absurd hm (by omega)
        | succ n_36 ih_36 =>
          intro x4_36 x5_36 w_36 H locs ls hinv hm_36 hI_36 hP hS hl E
          obtain ⟨v0_36, v1_36⟩ := hinv
          have E := E.trans (sX7_farOut_36.eq_2 ..)
          refine lv_iload hx hb dX7_farOut_36 (lv_at hl 0 rfl) ?_
          refine lv_if_lt (tgt := 77) hx hb dX7_farOut_38 (by decide) (fun c_7 => ?_) (fun c_7 => ?_)
          · have E := E.trans (if_pos c_7)
            have fc_7 := i_lt c_7
            rw [q_0] at fc_7
            refine lv_aload_n hx hb dX7_farOut_77 rfl (lv_at hl 3 rfl) ?_
            refine g7_out hx hb hts hin hown hK hP (hts (.fieldLink RX7 22 "LoadedForTheLaneModel" "out" "[I") (by decide +kernel)) dX7_farOut_78 ?_
            refine lv_iload_n hx hb dX7_farOut_81 rfl (lv_at hl 5 rfl) ?_
            refine lv_iload_n hx hb dX7_farOut_82 rfl (lv_at hl 2 rfl) ?_
            have ix_8 : vp_in a2 12 := ix_of (by omega) (by omega)
            refine a7_out (j := a2.toNatClampNeg) hx hb hK hP hd hS ix_8 rfl dX7_farOut_83 (fun H locs hP hS => ?_)
            obtain ⟨wn_8, hwn_8⟩ : ∃ x, x = st w_36 4 (a2.toNatClampNeg) (w 4 (a2.toNatClampNeg)) := ⟨_, rfl⟩
            rw [← hwn_8] at hP
            have E := bns_e E hwn_8
            have hI_8 : R7I wn_8 := by rw [hwn_8]; exact R7I_put_out hI_36
            refine lv_iload hx hb dX7_farOut_84 (lv_at hl 1 rfl) ?_
            exact W.iret (v := x4_36) hx hb hr (fun t ht hW => ⟨⟨_, wn_8, rfl, ⟨E.symm, hI_8⟩, by beta_reduce; rw [ht]; exact hP⟩, hS.F ht⟩) hS.2.2 dX7_farOut_86
          · have E := E.trans (if_neg c_7)
            have fc_7 := i_nlt c_7
            rw [q_0] at fc_7
            refine lv_iload hx hb dX7_farOut_41 (lv_at hl 1 rfl) ?_
            refine lv_if_ge (tgt := 77) hx hb dX7_farOut_43 (by decide) (fun c_9 => ?_) (fun c_9 => ?_)
            · have E := E.trans (if_pos c_9)
              have fc_9 := i_le c_9
              rw [q_0] at fc_9
              refine lv_aload_n hx hb dX7_farOut_77 rfl (lv_at hl 3 rfl) ?_
              refine g7_out hx hb hts hin hown hK hP (hts (.fieldLink RX7 22 "LoadedForTheLaneModel" "out" "[I") (by decide +kernel)) dX7_farOut_78 ?_
              refine lv_iload_n hx hb dX7_farOut_81 rfl (lv_at hl 5 rfl) ?_
              refine lv_iload_n hx hb dX7_farOut_82 rfl (lv_at hl 2 rfl) ?_
              have ix_10 : vp_in a2 12 := ix_of (by omega) (by omega)
              refine a7_out (j := a2.toNatClampNeg) hx hb hK hP hd hS ix_10 rfl dX7_farOut_83 (fun H locs hP hS => ?_)
              obtain ⟨wn_10, hwn_10⟩ : ∃ x, x = st w_36 4 (a2.toNatClampNeg) (w 4 (a2.toNatClampNeg)) := ⟨_, rfl⟩
              rw [← hwn_10] at hP
              have E := bns_e E hwn_10
              have hI_10 : R7I wn_10 := by rw [hwn_10]; exact R7I_put_out hI_36
              refine lv_iload hx hb dX7_farOut_84 (lv_at hl 1 rfl) ?_
              exact W.iret (v := x4_36) hx hb hr (fun t ht hW => ⟨⟨_, wn_10, rfl, ⟨E.symm, hI_10⟩, by beta_reduce; rw [ht]; exact hP⟩, hS.F ht⟩) hS.2.2 dX7_farOut_86
            · have E := E.trans (if_neg c_9)
              have fc_9 := i_nle c_9
              rw [q_0] at fc_9
              refine lv_aload_n hx hb dX7_farOut_46 rfl (lv_at hl 3 rfl) ?_
              refine g7_out hx hb hts hin hown hK hP (hts (.fieldLink RX7 22 "LoadedForTheLaneModel" "out" "[I") (by decide +kernel)) dX7_farOut_47 ?_
              refine lv_iload_n hx hb dX7_farOut_50 rfl (lv_at hl 5 rfl) ?_
              refine lv_iload hx hb dX7_farOut_51 (lv_at hl 0 rfl) ?_
              have ix_11 : vp_in a2 12 := ix_of (by omega) (by omega)
              refine a7_out (j := a2.toNatClampNeg) hx hb hK hP hd hS ix_11 rfl dX7_farOut_53 (fun H locs hP hS => ?_)
              obtain ⟨wn_11, hwn_11⟩ : ∃ x, x = st w_36 4 (a2.toNatClampNeg) x5_36 := ⟨_, rfl⟩
              rw [← hwn_11] at hP
              have E := bns_e E hwn_11
              have hI_11 : R7I wn_11 := by rw [hwn_11]; exact R7I_put_out hI_36
              refine lv_aload_n hx hb dX7_farOut_54 rfl (lv_at hl 3 rfl) ?_
              refine lv_iload_n hx hb dX7_farOut_55 rfl (lv_at hl 4 rfl) ?_
              refine va_calli (va_runV (As := [.int a1]) (rest := []) ⟨hx, hb, hml, hown, hts⟩ (kX7_doesHold l D cI ad wn_11 a1 hd hI_11 (by omega) (by omega)) (cwV 1 hts gX7_farOut_X7_doesHold rfl rfl rfl mdX7_doesHold ⟨Nat.le_of_ble_eq_true rfl, Nat.le_of_ble_eq_true rfl⟩) (r7_pre hK hP) rfl rfl hl.1 rfl (lv_room (Nat.le_of_ble_eq_true rfl)) dX7_farOut_56 ⟨Nat.zero_le _, Nat.zero_le _⟩) hS (fun _ _ h => h) (fun _ h => h) (fun rn_12 wn_12 t H locs ht hvm hp_12 hB hz hk hS => ?_)
              have hP : va_P D vwCl (RM cI ad wn_12) H := ht ▸ hB
              obtain ⟨hp_12, hz_12, hI_12, hq0_12⟩ := hp_12
              have E := bnd_e E hp_12
              have hzi_12 := z_int hz_12
              refine lv_if_eq (tgt := 67) hx hb dX7_farOut_59 (by decide) (fun c_13 => ?_) (fun c_13 => ?_)
              · have E := E.trans (if_pos c_13)
                have fc_13 := i_eq c_13
                rw [q_0] at fc_13
                refine lv_bipush (v := (-9)) hx hb dX7_farOut_67 (by decide +kernel) ?_
                refine lv_istore (lv' := [(4, .int (-9)), (5, .int x5_36), (3, .int (w 4 (a2.toNatClampNeg))), (0, .ref (ad 0)), (1, .int a1), (2, .int a2)]) hx hb dX7_farOut_69 hl (by decide) rfl (fun ls hl => ?_)
                refine lv_iinc (v := x5_36 + (-1)) (lv' := [(5, .int (x5_36 + (-1))), (4, .int (-9)), (3, .int (w 4 (a2.toNatClampNeg))), (0, .ref (ad 0)), (1, .int a1), (2, .int a2)]) hx hb dX7_farOut_71 hl (k := 1) rfl rfl (by decide) rfl (fun ls hl => ?_)
                refine lv_goto (tgt := 36) hx hb dX7_farOut_74 (by decide) ?_
                have := q_m9
                have := q_m1
                try have := i_add (a := x5_36) (b := (-1)) (by omega) (by omega)
                exact ih_36 ((-9)) (x5_36 + (-1)) wn_12 H locs ls ⟨by omega, by omega⟩ (by omega) hI_12 hP hS (lv_sub hl [0, 1, 2, 3, 4, 5] rfl) E
              · have E := E.trans (if_neg c_13)
                have fc_13 := i_ne c_13
                rw [q_0] at fc_13
                refine lv_iload hx hb dX7_farOut_62 (lv_at hl 0 rfl) ?_
                refine lv_goto (tgt := 69) hx hb dX7_farOut_64 (by decide) ?_
                refine lv_istore (lv' := [(4, .int x5_36), (5, .int x5_36), (3, .int (w 4 (a2.toNatClampNeg))), (0, .ref (ad 0)), (1, .int a1), (2, .int a2)]) hx hb dX7_farOut_69 hl (by decide) rfl (fun ls hl => ?_)
                refine lv_iinc (v := x5_36 + (-1)) (lv' := [(5, .int (x5_36 + (-1))), (4, .int x5_36), (3, .int (w 4 (a2.toNatClampNeg))), (0, .ref (ad 0)), (1, .int a1), (2, .int a2)]) hx hb dX7_farOut_71 hl (k := 1) rfl rfl (by decide) rfl (fun ls hl => ?_)
                refine lv_goto (tgt := 36) hx hb dX7_farOut_74 (by decide) ?_
                have := q_m1
                try have := i_add (a := x5_36) (b := (-1)) (by omega) (by omega)
                exact ih_36 x5_36 (x5_36 + (-1)) wn_12 H locs ls ⟨by omega, by omega⟩ (by omega) hI_12 hP hS (lv_sub hl [0, 1, 2, 3, 4, 5] rfl) E
      have := q_m9
      have := q_9
      exact L_36 11 ((-9)) 9 w H locs ls ⟨by omega, by omega⟩ (by omega) hI hP hS (lv_sub hl [0, 1, 2, 3, 4, 5] rfl) E
    · have E := E.trans (if_pos c_5)
      have fc_5 := i_eq c_5
      rw [q_0] at fc_5
      refine lv_aload_n hx hb dX7_farOut_15 rfl (lv_at hl 0 rfl) ?_
      refine lv_iconst (v := (-1)) hx hb dX7_farOut_16 (by decide) ?_
      have := q_m1
      refine va_calli (va_runV (As := [.int (-1)]) (rest := []) ⟨hx, hb, hml, hown, hts⟩ (kX7_no l D cI ad w (-1) hd hI (by omega) (by omega)) (cwV 1 hts gX7_farOut_X7_no rfl rfl rfl mdX7_no ⟨Nat.le_of_ble_eq_true rfl, Nat.le_of_ble_eq_true rfl⟩) (r7_pre hK hP) rfl rfl hl.1 rfl (lv_room (Nat.le_of_ble_eq_true rfl)) dX7_farOut_17 ⟨Nat.zero_le _, Nat.zero_le _⟩) hS (fun _ _ h => h) (fun _ h => h) (fun rn_14 wn_14 t H locs ht hvm hp_14 hB hz hk hS => ?_)
      have hP : va_P D vwCl (RM cI ad wn_14) H := ht ▸ hB
      obtain ⟨hp_14, hI_14⟩ := hp_14
      have E := bnd_e E hp_14
      exact W.iret (v := rn_14) hx hb hr (fun t ht hW => ⟨⟨_, wn_14, rfl, ⟨E.symm, hI_14⟩, by beta_reduce; rw [ht]; exact hP⟩, hS.F ht⟩) hS.2.2 dX7_farOut_20
abbrev rmX7_marginBy : Room := { frames := 5, cells := 0, slots := 0, locals := 116 }
set_option maxHeartbeats 4000000 in
set_option maxRecDepth 100000 in
theorem kX7_marginBy (l : Launch) (D : va_G) (cI : ClassId) (ad : Nat → Nat) (w : Nat → Nat → Int32) (a1 : Int32) (a2 : Int32) (hd : RD ad) (hI : R7I w) (h1 : 0 ≤ a1.toInt) (h2 : a1.toInt < 2) : Met l yX7_marginBy wsX7_marginBy rmX7_marginBy (va_Pc [Value.ref (ad 0), Value.int a1, Value.int a2] (fun U => va_P D vwCl (RM cI ad w) U.heap ∧ va_K D vwCl [(cI, .int)] U)) (va_Qi (fun r u => (r, u) = sX7_marginBy w a1 a2 ∧ R7I u) (fun u t => va_P D vwCl (RM cI ad u) t.heap) (RA ad)) 0 0 (RA ad) := by
  refine Met.ofW (cc := cX7_marginBy) (maxL := 4) (ret := (some .int)) (by decide) rfl ?_
  intro p e s m args below meth c s₁ B hml hv
  obtain ⟨rfl, hP, hK⟩ := hv
  have hx := B.exec
  have hb := B.bytes
  have hr := B.returns
  have hts := atoms_spec (ws := wsX7_marginBy) B.pre
  have hown : s.vm.findClass RX7 = some m.cls := findClass_of_methodNamed B.named
  have hlocks := B.notSynchronized
  have hin : ∀ q ∈ wsX70, q ∈ wsX7_marginBy := by decide +kernel
  have hl := lv_entry ([.ref (ad 0), .int a1, .int a2]) (n := 4) (Nat.le_of_ble_eq_true rfl)
  rw [lg_entry_eq]
  generalize (lg_sl ([.ref (ad 0), .int a1, .int a2]) ++ List.replicate (4 - (lg_sl ([.ref (ad 0), .int a1, .int a2])).length) Slot.unset).toArray = ls at hl ⊢
  have hl : lv_has ls 4 [(0, .ref (ad 0)), (1, .int a1), (2, .int a2)] := hl
  suffices hgo : ∀ (H : Heap) (locs : List Loc), va_P D vwCl (RM cI ad w) H → va_S (RA ad) s.heap H locs → W p l e (headSpec wsX7_marginBy rmX7_marginBy).room s m [Value.ref (ad 0), Value.int a1, Value.int a2].toArray below meth c H locs 0 0 (MQ below (va_Qi (fun r u => (r, u) = sX7_marginBy w a1 a2 ∧ R7I u) (fun u t => va_P D vwCl (RM cI ad u) t.heap) (RA ad)) [Value.ref (ad 0), Value.int a1, Value.int a2].toArray s 0 0 (RA ad)) (F0 m 0 ls []) from hgo s.heap [] hP va_S.rf
  intro H locs hP hS
  have E := sX7_marginBy.eq_1 w a1 a2
  refine lv_aload_n hx hb dX7_marginBy_0 rfl (lv_at hl 0 rfl) ?_
  refine lv_iconst (v := 1) hx hb dX7_marginBy_1 (by decide) ?_
  refine lv_iconst (v := 1) hx hb dX7_marginBy_2 (by decide) ?_
  have := q_1
  refine va_callv (va_runV (As := [.int 1, .int 1]) (rest := []) ⟨hx, hb, hml, hown, hts⟩ (kX7_passesAll l D cI ad w 1 1 hd (by omega) (by omega) (Or.inr rfl)) (cwV 2 hts gX7_marginBy_X7_passesAll rfl rfl rfl mdX7_passesAll ⟨Nat.le_of_ble_eq_true rfl, Nat.le_of_ble_eq_true rfl⟩) (r7_pre hK hP) rfl rfl hl.1 rfl (lv_room (Nat.le_of_ble_eq_true rfl)) dX7_marginBy_3 ⟨Nat.zero_le _, Nat.zero_le _⟩) hS (fun _ _ h => h) (fun _ h => h) (fun wn_1 t H locs ht hvm hp_1 hB hz hk hS => ?_)
  have hP : va_P D vwCl (RM cI ad wn_1) H := ht ▸ hB
  have E := bns_e E hp_1
  have e_1 := fun k h1 h2 h3 => (congrFun hp_1 k).trans (iX7_save (w := w) (a := 1) k h1 h2 h3)
  have hI_1 : R7I wn_1 := R7I_eq hI (e_1 10 (by decide) (by decide) (by decide)) (e_1 11 (by decide) (by decide) (by decide)) (e_1 16 (by decide) (by decide) (by decide)) (e_1 17 (by decide) (by decide) (by decide)) (e_1 18 (by decide) (by decide) (by decide)) (e_1 27 (by decide) (by decide) (by decide))
  have el_1 : (wn_1 11 0).toInt = (w 11 0).toInt := by rw [e_1 11 (by decide) (by decide) (by decide)]
  have es_1 : (wn_1 18 0).toInt = (w 18 0).toInt := by rw [e_1 18 (by decide) (by decide) (by decide)]
  have hk19 : wn_1 19 = (sX7_passesAll w 1 1) 19 := congrFun hp_1 19
  refine lv_iconst (v := 0) hx hb dX7_marginBy_6 (by decide) ?_
  refine lv_istore_n (lv' := [(3, .int 0), (0, .ref (ad 0)), (1, .int a1), (2, .int a2)]) hx hb dX7_marginBy_7 rfl hl (by decide) rfl (fun ls hl => ?_)
  have L_8 : ∀ (n_8 : Nat) (x3_8 : Int32) (w_8 : Nat → Nat → Int32) (H : Heap) (locs : List Loc) (ls : Array Slot), (0 ≤ x3_8.toInt ∧ x3_8.toInt ≤ 12 ∧ w_8 19 = (sX7_passesAll w 1 1) 19) → (12 - x3_8.toInt < (n_8 : Int)) → R7I w_8 → va_P D vwCl (RM cI ad w_8) H → va_S (RA ad) s.heap H locs → lv_has ls 4 [(3, .int x3_8), (0, .ref (ad 0)), (1, .int a1), (2, .int a2)] → sX7_marginBy w a1 a2 = sX7_marginBy_8 a1 a2 n_8 x3_8 w_8 → W p l e (headSpec wsX7_marginBy rmX7_marginBy).room s m [Value.ref (ad 0), Value.int a1, Value.int a2].toArray below meth c H locs 0 0 (MQ below (va_Qi (fun r u => (r, u) = sX7_marginBy w a1 a2 ∧ R7I u) (fun u t => va_P D vwCl (RM cI ad u) t.heap) (RA ad)) [Value.ref (ad 0), Value.int a1, Value.int a2].toArray s 0 0 (RA ad)) (F0 m 8 ls []) := by
    intro n_8
    induction n_8 with
    | zero =>
      intro x3_8 w_8 H locs ls hinv hm
      obtain ⟨v0_8, v1_8, v2_8⟩ := hinv
      exact absurd hm (by omega)
    | succ n_8 ih_8 =>
      intro x3_8 w_8 H locs ls hinv hm_8 hI_8 hP hS hl E
      obtain ⟨v0_8, v1_8, v2_8⟩ := hinv
      have E := E.trans (sX7_marginBy_8.eq_2 ..)
      have hk19 := v2_8
      refine lv_iload_n hx hb dX7_marginBy_8 rfl (lv_at hl 0 rfl) ?_
      refine lv_aload_n hx hb dX7_marginBy_9 rfl (lv_at hl 1 rfl) ?_
      refine g7_layers hx hb hts hin hown hK hP (hts (.fieldLink RX7 67 "LoadedForTheLaneModel" "layers" "I") (by decide +kernel)) dX7_marginBy_10 ?_
      have f_2 := R7I_layers hI_8
      refine lv_icmp_ge (tgt := 39) hx hb dX7_marginBy_13 (by decide) (fun c_3 => ?_) (fun c_3 => ?_)
      · have E := E.trans (if_pos c_3)
        have fc_3 := i_le c_3
        refine lv_aload_n hx hb dX7_marginBy_39 rfl (lv_at hl 1 rfl) ?_
        refine lv_iload_n hx hb dX7_marginBy_40 rfl (lv_at hl 2 rfl) ?_
        refine vp_callSi (va_Run.run (va_runV (As := [.int a1]) (rest := []) ⟨hx, hb, hml, hown, hts⟩ (kX7_marginOf l D cI ad w_8 a1 hI_8 (by omega) (by omega)) (cwV 1 hts gX7_marginBy_X7_marginOf rfl rfl rfl mdX7_marginOf ⟨Nat.le_of_ble_eq_true rfl, Nat.le_of_ble_eq_true rfl⟩) (r7_pre hK hP) rfl rfl hl.1 rfl (lv_room (Nat.le_of_ble_eq_true rfl)) dX7_marginBy_41 ⟨Nat.zero_le _, Nat.zero_le _⟩)) (fun r_4 hr_4 => ?_)
        subst hr_4
        refine lv_istore_n (lv' := [(3, .int (sX7_marginOf w_8 a1)), (0, .ref (ad 0)), (1, .int a1), (2, .int a2)]) hx hb dX7_marginBy_44 rfl hl (by decide) rfl (fun ls hl => ?_)
        refine lv_aload_n hx hb dX7_marginBy_45 rfl (lv_at hl 1 rfl) ?_
        refine lv_iconst (v := 1) hx hb dX7_marginBy_46 (by decide) ?_
        refine lv_iconst (v := 0) hx hb dX7_marginBy_47 (by decide) ?_
        have := q_1
        have := q_0
        refine va_callv (va_runV (As := [.int 1, .int 0]) (rest := []) ⟨hx, hb, hml, hown, hts⟩ (kX7_passesAll l D cI ad w_8 1 0 hd (by omega) (by omega) (Or.inl rfl)) (cwV 2 hts gX7_marginBy_X7_passesAll rfl rfl rfl mdX7_passesAll ⟨Nat.le_of_ble_eq_true rfl, Nat.le_of_ble_eq_true rfl⟩) (r7_pre hK hP) rfl rfl hl.1 rfl (lv_room (Nat.le_of_ble_eq_true rfl)) dX7_marginBy_48 ⟨Nat.zero_le _, Nat.zero_le _⟩) hS (fun _ _ h => h) (fun _ h => h) (fun wn_5 t H locs ht hvm hp_5 hB hz hk hS => ?_)
        have hP : va_P D vwCl (RM cI ad wn_5) H := ht ▸ hB
        have E := bns_e E hp_5
        have hI_5 : R7I wn_5 := by rw [show wn_5 = _ from hp_5]; exact iX7_restore hI hI_8 hk19
        refine lv_iload_n hx hb dX7_marginBy_51 rfl (lv_at hl 0 rfl) ?_
        exact W.iret (v := (sX7_marginOf w_8 a1)) hx hb hr (fun t ht hW => ⟨⟨_, wn_5, rfl, ⟨E.symm, hI_5⟩, by beta_reduce; rw [ht]; exact hP⟩, hS.F ht⟩) hS.2.2 dX7_marginBy_52
      · have E := E.trans (if_neg c_3)
        have fc_3 := i_nle c_3
        refine lv_aload_n hx hb dX7_marginBy_16 rfl (lv_at hl 1 rfl) ?_
        refine g7_lean hx hb hts hin hown hK hP (hts (.fieldLink RX7 25 "LoadedForTheLaneModel" "lean" "[I") (by decide +kernel)) dX7_marginBy_17 ?_
        refine lv_iload_n hx hb dX7_marginBy_20 rfl (lv_at hl 0 rfl) ?_
        refine lv_aload_n hx hb dX7_marginBy_21 rfl (lv_at hl 1 rfl) ?_
        refine g7_lean hx hb hts hin hown hK hP (hts (.fieldLink RX7 25 "LoadedForTheLaneModel" "lean" "[I") (by decide +kernel)) dX7_marginBy_22 ?_
        refine lv_iload_n hx hb dX7_marginBy_25 rfl (lv_at hl 0 rfl) ?_
        have ix_6 : vp_in x3_8 12 := ix_of (by omega) (by omega)
        refine l7_lean (j := x3_8.toNatClampNeg) hx hb hK hP ix_6 rfl dX7_marginBy_26 ?_
        refine lv_iload_n hx hb dX7_marginBy_27 rfl (lv_at hl 3 rfl) ?_
        refine lv_iadd hx hb dX7_marginBy_28 ?_
        refine vp_callSi (va_Run.run (va_runS (As := [.int ((w_8 5 (x3_8.toNatClampNeg)) + a2)]) (rest := [.int x3_8, .ref (ad 6)]) ⟨hx, hb, hml, hown, hts⟩ (kX7_heldLean l ((w_8 5 (x3_8.toNatClampNeg)) + a2)) (va_cwS 1 hts gX7_marginBy_X7_heldLean rfl rfl rfl mdX7_heldLean ⟨Nat.le_of_ble_eq_true rfl, Nat.le_of_ble_eq_true rfl⟩) s_pre rfl rfl hl.1 rfl (lv_room (Nat.le_of_ble_eq_true rfl)) dX7_marginBy_29 ⟨Nat.zero_le _, Nat.zero_le _⟩)) (fun r_7 hr_7 => ?_)
        subst hr_7
        have ix_8 : vp_in x3_8 12 := ix_of (by omega) (by omega)
        refine a7_lean (j := x3_8.toNatClampNeg) hx hb hK hP hd hS ix_8 rfl dX7_marginBy_32 (fun H locs hP hS => ?_)
        obtain ⟨wn_8, hwn_8⟩ : ∃ x, x = st w_8 5 (x3_8.toNatClampNeg) (sX7_heldLean ((w_8 5 (x3_8.toNatClampNeg)) + a2)) := ⟨_, rfl⟩
        rw [← hwn_8] at hP
        have E := bns_e E hwn_8
        have hk19 := (show wn_8 19 = w_8 19 by rw [hwn_8]; rfl).trans hk19
        have hI_8 : R7I wn_8 := by rw [hwn_8]; exact R7I_put_lean hI_8
        refine lv_iinc (v := x3_8 + 1) (lv' := [(3, .int (x3_8 + 1)), (0, .ref (ad 0)), (1, .int a1), (2, .int a2)]) hx hb dX7_marginBy_33 hl (k := 0) rfl rfl (by decide) rfl (fun ls hl => ?_)
        refine lv_goto (tgt := 8) hx hb dX7_marginBy_36 (by decide) ?_
        have := q_1
        try have := i_add (a := x3_8) (b := 1) (by omega) (by omega)
        exact ih_8 (x3_8 + 1) wn_8 H locs ls ⟨by omega, by omega, hk19⟩ (by omega) hI_8 hP hS (lv_sub hl [0, 1, 2, 3] rfl) E
  have := q_0
  exact L_8 13 0 wn_1 H locs ls ⟨by omega, by omega, hk19⟩ (by omega) hI_1 hP hS (lv_sub hl [0, 1, 2, 3] rfl) E
abbrev rmX7_leaning : Room := { frames := 6, cells := 0, slots := 0, locals := 139 }
set_option maxHeartbeats 4000000 in
set_option maxRecDepth 100000 in
theorem kX7_leaning (l : Launch) (D : va_G) (cI : ClassId) (ad : Nat → Nat) (w : Nat → Nat → Int32) (a1 : Int32) (hd : RD ad) (hI : R7I w)  : Met l yX7_leaning wsX7_leaning rmX7_leaning (va_Pc [Value.ref (ad 0), Value.int a1] (fun U => va_P D vwCl (RM cI ad w) U.heap ∧ va_K D vwCl [(cI, .int)] U)) (va_Qi (fun r u => (r, u) = sX7_leaning w a1 ∧ R7I u) (fun u t => va_P D vwCl (RM cI ad u) t.heap) (RA ad)) 0 0 (RA ad) := by
  refine Met.ofW (cc := cX7_leaning) (maxL := 4) (ret := (some .int)) (by decide) rfl ?_
  intro p e s m args below meth c s₁ B hml hv
  obtain ⟨rfl, hP, hK⟩ := hv
  have hx := B.exec
  have hb := B.bytes
  have hr := B.returns
  have hts := atoms_spec (ws := wsX7_leaning) B.pre
  have hown : s.vm.findClass RX7 = some m.cls := findClass_of_methodNamed B.named
  have hlocks := B.notSynchronized
  have hin : ∀ q ∈ wsX70, q ∈ wsX7_leaning := by decide +kernel
  have hl := lv_entry ([.ref (ad 0), .int a1]) (n := 4) (Nat.le_of_ble_eq_true rfl)
  rw [lg_entry_eq]
  generalize (lg_sl ([.ref (ad 0), .int a1]) ++ List.replicate (4 - (lg_sl ([.ref (ad 0), .int a1])).length) Slot.unset).toArray = ls at hl ⊢
  have hl : lv_has ls 4 [(0, .ref (ad 0)), (1, .int a1)] := hl
  suffices hgo : ∀ (H : Heap) (locs : List Loc), va_P D vwCl (RM cI ad w) H → va_S (RA ad) s.heap H locs → W p l e (headSpec wsX7_leaning rmX7_leaning).room s m [Value.ref (ad 0), Value.int a1].toArray below meth c H locs 0 0 (MQ below (va_Qi (fun r u => (r, u) = sX7_leaning w a1 ∧ R7I u) (fun u t => va_P D vwCl (RM cI ad u) t.heap) (RA ad)) [Value.ref (ad 0), Value.int a1].toArray s 0 0 (RA ad)) (F0 m 0 ls []) from hgo s.heap [] hP va_S.rf
  intro H locs hP hS
  have E := sX7_leaning.eq_1 w a1
  refine lv_iload_n hx hb dX7_leaning_0 rfl (lv_at hl 1 rfl) ?_
  refine vp_callSi (va_Run.run (va_runS (As := [.int a1]) (rest := []) ⟨hx, hb, hml, hown, hts⟩ (kX7_isWay l a1) (va_cwS 1 hts gX7_leaning_X7_isWay rfl rfl rfl mdX7_isWay ⟨Nat.le_of_ble_eq_true rfl, Nat.le_of_ble_eq_true rfl⟩) s_pre rfl rfl hl.1 rfl (lv_room (Nat.le_of_ble_eq_true rfl)) dX7_leaning_1 ⟨Nat.zero_le _, Nat.zero_le _⟩)) (fun r_1 hr_1 => ?_)
  obtain ⟨rfl, hz_1⟩ := hr_1
  refine lv_if_ne (tgt := 13) hx hb dX7_leaning_4 (by decide) (fun c_2 => ?_) (fun c_2 => ?_)
  · have E := E.trans (if_neg c_2)
    have fc_2 := i_ne c_2
    rw [q_0] at fc_2
    have gc_2 := fX7_isWay c_2
    refine lv_bipush (v := (-5)) hx hb dX7_leaning_13 (by decide +kernel) ?_
    refine lv_istore_n (lv' := [(2, .int (-5)), (0, .ref (ad 0)), (1, .int a1)]) hx hb dX7_leaning_15 rfl hl (by decide) rfl (fun ls hl => ?_)
    refine lv_bipush (v := (-4)) hx hb dX7_leaning_16 (by decide +kernel) ?_
    refine lv_istore_n (lv' := [(3, .int (-4)), (2, .int (-5)), (0, .ref (ad 0)), (1, .int a1)]) hx hb dX7_leaning_18 rfl hl (by decide) rfl (fun ls hl => ?_)
    have L_19 : ∀ (n_19 : Nat) (x2_19 : Int32) (x3_19 : Int32) (w_19 : Nat → Nat → Int32) (H : Heap) (locs : List Loc) (ls : Array Slot), (-4 ≤ x3_19.toInt ∧ x3_19.toInt ≤ 6) → (6 - x3_19.toInt < (n_19 : Int)) → R7I w_19 → va_P D vwCl (RM cI ad w_19) H → va_S (RA ad) s.heap H locs → lv_has ls 4 [(3, .int x3_19), (2, .int x2_19), (0, .ref (ad 0)), (1, .int a1)] → sX7_leaning w a1 = sX7_leaning_19 a1 n_19 x2_19 x3_19 w_19 → W p l e (headSpec wsX7_leaning rmX7_leaning).room s m [Value.ref (ad 0), Value.int a1].toArray below meth c H locs 0 0 (MQ below (va_Qi (fun r u => (r, u) = sX7_leaning w a1 ∧ R7I u) (fun u t => va_P D vwCl (RM cI ad u) t.heap) (RA ad)) [Value.ref (ad 0), Value.int a1].toArray s 0 0 (RA ad)) (F0 m 19 ls []) := by
      intro n_19
      induction n_19 with
      | zero =>
        intro x2_19 x3_19 w_19 H locs ls hinv hm
        obtain ⟨v0_19, v1_19⟩ := hinv
        exact absurd hm (by omega)
      | succ n_19 ih_19 =>
        intro x2_19 x3_19 w_19 H locs ls hinv hm_19 hI_19 hP hS hl E
        obtain ⟨v0_19, v1_19⟩ := hinv
        have E := E.trans (sX7_leaning_19.eq_2 ..)
        refine lv_iload_n hx hb dX7_leaning_19 rfl (lv_at hl 0 rfl) ?_
        refine lv_bipush (v := 6) hx hb dX7_leaning_20 (by decide +kernel) ?_
        refine lv_icmp_ge (tgt := 52) hx hb dX7_leaning_22 (by decide) (fun c_3 => ?_) (fun c_3 => ?_)
        · have E := E.trans (if_pos c_3)
          have fc_3 := i_le c_3
          rw [q_6] at fc_3
          refine lv_iload_n hx hb dX7_leaning_52 rfl (lv_at hl 1 rfl) ?_
          exact W.iret (v := x2_19) hx hb hr (fun t ht hW => ⟨⟨_, w_19, rfl, ⟨E.symm, hI_19⟩, by beta_reduce; rw [ht]; exact hP⟩, hS.F ht⟩) hS.2.2 dX7_leaning_53
        · have E := E.trans (if_neg c_3)
          have fc_3 := i_nle c_3
          rw [q_6] at fc_3
          refine lv_aload_n hx hb dX7_leaning_25 rfl (lv_at hl 2 rfl) ?_
          refine lv_iload_n hx hb dX7_leaning_26 rfl (lv_at hl 3 rfl) ?_
          refine lv_iload_n hx hb dX7_leaning_27 rfl (lv_at hl 0 rfl) ?_
          refine va_calli (va_runV (As := [.int a1, .int x3_19]) (rest := []) ⟨hx, hb, hml, hown, hts⟩ (kX7_marginBy l D cI ad w_19 a1 x3_19 hd hI_19 (by omega) (by omega)) (cwV 2 hts gX7_leaning_X7_marginBy rfl rfl rfl mdX7_marginBy ⟨Nat.le_of_ble_eq_true rfl, Nat.le_of_ble_eq_true rfl⟩) (r7_pre hK hP) rfl rfl hl.1 rfl (lv_room (Nat.le_of_ble_eq_true rfl)) dX7_leaning_28 ⟨Nat.zero_le _, Nat.zero_le _⟩) hS (fun _ _ h => h) (fun _ h => h) (fun rn_4 wn_4 t H locs ht hvm hp_4 hB hz hk hS => ?_)
          have hP : va_P D vwCl (RM cI ad wn_4) H := ht ▸ hB
          obtain ⟨hp_4, hI_4⟩ := hp_4
          have E := bnd_e E hp_4
          refine lv_aload_n hx hb dX7_leaning_31 rfl (lv_at hl 2 rfl) ?_
          refine lv_iload_n hx hb dX7_leaning_32 rfl (lv_at hl 3 rfl) ?_
          refine lv_iload_n hx hb dX7_leaning_33 rfl (lv_at hl 1 rfl) ?_
          refine va_calli (va_runV (As := [.int a1, .int x2_19]) (rest := [.int rn_4]) ⟨hx, hb, hml, hown, hts⟩ (kX7_marginBy l D cI ad wn_4 a1 x2_19 hd hI_4 (by omega) (by omega)) (cwV 2 hts gX7_leaning_X7_marginBy rfl rfl rfl mdX7_marginBy ⟨Nat.le_of_ble_eq_true rfl, Nat.le_of_ble_eq_true rfl⟩) (r7_pre hK hP) rfl rfl hl.1 rfl (lv_room (Nat.le_of_ble_eq_true rfl)) dX7_leaning_34 ⟨Nat.zero_le _, Nat.zero_le _⟩) hS (fun _ _ h => h) (fun _ h => h) (fun rn_5 wn_5 t H locs ht hvm hp_5 hB hz hk hS => ?_)
          have hP : va_P D vwCl (RM cI ad wn_5) H := ht ▸ hB
          obtain ⟨hp_5, hI_5⟩ := hp_5
          have E := bnd_e E hp_5
          refine lv_icmp_le (tgt := 44) hx hb dX7_leaning_37 (by decide) (fun c_6 => ?_) (fun c_6 => ?_)
          · have E := E.trans (if_pos c_6)
            have fc_6 := i_le c_6
            refine lv_iload_n hx hb dX7_leaning_44 rfl (lv_at hl 1 rfl) ?_
            refine lv_istore_n (lv' := [(2, .int x2_19), (3, .int x3_19), (0, .ref (ad 0)), (1, .int a1)]) hx hb dX7_leaning_45 rfl hl (by decide) rfl (fun ls hl => ?_)
            refine lv_iinc (v := x3_19 + 1) (lv' := [(3, .int (x3_19 + 1)), (2, .int x2_19), (0, .ref (ad 0)), (1, .int a1)]) hx hb dX7_leaning_46 hl (k := 1) rfl rfl (by decide) rfl (fun ls hl => ?_)
            refine lv_goto (tgt := 19) hx hb dX7_leaning_49 (by decide) ?_
            have := q_1
            try have := i_add (a := x3_19) (b := 1) (by omega) (by omega)
            exact ih_19 x2_19 (x3_19 + 1) wn_5 H locs ls ⟨by omega, by omega⟩ (by omega) hI_5 hP hS (lv_sub hl [0, 1, 2, 3] rfl) E
          · have E := E.trans (if_neg c_6)
            have fc_6 := i_nle c_6
            refine lv_iload_n hx hb dX7_leaning_40 rfl (lv_at hl 0 rfl) ?_
            refine lv_goto (tgt := 45) hx hb dX7_leaning_41 (by decide) ?_
            refine lv_istore_n (lv' := [(2, .int x3_19), (3, .int x3_19), (0, .ref (ad 0)), (1, .int a1)]) hx hb dX7_leaning_45 rfl hl (by decide) rfl (fun ls hl => ?_)
            refine lv_iinc (v := x3_19 + 1) (lv' := [(3, .int (x3_19 + 1)), (2, .int x3_19), (0, .ref (ad 0)), (1, .int a1)]) hx hb dX7_leaning_46 hl (k := 1) rfl rfl (by decide) rfl (fun ls hl => ?_)
            refine lv_goto (tgt := 19) hx hb dX7_leaning_49 (by decide) ?_
            have := q_1
            try have := i_add (a := x3_19) (b := 1) (by omega) (by omega)
            exact ih_19 x3_19 (x3_19 + 1) wn_5 H locs ls ⟨by omega, by omega⟩ (by omega) hI_5 hP hS (lv_sub hl [0, 1, 2, 3] rfl) E
    have := q_m5
    have := q_m4
    exact L_19 11 ((-5)) ((-4)) w H locs ls ⟨by omega, by omega⟩ (by omega) hI hP hS (lv_sub hl [0, 1, 2, 3] rfl) E
  · have E := E.trans (if_pos c_2)
    have fc_2 := i_eq c_2
    rw [q_0] at fc_2
    refine lv_aload_n hx hb dX7_leaning_7 rfl (lv_at hl 0 rfl) ?_
    refine lv_iconst (v := (-1)) hx hb dX7_leaning_8 (by decide) ?_
    have := q_m1
    refine va_calli (va_runV (As := [.int (-1)]) (rest := []) ⟨hx, hb, hml, hown, hts⟩ (kX7_lower l D cI ad w (-1) hd hI (by omega) (by omega)) (cwV 1 hts gX7_leaning_X7_lower rfl rfl rfl mdX7_lower ⟨Nat.le_of_ble_eq_true rfl, Nat.le_of_ble_eq_true rfl⟩) (r7_pre hK hP) rfl rfl hl.1 rfl (lv_room (Nat.le_of_ble_eq_true rfl)) dX7_leaning_9 ⟨Nat.zero_le _, Nat.zero_le _⟩) hS (fun _ _ h => h) (fun _ h => h) (fun rn_7 wn_7 t H locs ht hvm hp_7 hB hz hk hS => ?_)
    have hP : va_P D vwCl (RM cI ad wn_7) H := ht ▸ hB
    obtain ⟨hp_7, hI_7⟩ := hp_7
    have E := bnd_e E hp_7
    exact W.iret (v := rn_7) hx hb hr (fun t ht hW => ⟨⟨_, wn_7, rfl, ⟨E.symm, hI_7⟩, by beta_reduce; rw [ht]; exact hP⟩, hS.F ht⟩) hS.2.2 dX7_leaning_12
abbrev rmX7_enough : Room := { frames := 7, cells := 0, slots := 0, locals := 159 }
set_option maxHeartbeats 4000000 in
set_option maxRecDepth 100000 in
theorem kX7_enough (l : Launch) (D : va_G) (cI : ClassId) (ad : Nat → Nat) (w : Nat → Nat → Int32) (a1 : Int32) (hd : RD ad) (hI : R7I w)  : Met l yX7_enough wsX7_enough rmX7_enough (va_Pc [Value.ref (ad 0), Value.int a1] (fun U => va_P D vwCl (RM cI ad w) U.heap ∧ va_K D vwCl [(cI, .int)] U)) (va_Qi (fun r u => (r, u) = sX7_enough w a1 ∧ R7I u) (fun u t => va_P D vwCl (RM cI ad u) t.heap) (RA ad)) 0 0 (RA ad) := by
  refine Met.ofW (cc := cX7_enough) (maxL := 5) (ret := (some .int)) (by decide) rfl ?_
  intro p e s m args below meth c s₁ B hml hv
  obtain ⟨rfl, hP, hK⟩ := hv
  have hx := B.exec
  have hb := B.bytes
  have hr := B.returns
  have hts := atoms_spec (ws := wsX7_enough) B.pre
  have hown : s.vm.findClass RX7 = some m.cls := findClass_of_methodNamed B.named
  have hlocks := B.notSynchronized
  have hin : ∀ q ∈ wsX70, q ∈ wsX7_enough := by decide +kernel
  have hl := lv_entry ([.ref (ad 0), .int a1]) (n := 5) (Nat.le_of_ble_eq_true rfl)
  rw [lg_entry_eq]
  generalize (lg_sl ([.ref (ad 0), .int a1]) ++ List.replicate (5 - (lg_sl ([.ref (ad 0), .int a1])).length) Slot.unset).toArray = ls at hl ⊢
  have hl : lv_has ls 5 [(0, .ref (ad 0)), (1, .int a1)] := hl
  suffices hgo : ∀ (H : Heap) (locs : List Loc), va_P D vwCl (RM cI ad w) H → va_S (RA ad) s.heap H locs → W p l e (headSpec wsX7_enough rmX7_enough).room s m [Value.ref (ad 0), Value.int a1].toArray below meth c H locs 0 0 (MQ below (va_Qi (fun r u => (r, u) = sX7_enough w a1 ∧ R7I u) (fun u t => va_P D vwCl (RM cI ad u) t.heap) (RA ad)) [Value.ref (ad 0), Value.int a1].toArray s 0 0 (RA ad)) (F0 m 0 ls []) from hgo s.heap [] hP va_S.rf
  intro H locs hP hS
  have E := sX7_enough.eq_1 w a1
  refine lv_iload_n hx hb dX7_enough_0 rfl (lv_at hl 1 rfl) ?_
  refine vp_callSi (va_Run.run (va_runS (As := [.int a1]) (rest := []) ⟨hx, hb, hml, hown, hts⟩ (kX7_isWay l a1) (va_cwS 1 hts gX7_enough_X7_isWay rfl rfl rfl mdX7_isWay ⟨Nat.le_of_ble_eq_true rfl, Nat.le_of_ble_eq_true rfl⟩) s_pre rfl rfl hl.1 rfl (lv_room (Nat.le_of_ble_eq_true rfl)) dX7_enough_1 ⟨Nat.zero_le _, Nat.zero_le _⟩)) (fun r_1 hr_1 => ?_)
  obtain ⟨rfl, hz_1⟩ := hr_1
  refine lv_if_ne (tgt := 13) hx hb dX7_enough_4 (by decide) (fun c_2 => ?_) (fun c_2 => ?_)
  · have E := E.trans (if_neg c_2)
    have fc_2 := i_ne c_2
    rw [q_0] at fc_2
    have gc_2 := fX7_isWay c_2
    refine lv_aload_n hx hb dX7_enough_13 rfl (lv_at hl 0 rfl) ?_
    refine g7_setting hx hb hts hin hown hK hP (hts (.fieldLink RX7 13 "LoadedForTheLaneModel" "setting" "[I") (by decide +kernel)) dX7_enough_14 ?_
    refine lv_iconst (v := 0) hx hb dX7_enough_17 (by decide) ?_
    have ix_3 : vp_in 0 4 := by unfold vp_in; decide
    refine l7_setting (j := 0) hx hb hK hP ix_3 (by decide) dX7_enough_18 ?_
    refine lv_istore_n (lv' := [(2, .int (w 1 0)), (0, .ref (ad 0)), (1, .int a1)]) hx hb dX7_enough_19 rfl hl (by decide) rfl (fun ls hl => ?_)
    refine lv_bipush (v := (-9)) hx hb dX7_enough_20 (by decide +kernel) ?_
    refine lv_istore_n (lv' := [(3, .int (-9)), (2, .int (w 1 0)), (0, .ref (ad 0)), (1, .int a1)]) hx hb dX7_enough_22 rfl hl (by decide) rfl (fun ls hl => ?_)
    refine lv_iconst (v := 0) hx hb dX7_enough_23 (by decide) ?_
    refine lv_istore (lv' := [(4, .int 0), (3, .int (-9)), (2, .int (w 1 0)), (0, .ref (ad 0)), (1, .int a1)]) hx hb dX7_enough_24 hl (by decide) rfl (fun ls hl => ?_)
    have L_26 : ∀ (n_26 : Nat) (x3_26 : Int32) (x4_26 : Int32) (w_26 : Nat → Nat → Int32) (H : Heap) (locs : List Loc) (ls : Array Slot), (0 ≤ x4_26.toInt ∧ x4_26.toInt ≤ 6) → (6 - x4_26.toInt < (n_26 : Int)) → R7I w_26 → va_P D vwCl (RM cI ad w_26) H → va_S (RA ad) s.heap H locs → lv_has ls 5 [(4, .int x4_26), (3, .int x3_26), (2, .int (w 1 0)), (0, .ref (ad 0)), (1, .int a1)] → sX7_enough w a1 = sX7_enough_26 w a1 n_26 x3_26 x4_26 w_26 → W p l e (headSpec wsX7_enough rmX7_enough).room s m [Value.ref (ad 0), Value.int a1].toArray below meth c H locs 0 0 (MQ below (va_Qi (fun r u => (r, u) = sX7_enough w a1 ∧ R7I u) (fun u t => va_P D vwCl (RM cI ad u) t.heap) (RA ad)) [Value.ref (ad 0), Value.int a1].toArray s 0 0 (RA ad)) (F0 m 26 ls []) := by
      intro n_26
      induction n_26 with
      | zero =>
        intro x3_26 x4_26 w_26 H locs ls hinv hm
        obtain ⟨v0_26, v1_26⟩ := hinv
        exact absurd hm (by omega)
      | succ n_26 ih_26 =>
        intro x3_26 x4_26 w_26 H locs ls hinv hm_26 hI_26 hP hS hl E
        obtain ⟨v0_26, v1_26⟩ := hinv
        have E := E.trans (sX7_enough_26.eq_2 ..)
        refine lv_iload hx hb dX7_enough_26 (lv_at hl 0 rfl) ?_
        refine lv_bipush (v := 6) hx hb dX7_enough_28 (by decide +kernel) ?_
        refine lv_icmp_ge (tgt := 67) hx hb dX7_enough_30 (by decide) (fun c_4 => ?_) (fun c_4 => ?_)
        · have E := E.trans (if_pos c_4)
          have fc_4 := i_le c_4
          rw [q_6] at fc_4
          refine lv_aload_n hx hb dX7_enough_67 rfl (lv_at hl 3 rfl) ?_
          refine g7_setting hx hb hts hin hown hK hP (hts (.fieldLink RX7 13 "LoadedForTheLaneModel" "setting" "[I") (by decide +kernel)) dX7_enough_68 ?_
          refine lv_iconst (v := 0) hx hb dX7_enough_71 (by decide) ?_
          refine lv_iload_n hx hb dX7_enough_72 rfl (lv_at hl 2 rfl) ?_
          have ix_5 : vp_in 0 4 := by unfold vp_in; decide
          refine a7_setting (j := 0) hx hb hK hP hd hS ix_5 (by decide) dX7_enough_73 (fun H locs hP hS => ?_)
          obtain ⟨wn_5, hwn_5⟩ : ∃ x, x = st w_26 1 0 (w 1 0) := ⟨_, rfl⟩
          rw [← hwn_5] at hP
          have E := bns_e E hwn_5
          have hI_5 : R7I wn_5 := by rw [hwn_5]; exact R7I_put_setting hI_26
          refine lv_iload_n hx hb dX7_enough_74 rfl (lv_at hl 1 rfl) ?_
          exact W.iret (v := x3_26) hx hb hr (fun t ht hW => ⟨⟨_, wn_5, rfl, ⟨E.symm, hI_5⟩, by beta_reduce; rw [ht]; exact hP⟩, hS.F ht⟩) hS.2.2 dX7_enough_75
        · have E := E.trans (if_neg c_4)
          have fc_4 := i_nle c_4
          rw [q_6] at fc_4
          refine lv_iload_n hx hb dX7_enough_33 rfl (lv_at hl 1 rfl) ?_
          refine lv_if_ge (tgt := 67) hx hb dX7_enough_34 (by decide) (fun c_6 => ?_) (fun c_6 => ?_)
          · have E := E.trans (if_pos c_6)
            have fc_6 := i_le c_6
            rw [q_0] at fc_6
            refine lv_aload_n hx hb dX7_enough_67 rfl (lv_at hl 3 rfl) ?_
            refine g7_setting hx hb hts hin hown hK hP (hts (.fieldLink RX7 13 "LoadedForTheLaneModel" "setting" "[I") (by decide +kernel)) dX7_enough_68 ?_
            refine lv_iconst (v := 0) hx hb dX7_enough_71 (by decide) ?_
            refine lv_iload_n hx hb dX7_enough_72 rfl (lv_at hl 2 rfl) ?_
            have ix_7 : vp_in 0 4 := by unfold vp_in; decide
            refine a7_setting (j := 0) hx hb hK hP hd hS ix_7 (by decide) dX7_enough_73 (fun H locs hP hS => ?_)
            obtain ⟨wn_7, hwn_7⟩ : ∃ x, x = st w_26 1 0 (w 1 0) := ⟨_, rfl⟩
            rw [← hwn_7] at hP
            have E := bns_e E hwn_7
            have hI_7 : R7I wn_7 := by rw [hwn_7]; exact R7I_put_setting hI_26
            refine lv_iload_n hx hb dX7_enough_74 rfl (lv_at hl 1 rfl) ?_
            exact W.iret (v := x3_26) hx hb hr (fun t ht hW => ⟨⟨_, wn_7, rfl, ⟨E.symm, hI_7⟩, by beta_reduce; rw [ht]; exact hP⟩, hS.F ht⟩) hS.2.2 dX7_enough_75
          · have E := E.trans (if_neg c_6)
            have fc_6 := i_nle c_6
            rw [q_0] at fc_6
            refine lv_aload_n hx hb dX7_enough_37 rfl (lv_at hl 3 rfl) ?_
            refine g7_setting hx hb hts hin hown hK hP (hts (.fieldLink RX7 13 "LoadedForTheLaneModel" "setting" "[I") (by decide +kernel)) dX7_enough_38 ?_
            refine lv_iconst (v := 0) hx hb dX7_enough_41 (by decide) ?_
            refine lv_iload hx hb dX7_enough_42 (lv_at hl 0 rfl) ?_
            have ix_8 : vp_in 0 4 := by unfold vp_in; decide
            refine a7_setting (j := 0) hx hb hK hP hd hS ix_8 (by decide) dX7_enough_44 (fun H locs hP hS => ?_)
            obtain ⟨wn_8, hwn_8⟩ : ∃ x, x = st w_26 1 0 x4_26 := ⟨_, rfl⟩
            rw [← hwn_8] at hP
            have E := bns_e E hwn_8
            have hI_8 : R7I wn_8 := by rw [hwn_8]; exact R7I_put_setting hI_26
            refine lv_aload_n hx hb dX7_enough_45 rfl (lv_at hl 3 rfl) ?_
            refine lv_iload_n hx hb dX7_enough_46 rfl (lv_at hl 4 rfl) ?_
            refine va_calli (va_runV (As := [.int a1]) (rest := []) ⟨hx, hb, hml, hown, hts⟩ (kX7_doesHold l D cI ad wn_8 a1 hd hI_8 (by omega) (by omega)) (cwV 1 hts gX7_enough_X7_doesHold rfl rfl rfl mdX7_doesHold ⟨Nat.le_of_ble_eq_true rfl, Nat.le_of_ble_eq_true rfl⟩) (r7_pre hK hP) rfl rfl hl.1 rfl (lv_room (Nat.le_of_ble_eq_true rfl)) dX7_enough_47 ⟨Nat.zero_le _, Nat.zero_le _⟩) hS (fun _ _ h => h) (fun _ h => h) (fun rn_9 wn_9 t H locs ht hvm hp_9 hB hz hk hS => ?_)
            have hP : va_P D vwCl (RM cI ad wn_9) H := ht ▸ hB
            obtain ⟨hp_9, hz_9, hI_9, hq0_9⟩ := hp_9
            have E := bnd_e E hp_9
            have hzi_9 := z_int hz_9
            refine lv_if_eq (tgt := 58) hx hb dX7_enough_50 (by decide) (fun c_10 => ?_) (fun c_10 => ?_)
            · have E := E.trans (if_pos c_10)
              have fc_10 := i_eq c_10
              rw [q_0] at fc_10
              refine lv_bipush (v := (-9)) hx hb dX7_enough_58 (by decide +kernel) ?_
              refine lv_istore_n (lv' := [(3, .int (-9)), (4, .int x4_26), (2, .int (w 1 0)), (0, .ref (ad 0)), (1, .int a1)]) hx hb dX7_enough_60 rfl hl (by decide) rfl (fun ls hl => ?_)
              refine lv_iinc (v := x4_26 + 1) (lv' := [(4, .int (x4_26 + 1)), (3, .int (-9)), (2, .int (w 1 0)), (0, .ref (ad 0)), (1, .int a1)]) hx hb dX7_enough_61 hl (k := 1) rfl rfl (by decide) rfl (fun ls hl => ?_)
              refine lv_goto (tgt := 26) hx hb dX7_enough_64 (by decide) ?_
              have := q_m9
              have := q_1
              try have := i_add (a := x4_26) (b := 1) (by omega) (by omega)
              exact ih_26 ((-9)) (x4_26 + 1) wn_9 H locs ls ⟨by omega, by omega⟩ (by omega) hI_9 hP hS (lv_sub hl [0, 1, 2, 3, 4] rfl) E
            · have E := E.trans (if_neg c_10)
              have fc_10 := i_ne c_10
              rw [q_0] at fc_10
              refine lv_iload hx hb dX7_enough_53 (lv_at hl 0 rfl) ?_
              refine lv_goto (tgt := 60) hx hb dX7_enough_55 (by decide) ?_
              refine lv_istore_n (lv' := [(3, .int x4_26), (4, .int x4_26), (2, .int (w 1 0)), (0, .ref (ad 0)), (1, .int a1)]) hx hb dX7_enough_60 rfl hl (by decide) rfl (fun ls hl => ?_)
              refine lv_iinc (v := x4_26 + 1) (lv' := [(4, .int (x4_26 + 1)), (3, .int x4_26), (2, .int (w 1 0)), (0, .ref (ad 0)), (1, .int a1)]) hx hb dX7_enough_61 hl (k := 1) rfl rfl (by decide) rfl (fun ls hl => ?_)
              refine lv_goto (tgt := 26) hx hb dX7_enough_64 (by decide) ?_
              have := q_1
              try have := i_add (a := x4_26) (b := 1) (by omega) (by omega)
              exact ih_26 x4_26 (x4_26 + 1) wn_9 H locs ls ⟨by omega, by omega⟩ (by omega) hI_9 hP hS (lv_sub hl [0, 1, 2, 3, 4] rfl) E
    have := q_m9
    have := q_0
    exact L_26 7 ((-9)) 0 w H locs ls ⟨by omega, by omega⟩ (by omega) hI hP hS (lv_sub hl [0, 1, 2, 3, 4] rfl) E
  · have E := E.trans (if_pos c_2)
    have fc_2 := i_eq c_2
    rw [q_0] at fc_2
    refine lv_aload_n hx hb dX7_enough_7 rfl (lv_at hl 0 rfl) ?_
    refine lv_iconst (v := (-1)) hx hb dX7_enough_8 (by decide) ?_
    have := q_m1
    refine va_calli (va_runV (As := [.int (-1)]) (rest := []) ⟨hx, hb, hml, hown, hts⟩ (kX7_no l D cI ad w (-1) hd hI (by omega) (by omega)) (cwV 1 hts gX7_enough_X7_no rfl rfl rfl mdX7_no ⟨Nat.le_of_ble_eq_true rfl, Nat.le_of_ble_eq_true rfl⟩) (r7_pre hK hP) rfl rfl hl.1 rfl (lv_room (Nat.le_of_ble_eq_true rfl)) dX7_enough_9 ⟨Nat.zero_le _, Nat.zero_le _⟩) hS (fun _ _ h => h) (fun _ h => h) (fun rn_11 wn_11 t H locs ht hvm hp_11 hB hz hk hS => ?_)
    have hP : va_P D vwCl (RM cI ad wn_11) H := ht ▸ hB
    obtain ⟨hp_11, hI_11⟩ := hp_11
    have E := bnd_e E hp_11
    exact W.iret (v := rn_11) hx hb hr (fun t ht hW => ⟨⟨_, wn_11, rfl, ⟨E.symm, hI_11⟩, by beta_reduce; rw [ht]; exact hP⟩, hS.F ht⟩) hS.2.2 dX7_enough_12
abbrev rmX7_homeBy : Room := { frames := 7, cells := 0, slots := 0, locals := 159 }
set_option maxHeartbeats 4000000 in
set_option maxRecDepth 100000 in
theorem kX7_homeBy (l : Launch) (D : va_G) (cI : ClassId) (ad : Nat → Nat) (w : Nat → Nat → Int32) (a1 : Int32) (hd : RD ad) (hI : R7I w) (h1 : 0 ≤ a1.toInt) (h2 : a1.toInt < 2) : Met l yX7_homeBy wsX7_homeBy rmX7_homeBy (va_Pc [Value.ref (ad 0), Value.int a1] (fun U => va_P D vwCl (RM cI ad w) U.heap ∧ va_K D vwCl [(cI, .int)] U)) (va_Qi (fun r u => (r, u) = sX7_homeBy w a1 ∧ R7I u) (fun u t => va_P D vwCl (RM cI ad u) t.heap) (RA ad)) 0 0 (RA ad) := by
  refine Met.ofW (cc := cX7_homeBy) (maxL := 2) (ret := (some .int)) (by decide) rfl ?_
  intro p e s m args below meth c s₁ B hml hv
  obtain ⟨rfl, hP, hK⟩ := hv
  have hx := B.exec
  have hb := B.bytes
  have hr := B.returns
  have hts := atoms_spec (ws := wsX7_homeBy) B.pre
  have hown : s.vm.findClass RX7 = some m.cls := findClass_of_methodNamed B.named
  have hlocks := B.notSynchronized
  have hin : ∀ q ∈ wsX70, q ∈ wsX7_homeBy := by decide +kernel
  have hl := lv_entry ([.ref (ad 0), .int a1]) (n := 2) (Nat.le_of_ble_eq_true rfl)
  rw [lg_entry_eq]
  generalize (lg_sl ([.ref (ad 0), .int a1]) ++ List.replicate (2 - (lg_sl ([.ref (ad 0), .int a1])).length) Slot.unset).toArray = ls at hl ⊢
  have hl : lv_has ls 2 [(0, .ref (ad 0)), (1, .int a1)] := hl
  suffices hgo : ∀ (H : Heap) (locs : List Loc), va_P D vwCl (RM cI ad w) H → va_S (RA ad) s.heap H locs → W p l e (headSpec wsX7_homeBy rmX7_homeBy).room s m [Value.ref (ad 0), Value.int a1].toArray below meth c H locs 0 0 (MQ below (va_Qi (fun r u => (r, u) = sX7_homeBy w a1 ∧ R7I u) (fun u t => va_P D vwCl (RM cI ad u) t.heap) (RA ad)) [Value.ref (ad 0), Value.int a1].toArray s 0 0 (RA ad)) (F0 m 0 ls []) from hgo s.heap [] hP va_S.rf
  intro H locs hP hS
  have E := sX7_homeBy.eq_1 w a1
  refine lv_aload_n hx hb dX7_homeBy_0 rfl (lv_at hl 0 rfl) ?_
  refine lv_iload_n hx hb dX7_homeBy_1 rfl (lv_at hl 1 rfl) ?_
  refine va_calli (va_runV (As := [.int a1]) (rest := []) ⟨hx, hb, hml, hown, hts⟩ (kX7_doesHold l D cI ad w a1 hd hI (by omega) (by omega)) (cwV 1 hts gX7_homeBy_X7_doesHold rfl rfl rfl mdX7_doesHold ⟨Nat.le_of_ble_eq_true rfl, Nat.le_of_ble_eq_true rfl⟩) (r7_pre hK hP) rfl rfl hl.1 rfl (lv_room (Nat.le_of_ble_eq_true rfl)) dX7_homeBy_2 ⟨Nat.zero_le _, Nat.zero_le _⟩) hS (fun _ _ h => h) (fun _ h => h) (fun rn_1 wn_1 t H locs ht hvm hp_1 hB hz hk hS => ?_)
  have hP : va_P D vwCl (RM cI ad wn_1) H := ht ▸ hB
  obtain ⟨hp_1, hz_1, hI_1, hq0_1⟩ := hp_1
  have E := bnd_e E hp_1
  have hzi_1 := z_int hz_1
  refine lv_if_eq (tgt := 16) hx hb dX7_homeBy_5 (by decide) (fun c_2 => ?_) (fun c_2 => ?_)
  · have E := E.trans (if_pos c_2)
    have fc_2 := i_eq c_2
    rw [q_0] at fc_2
    refine lv_bipush (v := (-9)) hx hb dX7_homeBy_16 (by decide +kernel) ?_
    exact W.iret (v := (-9)) hx hb hr (fun t ht hW => ⟨⟨_, wn_1, rfl, ⟨E.symm, hI_1⟩, by beta_reduce; rw [ht]; exact hP⟩, hS.F ht⟩) hS.2.2 dX7_homeBy_18
  · have E := E.trans (if_neg c_2)
    have fc_2 := i_ne c_2
    rw [q_0] at fc_2
    refine lv_aload_n hx hb dX7_homeBy_8 rfl (lv_at hl 0 rfl) ?_
    refine lv_iload_n hx hb dX7_homeBy_9 rfl (lv_at hl 1 rfl) ?_
    refine vp_callSi (va_Run.run (va_runV (As := [.int a1]) (rest := []) ⟨hx, hb, hml, hown, hts⟩ (kX7_minutesOf l D cI ad wn_1 a1 hI_1 (by omega) (by omega)) (cwV 1 hts gX7_homeBy_X7_minutesOf rfl rfl rfl mdX7_minutesOf ⟨Nat.le_of_ble_eq_true rfl, Nat.le_of_ble_eq_true rfl⟩) (r7_pre hK hP) rfl rfl hl.1 rfl (lv_room (Nat.le_of_ble_eq_true rfl)) dX7_homeBy_10 ⟨Nat.zero_le _, Nat.zero_le _⟩)) (fun r_3 hr_3 => ?_)
    subst hr_3
    refine lv_goto (tgt := 18) hx hb dX7_homeBy_13 (by decide) ?_
    exact W.iret (v := (sX7_minutesOf wn_1 a1)) hx hb hr (fun t ht hW => ⟨⟨_, wn_1, rfl, ⟨E.symm, hI_1⟩, by beta_reduce; rw [ht]; exact hP⟩, hS.F ht⟩) hS.2.2 dX7_homeBy_18
abbrev rmX7_home : Room := { frames := 8, cells := 0, slots := 0, locals := 180 }
set_option maxHeartbeats 4000000 in
set_option maxRecDepth 100000 in
theorem kX7_home (l : Launch) (D : va_G) (cI : ClassId) (ad : Nat → Nat) (w : Nat → Nat → Int32) (a1 : Int32) (hd : RD ad) (hI : R7I w)  : Met l yX7_home wsX7_home rmX7_home (va_Pc [Value.ref (ad 0), Value.int a1] (fun U => va_P D vwCl (RM cI ad w) U.heap ∧ va_K D vwCl [(cI, .int)] U)) (va_Qi (fun r u => (r, u) = sX7_home w a1 ∧ R7I u) (fun u t => va_P D vwCl (RM cI ad u) t.heap) (RA ad)) 0 0 (RA ad) := by
  refine Met.ofW (cc := cX7_home) (maxL := 2) (ret := (some .int)) (by decide) rfl ?_
  intro p e s m args below meth c s₁ B hml hv
  obtain ⟨rfl, hP, hK⟩ := hv
  have hx := B.exec
  have hb := B.bytes
  have hr := B.returns
  have hts := atoms_spec (ws := wsX7_home) B.pre
  have hown : s.vm.findClass RX7 = some m.cls := findClass_of_methodNamed B.named
  have hlocks := B.notSynchronized
  have hin : ∀ q ∈ wsX70, q ∈ wsX7_home := by decide +kernel
  have hl := lv_entry ([.ref (ad 0), .int a1]) (n := 2) (Nat.le_of_ble_eq_true rfl)
  rw [lg_entry_eq]
  generalize (lg_sl ([.ref (ad 0), .int a1]) ++ List.replicate (2 - (lg_sl ([.ref (ad 0), .int a1])).length) Slot.unset).toArray = ls at hl ⊢
  have hl : lv_has ls 2 [(0, .ref (ad 0)), (1, .int a1)] := hl
  suffices hgo : ∀ (H : Heap) (locs : List Loc), va_P D vwCl (RM cI ad w) H → va_S (RA ad) s.heap H locs → W p l e (headSpec wsX7_home rmX7_home).room s m [Value.ref (ad 0), Value.int a1].toArray below meth c H locs 0 0 (MQ below (va_Qi (fun r u => (r, u) = sX7_home w a1 ∧ R7I u) (fun u t => va_P D vwCl (RM cI ad u) t.heap) (RA ad)) [Value.ref (ad 0), Value.int a1].toArray s 0 0 (RA ad)) (F0 m 0 ls []) from hgo s.heap [] hP va_S.rf
  intro H locs hP hS
  have E := sX7_home.eq_1 w a1
  refine lv_iload_n hx hb dX7_home_0 rfl (lv_at hl 1 rfl) ?_
  refine vp_callSi (va_Run.run (va_runS (As := [.int a1]) (rest := []) ⟨hx, hb, hml, hown, hts⟩ (kX7_isWay l a1) (va_cwS 1 hts gX7_home_X7_isWay rfl rfl rfl mdX7_isWay ⟨Nat.le_of_ble_eq_true rfl, Nat.le_of_ble_eq_true rfl⟩) s_pre rfl rfl hl.1 rfl (lv_room (Nat.le_of_ble_eq_true rfl)) dX7_home_1 ⟨Nat.zero_le _, Nat.zero_le _⟩)) (fun r_1 hr_1 => ?_)
  obtain ⟨rfl, hz_1⟩ := hr_1
  refine lv_if_eq (tgt := 15) hx hb dX7_home_4 (by decide) (fun c_2 => ?_) (fun c_2 => ?_)
  · have E := E.trans (if_pos c_2)
    have fc_2 := i_eq c_2
    rw [q_0] at fc_2
    refine lv_aload_n hx hb dX7_home_15 rfl (lv_at hl 0 rfl) ?_
    refine lv_iconst (v := (-1)) hx hb dX7_home_16 (by decide) ?_
    have := q_m1
    refine va_calli (va_runV (As := [.int (-1)]) (rest := []) ⟨hx, hb, hml, hown, hts⟩ (kX7_no l D cI ad w (-1) hd hI (by omega) (by omega)) (cwV 1 hts gX7_home_X7_no rfl rfl rfl mdX7_no ⟨Nat.le_of_ble_eq_true rfl, Nat.le_of_ble_eq_true rfl⟩) (r7_pre hK hP) rfl rfl hl.1 rfl (lv_room (Nat.le_of_ble_eq_true rfl)) dX7_home_17 ⟨Nat.zero_le _, Nat.zero_le _⟩) hS (fun _ _ h => h) (fun _ h => h) (fun rn_3 wn_3 t H locs ht hvm hp_3 hB hz hk hS => ?_)
    have hP : va_P D vwCl (RM cI ad wn_3) H := ht ▸ hB
    obtain ⟨hp_3, hI_3⟩ := hp_3
    have E := bnd_e E hp_3
    exact W.iret (v := rn_3) hx hb hr (fun t ht hW => ⟨⟨_, wn_3, rfl, ⟨E.symm, hI_3⟩, by beta_reduce; rw [ht]; exact hP⟩, hS.F ht⟩) hS.2.2 dX7_home_20
  · have E := E.trans (if_neg c_2)
    have fc_2 := i_ne c_2
    rw [q_0] at fc_2
    have gc_2 := fX7_isWay c_2
    refine lv_aload_n hx hb dX7_home_7 rfl (lv_at hl 0 rfl) ?_
    refine lv_iload_n hx hb dX7_home_8 rfl (lv_at hl 1 rfl) ?_
    refine va_calli (va_runV (As := [.int a1]) (rest := []) ⟨hx, hb, hml, hown, hts⟩ (kX7_homeBy l D cI ad w a1 hd hI (by omega) (by omega)) (cwV 1 hts gX7_home_X7_homeBy rfl rfl rfl mdX7_homeBy ⟨Nat.le_of_ble_eq_true rfl, Nat.le_of_ble_eq_true rfl⟩) (r7_pre hK hP) rfl rfl hl.1 rfl (lv_room (Nat.le_of_ble_eq_true rfl)) dX7_home_9 ⟨Nat.zero_le _, Nat.zero_le _⟩) hS (fun _ _ h => h) (fun _ h => h) (fun rn_4 wn_4 t H locs ht hvm hp_4 hB hz hk hS => ?_)
    have hP : va_P D vwCl (RM cI ad wn_4) H := ht ▸ hB
    obtain ⟨hp_4, hI_4⟩ := hp_4
    have E := bnd_e E hp_4
    refine lv_goto (tgt := 20) hx hb dX7_home_12 (by decide) ?_
    exact W.iret (v := rn_4) hx hb hr (fun t ht hW => ⟨⟨_, wn_4, rfl, ⟨E.symm, hI_4⟩, by beta_reduce; rw [ht]; exact hP⟩, hS.F ht⟩) hS.2.2 dX7_home_20
abbrev rmX7_which : Room := { frames := 8, cells := 0, slots := 0, locals := 180 }
set_option maxHeartbeats 4000000 in
set_option maxRecDepth 100000 in
theorem kX7_which (l : Launch) (D : va_G) (cI : ClassId) (ad : Nat → Nat) (w : Nat → Nat → Int32) (hd : RD ad) (hI : R7I w)  : Met l yX7_which wsX7_which rmX7_which (va_Pc [Value.ref (ad 0)] (fun U => va_P D vwCl (RM cI ad w) U.heap ∧ va_K D vwCl [(cI, .int)] U)) (va_Qi (fun r u => (r, u) = sX7_which w ∧ R7I u) (fun u t => va_P D vwCl (RM cI ad u) t.heap) (RA ad)) 0 0 (RA ad) := by
  refine Met.ofW (cc := cX7_which) (maxL := 3) (ret := (some .int)) (by decide) rfl ?_
  intro p e s m args below meth c s₁ B hml hv
  obtain ⟨rfl, hP, hK⟩ := hv
  have hx := B.exec
  have hb := B.bytes
  have hr := B.returns
  have hts := atoms_spec (ws := wsX7_which) B.pre
  have hown : s.vm.findClass RX7 = some m.cls := findClass_of_methodNamed B.named
  have hlocks := B.notSynchronized
  have hin : ∀ q ∈ wsX70, q ∈ wsX7_which := by decide +kernel
  have hl := lv_entry ([.ref (ad 0)]) (n := 3) (Nat.le_of_ble_eq_true rfl)
  rw [lg_entry_eq]
  generalize (lg_sl ([.ref (ad 0)]) ++ List.replicate (3 - (lg_sl ([.ref (ad 0)])).length) Slot.unset).toArray = ls at hl ⊢
  have hl : lv_has ls 3 [(0, .ref (ad 0))] := hl
  suffices hgo : ∀ (H : Heap) (locs : List Loc), va_P D vwCl (RM cI ad w) H → va_S (RA ad) s.heap H locs → W p l e (headSpec wsX7_which rmX7_which).room s m [Value.ref (ad 0)].toArray below meth c H locs 0 0 (MQ below (va_Qi (fun r u => (r, u) = sX7_which w ∧ R7I u) (fun u t => va_P D vwCl (RM cI ad u) t.heap) (RA ad)) [Value.ref (ad 0)].toArray s 0 0 (RA ad)) (F0 m 0 ls []) from hgo s.heap [] hP va_S.rf
  intro H locs hP hS
  have E := sX7_which.eq_1 w
  refine lv_aload_n hx hb dX7_which_0 rfl (lv_at hl 0 rfl) ?_
  refine lv_iconst (v := 0) hx hb dX7_which_1 (by decide) ?_
  have := q_0
  refine va_calli (va_runV (As := [.int 0]) (rest := []) ⟨hx, hb, hml, hown, hts⟩ (kX7_homeBy l D cI ad w 0 hd hI (by omega) (by omega)) (cwV 1 hts gX7_which_X7_homeBy rfl rfl rfl mdX7_homeBy ⟨Nat.le_of_ble_eq_true rfl, Nat.le_of_ble_eq_true rfl⟩) (r7_pre hK hP) rfl rfl hl.1 rfl (lv_room (Nat.le_of_ble_eq_true rfl)) dX7_which_2 ⟨Nat.zero_le _, Nat.zero_le _⟩) hS (fun _ _ h => h) (fun _ h => h) (fun rn_1 wn_1 t H locs ht hvm hp_1 hB hz hk hS => ?_)
  have hP : va_P D vwCl (RM cI ad wn_1) H := ht ▸ hB
  obtain ⟨hp_1, hI_1⟩ := hp_1
  have E := bnd_e E hp_1
  refine lv_istore_n (lv' := [(1, .int rn_1), (0, .ref (ad 0))]) hx hb dX7_which_5 rfl hl (by decide) rfl (fun ls hl => ?_)
  refine lv_aload_n hx hb dX7_which_6 rfl (lv_at hl 1 rfl) ?_
  refine lv_iconst (v := 1) hx hb dX7_which_7 (by decide) ?_
  have := q_1
  refine va_calli (va_runV (As := [.int 1]) (rest := []) ⟨hx, hb, hml, hown, hts⟩ (kX7_homeBy l D cI ad wn_1 1 hd hI_1 (by omega) (by omega)) (cwV 1 hts gX7_which_X7_homeBy rfl rfl rfl mdX7_homeBy ⟨Nat.le_of_ble_eq_true rfl, Nat.le_of_ble_eq_true rfl⟩) (r7_pre hK hP) rfl rfl hl.1 rfl (lv_room (Nat.le_of_ble_eq_true rfl)) dX7_which_8 ⟨Nat.zero_le _, Nat.zero_le _⟩) hS (fun _ _ h => h) (fun _ h => h) (fun rn_2 wn_2 t H locs ht hvm hp_2 hB hz hk hS => ?_)
  have hP : va_P D vwCl (RM cI ad wn_2) H := ht ▸ hB
  obtain ⟨hp_2, hI_2⟩ := hp_2
  have E := bnd_e E hp_2
  refine lv_istore_n (lv' := [(2, .int rn_2), (1, .int rn_1), (0, .ref (ad 0))]) hx hb dX7_which_11 rfl hl (by decide) rfl (fun ls hl => ?_)
  refine lv_iload_n hx hb dX7_which_12 rfl (lv_at hl 1 rfl) ?_
  refine lv_if_ge (tgt := 25) hx hb dX7_which_13 (by decide) (fun c_3 => ?_) (fun c_3 => ?_)
  · have E := E.trans (if_pos c_3)
    have fc_3 := i_le c_3
    rw [q_0] at fc_3
    refine lv_iload_n hx hb dX7_which_25 rfl (lv_at hl 1 rfl) ?_
    refine lv_if_lt (tgt := 38) hx hb dX7_which_26 (by decide) (fun c_4 => ?_) (fun c_4 => ?_)
    · have E := E.trans (if_pos c_4)
      have fc_4 := i_lt c_4
      rw [q_0] at fc_4
      refine lv_iconst (v := 1) hx hb dX7_which_38 (by decide) ?_
      refine lv_goto (tgt := 43) hx hb dX7_which_39 (by decide) ?_
      exact W.iret (v := 1) hx hb hr (fun t ht hW => ⟨⟨_, wn_2, rfl, ⟨E.symm, hI_2⟩, by beta_reduce; rw [ht]; exact hP⟩, hS.F ht⟩) hS.2.2 dX7_which_43
    · have E := E.trans (if_neg c_4)
      have fc_4 := i_nlt c_4
      rw [q_0] at fc_4
      refine lv_iload_n hx hb dX7_which_29 rfl (lv_at hl 0 rfl) ?_
      refine lv_if_lt (tgt := 42) hx hb dX7_which_30 (by decide) (fun c_5 => ?_) (fun c_5 => ?_)
      · have E := E.trans (if_pos c_5)
        have fc_5 := i_lt c_5
        rw [q_0] at fc_5
        refine lv_iconst (v := 0) hx hb dX7_which_42 (by decide) ?_
        exact W.iret (v := 0) hx hb hr (fun t ht hW => ⟨⟨_, wn_2, rfl, ⟨E.symm, hI_2⟩, by beta_reduce; rw [ht]; exact hP⟩, hS.F ht⟩) hS.2.2 dX7_which_43
      · have E := E.trans (if_neg c_5)
        have fc_5 := i_nlt c_5
        rw [q_0] at fc_5
        refine lv_iload_n hx hb dX7_which_33 rfl (lv_at hl 0 rfl) ?_
        refine lv_iload_n hx hb dX7_which_34 rfl (lv_at hl 1 rfl) ?_
        refine lv_icmp_ge (tgt := 42) hx hb dX7_which_35 (by decide) (fun c_6 => ?_) (fun c_6 => ?_)
        · have E := E.trans (if_pos c_6)
          have fc_6 := i_le c_6
          refine lv_iconst (v := 0) hx hb dX7_which_42 (by decide) ?_
          exact W.iret (v := 0) hx hb hr (fun t ht hW => ⟨⟨_, wn_2, rfl, ⟨E.symm, hI_2⟩, by beta_reduce; rw [ht]; exact hP⟩, hS.F ht⟩) hS.2.2 dX7_which_43
        · have E := E.trans (if_neg c_6)
          have fc_6 := i_nle c_6
          refine lv_iconst (v := 1) hx hb dX7_which_38 (by decide) ?_
          refine lv_goto (tgt := 43) hx hb dX7_which_39 (by decide) ?_
          exact W.iret (v := 1) hx hb hr (fun t ht hW => ⟨⟨_, wn_2, rfl, ⟨E.symm, hI_2⟩, by beta_reduce; rw [ht]; exact hP⟩, hS.F ht⟩) hS.2.2 dX7_which_43
  · have E := E.trans (if_neg c_3)
    have fc_3 := i_nle c_3
    rw [q_0] at fc_3
    refine lv_iload_n hx hb dX7_which_16 rfl (lv_at hl 0 rfl) ?_
    refine lv_if_ge (tgt := 25) hx hb dX7_which_17 (by decide) (fun c_7 => ?_) (fun c_7 => ?_)
    · have E := E.trans (if_pos c_7)
      have fc_7 := i_le c_7
      rw [q_0] at fc_7
      refine lv_iload_n hx hb dX7_which_25 rfl (lv_at hl 1 rfl) ?_
      refine lv_if_lt (tgt := 38) hx hb dX7_which_26 (by decide) (fun c_8 => ?_) (fun c_8 => ?_)
      · have E := E.trans (if_pos c_8)
        have fc_8 := i_lt c_8
        rw [q_0] at fc_8
        refine lv_iconst (v := 1) hx hb dX7_which_38 (by decide) ?_
        refine lv_goto (tgt := 43) hx hb dX7_which_39 (by decide) ?_
        exact W.iret (v := 1) hx hb hr (fun t ht hW => ⟨⟨_, wn_2, rfl, ⟨E.symm, hI_2⟩, by beta_reduce; rw [ht]; exact hP⟩, hS.F ht⟩) hS.2.2 dX7_which_43
      · have E := E.trans (if_neg c_8)
        have fc_8 := i_nlt c_8
        rw [q_0] at fc_8
        refine lv_iload_n hx hb dX7_which_29 rfl (lv_at hl 0 rfl) ?_
        refine lv_if_lt (tgt := 42) hx hb dX7_which_30 (by decide) (fun c_9 => ?_) (fun c_9 => ?_)
        · have E := E.trans (if_pos c_9)
          have fc_9 := i_lt c_9
          rw [q_0] at fc_9
          refine lv_iconst (v := 0) hx hb dX7_which_42 (by decide) ?_
          exact W.iret (v := 0) hx hb hr (fun t ht hW => ⟨⟨_, wn_2, rfl, ⟨E.symm, hI_2⟩, by beta_reduce; rw [ht]; exact hP⟩, hS.F ht⟩) hS.2.2 dX7_which_43
        · have E := E.trans (if_neg c_9)
          have fc_9 := i_nlt c_9
          rw [q_0] at fc_9
          refine lv_iload_n hx hb dX7_which_33 rfl (lv_at hl 0 rfl) ?_
          refine lv_iload_n hx hb dX7_which_34 rfl (lv_at hl 1 rfl) ?_
          refine lv_icmp_ge (tgt := 42) hx hb dX7_which_35 (by decide) (fun c_10 => ?_) (fun c_10 => ?_)
          · have E := E.trans (if_pos c_10)
            have fc_10 := i_le c_10
            refine lv_iconst (v := 0) hx hb dX7_which_42 (by decide) ?_
            exact W.iret (v := 0) hx hb hr (fun t ht hW => ⟨⟨_, wn_2, rfl, ⟨E.symm, hI_2⟩, by beta_reduce; rw [ht]; exact hP⟩, hS.F ht⟩) hS.2.2 dX7_which_43
          · have E := E.trans (if_neg c_10)
            have fc_10 := i_nle c_10
            refine lv_iconst (v := 1) hx hb dX7_which_38 (by decide) ?_
            refine lv_goto (tgt := 43) hx hb dX7_which_39 (by decide) ?_
            exact W.iret (v := 1) hx hb hr (fun t ht hW => ⟨⟨_, wn_2, rfl, ⟨E.symm, hI_2⟩, by beta_reduce; rw [ht]; exact hP⟩, hS.F ht⟩) hS.2.2 dX7_which_43
    · have E := E.trans (if_neg c_7)
      have fc_7 := i_nle c_7
      rw [q_0] at fc_7
      refine lv_bipush (v := (-9)) hx hb dX7_which_20 (by decide +kernel) ?_
      refine lv_goto (tgt := 43) hx hb dX7_which_22 (by decide) ?_
      exact W.iret (v := (-9)) hx hb hr (fun t ht hW => ⟨⟨_, wn_2, rfl, ⟨E.symm, hI_2⟩, by beta_reduce; rw [ht]; exact hP⟩, hS.F ht⟩) hS.2.2 dX7_which_43
abbrev rmX7_pitching : Room := { frames := 2, cells := 0, slots := 0, locals := 43 }
set_option maxHeartbeats 4000000 in
set_option maxRecDepth 100000 in
theorem kX7_pitching (l : Launch) (D : va_G) (cI : ClassId) (ad : Nat → Nat) (w : Nat → Nat → Int32) (a1 : Int32) (hd : RD ad) (hI : R7I w)  : Met l yX7_pitching wsX7_pitching rmX7_pitching (va_Pc [Value.ref (ad 0), Value.int a1] (fun U => va_P D vwCl (RM cI ad w) U.heap ∧ va_K D vwCl [(cI, .int)] U)) (va_Qi (fun r u => (r, u) = sX7_pitching w a1 ∧ R7I u) (fun u t => va_P D vwCl (RM cI ad u) t.heap) (RA ad)) 0 0 (RA ad) := by
  refine Met.ofW (cc := cX7_pitching) (maxL := 3) (ret := (some .int)) (by decide) rfl ?_
  intro p e s m args below meth c s₁ B hml hv
  obtain ⟨rfl, hP, hK⟩ := hv
  have hx := B.exec
  have hb := B.bytes
  have hr := B.returns
  have hts := atoms_spec (ws := wsX7_pitching) B.pre
  have hown : s.vm.findClass RX7 = some m.cls := findClass_of_methodNamed B.named
  have hlocks := B.notSynchronized
  have hin : ∀ q ∈ wsX70, q ∈ wsX7_pitching := by decide +kernel
  have hl := lv_entry ([.ref (ad 0), .int a1]) (n := 3) (Nat.le_of_ble_eq_true rfl)
  rw [lg_entry_eq]
  generalize (lg_sl ([.ref (ad 0), .int a1]) ++ List.replicate (3 - (lg_sl ([.ref (ad 0), .int a1])).length) Slot.unset).toArray = ls at hl ⊢
  have hl : lv_has ls 3 [(0, .ref (ad 0)), (1, .int a1)] := hl
  suffices hgo : ∀ (H : Heap) (locs : List Loc), va_P D vwCl (RM cI ad w) H → va_S (RA ad) s.heap H locs → W p l e (headSpec wsX7_pitching rmX7_pitching).room s m [Value.ref (ad 0), Value.int a1].toArray below meth c H locs 0 0 (MQ below (va_Qi (fun r u => (r, u) = sX7_pitching w a1 ∧ R7I u) (fun u t => va_P D vwCl (RM cI ad u) t.heap) (RA ad)) [Value.ref (ad 0), Value.int a1].toArray s 0 0 (RA ad)) (F0 m 0 ls []) from hgo s.heap [] hP va_S.rf
  intro H locs hP hS
  have E := sX7_pitching.eq_1 w a1
  refine lv_iload_n hx hb dX7_pitching_0 rfl (lv_at hl 1 rfl) ?_
  refine lv_iconst (v := 1) hx hb dX7_pitching_1 (by decide) ?_
  refine lv_bipush (v := 9) hx hb dX7_pitching_2 (by decide +kernel) ?_
  refine vp_callSi (va_Run.run (va_runS (As := [.int a1, .int 1, .int 9]) (rest := []) ⟨hx, hb, hml, hown, hts⟩ (kX7_bound l a1 1 9) (va_cwS 3 hts gX7_pitching_X7_bound rfl rfl rfl mdX7_bound ⟨Nat.le_of_ble_eq_true rfl, Nat.le_of_ble_eq_true rfl⟩) s_pre rfl rfl hl.1 rfl (lv_room (Nat.le_of_ble_eq_true rfl)) dX7_pitching_4 ⟨Nat.zero_le _, Nat.zero_le _⟩)) (fun r_1 hr_1 => ?_)
  subst hr_1
  have rf_1 := rX7_bound a1 1 9
  have := q_1
  have := q_9
  refine lv_istore_n (lv' := [(2, .int (sX7_bound a1 1 9)), (0, .ref (ad 0)), (1, .int a1)]) hx hb dX7_pitching_7 rfl hl (by decide) rfl (fun ls hl => ?_)
  refine lv_iload_n hx hb dX7_pitching_8 rfl (lv_at hl 0 rfl) ?_
  refine lv_if_eq (tgt := 20) hx hb dX7_pitching_9 (by decide) (fun c_2 => ?_) (fun c_2 => ?_)
  · have E := E.trans (if_pos c_2)
    have fc_2 := i_eq c_2
    rw [q_0] at fc_2
    refine lv_aload_n hx hb dX7_pitching_20 rfl (lv_at hl 1 rfl) ?_
    refine lv_iload_n hx hb dX7_pitching_21 rfl (lv_at hl 2 rfl) ?_
    refine vp_callSi (va_Run.run (va_runV (As := [.int a1]) (rest := []) ⟨hx, hb, hml, hown, hts⟩ (kX7_pitchMinutes l D cI ad w a1 hI (by omega)) (cwV 1 hts gX7_pitching_X7_pitchMinutes rfl rfl rfl mdX7_pitchMinutes ⟨Nat.le_of_ble_eq_true rfl, Nat.le_of_ble_eq_true rfl⟩) (r7_pre hK hP) rfl rfl hl.1 rfl (lv_room (Nat.le_of_ble_eq_true rfl)) dX7_pitching_22 ⟨Nat.zero_le _, Nat.zero_le _⟩)) (fun r_3 hr_3 => ?_)
    subst hr_3
    exact W.iret (v := (sX7_pitchMinutes w a1)) hx hb hr (fun t ht hW => ⟨⟨_, w, rfl, ⟨E.symm, hI⟩, by beta_reduce; rw [ht]; exact hP⟩, hS.F ht⟩) hS.2.2 dX7_pitching_25
  · have E := E.trans (if_neg c_2)
    have fc_2 := i_ne c_2
    rw [q_0] at fc_2
    refine lv_aload_n hx hb dX7_pitching_12 rfl (lv_at hl 1 rfl) ?_
    refine lv_iload_n hx hb dX7_pitching_13 rfl (lv_at hl 0 rfl) ?_
    refine va_calli (va_runV (As := [.int (sX7_bound a1 1 9)]) (rest := []) ⟨hx, hb, hml, hown, hts⟩ (kX7_no l D cI ad w (sX7_bound a1 1 9) hd hI (by omega) (by omega)) (cwV 1 hts gX7_pitching_X7_no rfl rfl rfl mdX7_no ⟨Nat.le_of_ble_eq_true rfl, Nat.le_of_ble_eq_true rfl⟩) (r7_pre hK hP) rfl rfl hl.1 rfl (lv_room (Nat.le_of_ble_eq_true rfl)) dX7_pitching_14 ⟨Nat.zero_le _, Nat.zero_le _⟩) hS (fun _ _ h => h) (fun _ h => h) (fun rn_4 wn_4 t H locs ht hvm hp_4 hB hz hk hS => ?_)
    have hP : va_P D vwCl (RM cI ad wn_4) H := ht ▸ hB
    obtain ⟨hp_4, hI_4⟩ := hp_4
    have E := bnd_e E hp_4
    refine lv_goto (tgt := 25) hx hb dX7_pitching_17 (by decide) ?_
    exact W.iret (v := rn_4) hx hb hr (fun t ht hW => ⟨⟨_, wn_4, rfl, ⟨E.symm, hI_4⟩, by beta_reduce; rw [ht]; exact hP⟩, hS.F ht⟩) hS.2.2 dX7_pitching_25
abbrev rmX7_holdsPitched : Room := { frames := 7, cells := 0, slots := 0, locals := 159 }
set_option maxHeartbeats 4000000 in
set_option maxRecDepth 100000 in
theorem kX7_holdsPitched (l : Launch) (D : va_G) (cI : ClassId) (ad : Nat → Nat) (w : Nat → Nat → Int32) (a1 : Int32) (a2 : Int32) (hd : RD ad) (hI : R7I w) (h1 : 0 ≤ a1.toInt) (h2 : a1.toInt < 2) : Met l yX7_holdsPitched wsX7_holdsPitched rmX7_holdsPitched (va_Pc [Value.ref (ad 0), Value.int a1, Value.int a2] (fun U => va_P D vwCl (RM cI ad w) U.heap ∧ va_K D vwCl [(cI, .int)] U)) (va_Qi (fun r u => (r, u) = sX7_holdsPitched w a1 a2 ∧ (r = 0 ∨ r = 1) ∧ R7I u) (fun u t => va_P D vwCl (RM cI ad u) t.heap) (RA ad)) 0 0 (RA ad) := by
  refine Met.ofW (cc := cX7_holdsPitched) (maxL := 4) (ret := (some .boolean)) (by decide) rfl ?_
  intro p e s m args below meth c s₁ B hml hv
  obtain ⟨rfl, hP, hK⟩ := hv
  have hx := B.exec
  have hb := B.bytes
  have hr := B.returns
  have hts := atoms_spec (ws := wsX7_holdsPitched) B.pre
  have hown : s.vm.findClass RX7 = some m.cls := findClass_of_methodNamed B.named
  have hlocks := B.notSynchronized
  have hin : ∀ q ∈ wsX70, q ∈ wsX7_holdsPitched := by decide +kernel
  have hl := lv_entry ([.ref (ad 0), .int a1, .int a2]) (n := 4) (Nat.le_of_ble_eq_true rfl)
  rw [lg_entry_eq]
  generalize (lg_sl ([.ref (ad 0), .int a1, .int a2]) ++ List.replicate (4 - (lg_sl ([.ref (ad 0), .int a1, .int a2])).length) Slot.unset).toArray = ls at hl ⊢
  have hl : lv_has ls 4 [(0, .ref (ad 0)), (1, .int a1), (2, .int a2)] := hl
  suffices hgo : ∀ (H : Heap) (locs : List Loc), va_P D vwCl (RM cI ad w) H → va_S (RA ad) s.heap H locs → W p l e (headSpec wsX7_holdsPitched rmX7_holdsPitched).room s m [Value.ref (ad 0), Value.int a1, Value.int a2].toArray below meth c H locs 0 0 (MQ below (va_Qi (fun r u => (r, u) = sX7_holdsPitched w a1 a2 ∧ (r = 0 ∨ r = 1) ∧ R7I u) (fun u t => va_P D vwCl (RM cI ad u) t.heap) (RA ad)) [Value.ref (ad 0), Value.int a1, Value.int a2].toArray s 0 0 (RA ad)) (F0 m 0 ls []) from hgo s.heap [] hP va_S.rf
  intro H locs hP hS
  have E := sX7_holdsPitched.eq_1 w a1 a2
  refine lv_aload_n hx hb dX7_holdsPitched_0 rfl (lv_at hl 0 rfl) ?_
  refine lv_iconst (v := 1) hx hb dX7_holdsPitched_1 (by decide) ?_
  refine lv_iconst (v := 1) hx hb dX7_holdsPitched_2 (by decide) ?_
  have := q_1
  refine va_callv (va_runV (As := [.int 1, .int 1]) (rest := []) ⟨hx, hb, hml, hown, hts⟩ (kX7_passesAll l D cI ad w 1 1 hd (by omega) (by omega) (Or.inr rfl)) (cwV 2 hts gX7_holdsPitched_X7_passesAll rfl rfl rfl mdX7_passesAll ⟨Nat.le_of_ble_eq_true rfl, Nat.le_of_ble_eq_true rfl⟩) (r7_pre hK hP) rfl rfl hl.1 rfl (lv_room (Nat.le_of_ble_eq_true rfl)) dX7_holdsPitched_3 ⟨Nat.zero_le _, Nat.zero_le _⟩) hS (fun _ _ h => h) (fun _ h => h) (fun wn_1 t H locs ht hvm hp_1 hB hz hk hS => ?_)
  have hP : va_P D vwCl (RM cI ad wn_1) H := ht ▸ hB
  have E := bns_e E hp_1
  have e_1 := fun k h1 h2 h3 => (congrFun hp_1 k).trans (iX7_save (w := w) (a := 1) k h1 h2 h3)
  have hI_1 : R7I wn_1 := R7I_eq hI (e_1 10 (by decide) (by decide) (by decide)) (e_1 11 (by decide) (by decide) (by decide)) (e_1 16 (by decide) (by decide) (by decide)) (e_1 17 (by decide) (by decide) (by decide)) (e_1 18 (by decide) (by decide) (by decide)) (e_1 27 (by decide) (by decide) (by decide))
  have el_1 : (wn_1 11 0).toInt = (w 11 0).toInt := by rw [e_1 11 (by decide) (by decide) (by decide)]
  have es_1 : (wn_1 18 0).toInt = (w 18 0).toInt := by rw [e_1 18 (by decide) (by decide) (by decide)]
  have hk19 : wn_1 19 = (sX7_passesAll w 1 1) 19 := congrFun hp_1 19
  refine lv_iconst (v := 0) hx hb dX7_holdsPitched_6 (by decide) ?_
  refine lv_istore_n (lv' := [(3, .int 0), (0, .ref (ad 0)), (1, .int a1), (2, .int a2)]) hx hb dX7_holdsPitched_7 rfl hl (by decide) rfl (fun ls hl => ?_)
  have L_8 : ∀ (n_8 : Nat) (x3_8 : Int32) (w_8 : Nat → Nat → Int32) (H : Heap) (locs : List Loc) (ls : Array Slot), (0 ≤ x3_8.toInt ∧ x3_8.toInt ≤ 12 ∧ w_8 19 = (sX7_passesAll w 1 1) 19) → (12 - x3_8.toInt < (n_8 : Int)) → R7I w_8 → va_P D vwCl (RM cI ad w_8) H → va_S (RA ad) s.heap H locs → lv_has ls 4 [(3, .int x3_8), (0, .ref (ad 0)), (1, .int a1), (2, .int a2)] → sX7_holdsPitched w a1 a2 = sX7_holdsPitched_8 a1 a2 n_8 x3_8 w_8 → W p l e (headSpec wsX7_holdsPitched rmX7_holdsPitched).room s m [Value.ref (ad 0), Value.int a1, Value.int a2].toArray below meth c H locs 0 0 (MQ below (va_Qi (fun r u => (r, u) = sX7_holdsPitched w a1 a2 ∧ (r = 0 ∨ r = 1) ∧ R7I u) (fun u t => va_P D vwCl (RM cI ad u) t.heap) (RA ad)) [Value.ref (ad 0), Value.int a1, Value.int a2].toArray s 0 0 (RA ad)) (F0 m 8 ls []) := by
    intro n_8
    induction n_8 with
    | zero =>
      intro x3_8 w_8 H locs ls hinv hm
      obtain ⟨v0_8, v1_8, v2_8⟩ := hinv
      exact absurd hm (by omega)
    | succ n_8 ih_8 =>
      intro x3_8 w_8 H locs ls hinv hm_8 hI_8 hP hS hl E
      obtain ⟨v0_8, v1_8, v2_8⟩ := hinv
      have E := E.trans (sX7_holdsPitched_8.eq_2 ..)
      have hk19 := v2_8
      refine lv_iload_n hx hb dX7_holdsPitched_8 rfl (lv_at hl 0 rfl) ?_
      refine lv_aload_n hx hb dX7_holdsPitched_9 rfl (lv_at hl 1 rfl) ?_
      refine g7_layers hx hb hts hin hown hK hP (hts (.fieldLink RX7 67 "LoadedForTheLaneModel" "layers" "I") (by decide +kernel)) dX7_holdsPitched_10 ?_
      have f_2 := R7I_layers hI_8
      refine lv_icmp_ge (tgt := 56) hx hb dX7_holdsPitched_13 (by decide) (fun c_3 => ?_) (fun c_3 => ?_)
      · have E := E.trans (if_pos c_3)
        have fc_3 := i_le c_3
        refine lv_aload_n hx hb dX7_holdsPitched_56 rfl (lv_at hl 1 rfl) ?_
        refine lv_iload_n hx hb dX7_holdsPitched_57 rfl (lv_at hl 2 rfl) ?_
        refine va_calli (va_runV (As := [.int a1]) (rest := []) ⟨hx, hb, hml, hown, hts⟩ (kX7_doesHold l D cI ad w_8 a1 hd hI_8 (by omega) (by omega)) (cwV 1 hts gX7_holdsPitched_X7_doesHold rfl rfl rfl mdX7_doesHold ⟨Nat.le_of_ble_eq_true rfl, Nat.le_of_ble_eq_true rfl⟩) (r7_pre hK hP) rfl rfl hl.1 rfl (lv_room (Nat.le_of_ble_eq_true rfl)) dX7_holdsPitched_58 ⟨Nat.zero_le _, Nat.zero_le _⟩) hS (fun _ _ h => h) (fun _ h => h) (fun rn_4 wn_4 t H locs ht hvm hp_4 hB hz hk hS => ?_)
        have hP : va_P D vwCl (RM cI ad wn_4) H := ht ▸ hB
        obtain ⟨hp_4, hz_4, hI_4, hq0_4⟩ := hp_4
        have E := bnd_e E hp_4
        have hzi_4 := z_int hz_4
        have ft4_layers : (wn_4 11 0).toInt = (w_8 11 0).toInt := by rw [hq0_4 11 (by decide) (by decide)]
        have hk19 := (hq0_4 19 (by decide) (by decide)).trans hk19
        refine lv_istore_n (lv' := [(3, .int rn_4), (0, .ref (ad 0)), (1, .int a1), (2, .int a2)]) hx hb dX7_holdsPitched_61 rfl hl (by decide) rfl (fun ls hl => ?_)
        refine lv_aload_n hx hb dX7_holdsPitched_62 rfl (lv_at hl 1 rfl) ?_
        refine lv_iconst (v := 1) hx hb dX7_holdsPitched_63 (by decide) ?_
        refine lv_iconst (v := 0) hx hb dX7_holdsPitched_64 (by decide) ?_
        have := q_1
        have := q_0
        refine va_callv (va_runV (As := [.int 1, .int 0]) (rest := []) ⟨hx, hb, hml, hown, hts⟩ (kX7_passesAll l D cI ad wn_4 1 0 hd (by omega) (by omega) (Or.inl rfl)) (cwV 2 hts gX7_holdsPitched_X7_passesAll rfl rfl rfl mdX7_passesAll ⟨Nat.le_of_ble_eq_true rfl, Nat.le_of_ble_eq_true rfl⟩) (r7_pre hK hP) rfl rfl hl.1 rfl (lv_room (Nat.le_of_ble_eq_true rfl)) dX7_holdsPitched_65 ⟨Nat.zero_le _, Nat.zero_le _⟩) hS (fun _ _ h => h) (fun _ h => h) (fun wn_5 t H locs ht hvm hp_5 hB hz hk hS => ?_)
        have hP : va_P D vwCl (RM cI ad wn_5) H := ht ▸ hB
        have E := bns_e E hp_5
        have hI_5 : R7I wn_5 := by rw [show wn_5 = _ from hp_5]; exact iX7_restore hI hI_4 hk19
        refine lv_iload_n hx hb dX7_holdsPitched_68 rfl (lv_at hl 0 rfl) ?_
        exact W.zret (ty := .boolean) (v := rn_4) hx hb hr (z_nar hz_4) (fun t ht hW => ⟨⟨_, wn_5, rfl, ⟨E.symm, hz_4, hI_5⟩, by beta_reduce; rw [ht]; exact hP⟩, hS.F ht⟩) hS.2.2 dX7_holdsPitched_69
      · have E := E.trans (if_neg c_3)
        have fc_3 := i_nle c_3
        refine lv_iload_n hx hb dX7_holdsPitched_16 rfl (lv_at hl 3 rfl) ?_
        refine lv_aload_n hx hb dX7_holdsPitched_17 rfl (lv_at hl 1 rfl) ?_
        refine g7_setting hx hb hts hin hown hK hP (hts (.fieldLink RX7 13 "LoadedForTheLaneModel" "setting" "[I") (by decide +kernel)) dX7_holdsPitched_18 ?_
        refine lv_iconst (v := 1) hx hb dX7_holdsPitched_21 (by decide) ?_
        have ix_6 : vp_in 1 4 := by unfold vp_in; decide
        refine l7_setting (j := 1) hx hb hK hP ix_6 (by decide) dX7_holdsPitched_22 ?_
        refine lv_icmp_le (tgt := 56) hx hb dX7_holdsPitched_23 (by decide) (fun c_7 => ?_) (fun c_7 => ?_)
        · have E := E.trans (if_pos c_7)
          have fc_7 := i_le c_7
          refine lv_aload_n hx hb dX7_holdsPitched_56 rfl (lv_at hl 1 rfl) ?_
          refine lv_iload_n hx hb dX7_holdsPitched_57 rfl (lv_at hl 2 rfl) ?_
          refine va_calli (va_runV (As := [.int a1]) (rest := []) ⟨hx, hb, hml, hown, hts⟩ (kX7_doesHold l D cI ad w_8 a1 hd hI_8 (by omega) (by omega)) (cwV 1 hts gX7_holdsPitched_X7_doesHold rfl rfl rfl mdX7_doesHold ⟨Nat.le_of_ble_eq_true rfl, Nat.le_of_ble_eq_true rfl⟩) (r7_pre hK hP) rfl rfl hl.1 rfl (lv_room (Nat.le_of_ble_eq_true rfl)) dX7_holdsPitched_58 ⟨Nat.zero_le _, Nat.zero_le _⟩) hS (fun _ _ h => h) (fun _ h => h) (fun rn_8 wn_8 t H locs ht hvm hp_8 hB hz hk hS => ?_)
          have hP : va_P D vwCl (RM cI ad wn_8) H := ht ▸ hB
          obtain ⟨hp_8, hz_8, hI_8, hq0_8⟩ := hp_8
          have E := bnd_e E hp_8
          have hzi_8 := z_int hz_8
          have ft8_layers : (wn_8 11 0).toInt = (w_8 11 0).toInt := by rw [hq0_8 11 (by decide) (by decide)]
          have hk19 := (hq0_8 19 (by decide) (by decide)).trans hk19
          refine lv_istore_n (lv' := [(3, .int rn_8), (0, .ref (ad 0)), (1, .int a1), (2, .int a2)]) hx hb dX7_holdsPitched_61 rfl hl (by decide) rfl (fun ls hl => ?_)
          refine lv_aload_n hx hb dX7_holdsPitched_62 rfl (lv_at hl 1 rfl) ?_
          refine lv_iconst (v := 1) hx hb dX7_holdsPitched_63 (by decide) ?_
          refine lv_iconst (v := 0) hx hb dX7_holdsPitched_64 (by decide) ?_
          have := q_1
          have := q_0
          refine va_callv (va_runV (As := [.int 1, .int 0]) (rest := []) ⟨hx, hb, hml, hown, hts⟩ (kX7_passesAll l D cI ad wn_8 1 0 hd (by omega) (by omega) (Or.inl rfl)) (cwV 2 hts gX7_holdsPitched_X7_passesAll rfl rfl rfl mdX7_passesAll ⟨Nat.le_of_ble_eq_true rfl, Nat.le_of_ble_eq_true rfl⟩) (r7_pre hK hP) rfl rfl hl.1 rfl (lv_room (Nat.le_of_ble_eq_true rfl)) dX7_holdsPitched_65 ⟨Nat.zero_le _, Nat.zero_le _⟩) hS (fun _ _ h => h) (fun _ h => h) (fun wn_9 t H locs ht hvm hp_9 hB hz hk hS => ?_)
          have hP : va_P D vwCl (RM cI ad wn_9) H := ht ▸ hB
          have E := bns_e E hp_9
          have hI_9 : R7I wn_9 := by rw [show wn_9 = _ from hp_9]; exact iX7_restore hI hI_8 hk19
          refine lv_iload_n hx hb dX7_holdsPitched_68 rfl (lv_at hl 0 rfl) ?_
          exact W.zret (ty := .boolean) (v := rn_8) hx hb hr (z_nar hz_8) (fun t ht hW => ⟨⟨_, wn_9, rfl, ⟨E.symm, hz_8, hI_9⟩, by beta_reduce; rw [ht]; exact hP⟩, hS.F ht⟩) hS.2.2 dX7_holdsPitched_69
        · have E := E.trans (if_neg c_7)
          have fc_7 := i_nle c_7
          refine lv_aload_n hx hb dX7_holdsPitched_26 rfl (lv_at hl 1 rfl) ?_
          refine g7_badly hx hb hts hin hown hK hP (hts (.fieldLink RX7 28 "LoadedForTheLaneModel" "badly" "[I") (by decide +kernel)) dX7_holdsPitched_27 ?_
          refine lv_iload_n hx hb dX7_holdsPitched_30 rfl (lv_at hl 0 rfl) ?_
          refine lv_aload_n hx hb dX7_holdsPitched_31 rfl (lv_at hl 1 rfl) ?_
          refine g7_sheaves hx hb hts hin hown hK hP (hts (.fieldLink RX7 19 "LoadedForTheLaneModel" "sheaves" "[I") (by decide +kernel)) dX7_holdsPitched_32 ?_
          refine lv_iload_n hx hb dX7_holdsPitched_35 rfl (lv_at hl 0 rfl) ?_
          have ix_10 : vp_in x3_8 12 := ix_of (by omega) (by omega)
          refine l7_sheaves (j := x3_8.toNatClampNeg) hx hb hK hP ix_10 rfl dX7_holdsPitched_36 ?_
          refine lv_iload_n hx hb dX7_holdsPitched_37 rfl (lv_at hl 3 rfl) ?_
          refine lv_aload_n hx hb dX7_holdsPitched_38 rfl (lv_at hl 1 rfl) ?_
          refine g7_setting hx hb hts hin hown hK hP (hts (.fieldLink RX7 13 "LoadedForTheLaneModel" "setting" "[I") (by decide +kernel)) dX7_holdsPitched_39 ?_
          refine lv_iconst (v := 1) hx hb dX7_holdsPitched_42 (by decide) ?_
          have ix_11 : vp_in 1 4 := by unfold vp_in; decide
          refine l7_setting (j := 1) hx hb hK hP ix_11 (by decide) dX7_holdsPitched_43 ?_
          refine lv_isub hx hb dX7_holdsPitched_44 ?_
          refine lv_imul hx hb dX7_holdsPitched_45 ?_
          refine lv_bipush (v := 9) hx hb dX7_holdsPitched_46 (by decide +kernel) ?_
          refine lv_idiv hx hb dX7_holdsPitched_48 (by decide) ?_
          have ix_12 : vp_in x3_8 12 := ix_of (by omega) (by omega)
          refine a7_badly (j := x3_8.toNatClampNeg) hx hb hK hP hd hS ix_12 rfl dX7_holdsPitched_49 (fun H locs hP hS => ?_)
          obtain ⟨wn_12, hwn_12⟩ : ∃ x, x = st w_8 6 (x3_8.toNatClampNeg) (((w_8 3 (x3_8.toNatClampNeg)) * (a2 - (w_8 1 1))) / 9) := ⟨_, rfl⟩
          rw [← hwn_12] at hP
          have E := bns_e E hwn_12
          have ft12_layers : (wn_12 11 0).toInt = (w_8 11 0).toInt := by rw [hwn_12]; rfl
          have fv_12 : (wn_12 6 (x3_8.toNatClampNeg)).toInt = (((w_8 3 (x3_8.toNatClampNeg)) * (a2 - (w_8 1 1))) / 9).toInt := by rw [hwn_12, st_rd]
          have hk19 := (show wn_12 19 = w_8 19 by rw [hwn_12]; rfl).trans hk19
          have hI_12 : R7I wn_12 := by rw [hwn_12]; exact R7I_put_badly hI_8
          refine lv_iinc (v := x3_8 + 1) (lv' := [(3, .int (x3_8 + 1)), (0, .ref (ad 0)), (1, .int a1), (2, .int a2)]) hx hb dX7_holdsPitched_50 hl (k := 0) rfl rfl (by decide) rfl (fun ls hl => ?_)
          refine lv_goto (tgt := 8) hx hb dX7_holdsPitched_53 (by decide) ?_
          have := q_1
          try have := i_add (a := x3_8) (b := 1) (by omega) (by omega)
          exact ih_8 (x3_8 + 1) wn_12 H locs ls ⟨by omega, by omega, hk19⟩ (by omega) hI_12 hP hS (lv_sub hl [0, 1, 2, 3] rfl) E
  have := q_0
  exact L_8 13 0 wn_1 H locs ls ⟨by omega, by omega, hk19⟩ (by omega) hI_1 hP hS (lv_sub hl [0, 1, 2, 3] rfl) E
abbrev rmX7_quick : Room := { frames := 8, cells := 0, slots := 0, locals := 182 }
set_option maxHeartbeats 4000000 in
set_option maxRecDepth 100000 in
theorem kX7_quick (l : Launch) (D : va_G) (cI : ClassId) (ad : Nat → Nat) (w : Nat → Nat → Int32) (a1 : Int32) (hd : RD ad) (hI : R7I w)  : Met l yX7_quick wsX7_quick rmX7_quick (va_Pc [Value.ref (ad 0), Value.int a1] (fun U => va_P D vwCl (RM cI ad w) U.heap ∧ va_K D vwCl [(cI, .int)] U)) (va_Qi (fun r u => (r, u) = sX7_quick w a1 ∧ R7I u) (fun u t => va_P D vwCl (RM cI ad u) t.heap) (RA ad)) 0 0 (RA ad) := by
  refine Met.ofW (cc := cX7_quick) (maxL := 4) (ret := (some .int)) (by decide) rfl ?_
  intro p e s m args below meth c s₁ B hml hv
  obtain ⟨rfl, hP, hK⟩ := hv
  have hx := B.exec
  have hb := B.bytes
  have hr := B.returns
  have hts := atoms_spec (ws := wsX7_quick) B.pre
  have hown : s.vm.findClass RX7 = some m.cls := findClass_of_methodNamed B.named
  have hlocks := B.notSynchronized
  have hin : ∀ q ∈ wsX70, q ∈ wsX7_quick := by decide +kernel
  have hl := lv_entry ([.ref (ad 0), .int a1]) (n := 4) (Nat.le_of_ble_eq_true rfl)
  rw [lg_entry_eq]
  generalize (lg_sl ([.ref (ad 0), .int a1]) ++ List.replicate (4 - (lg_sl ([.ref (ad 0), .int a1])).length) Slot.unset).toArray = ls at hl ⊢
  have hl : lv_has ls 4 [(0, .ref (ad 0)), (1, .int a1)] := hl
  suffices hgo : ∀ (H : Heap) (locs : List Loc), va_P D vwCl (RM cI ad w) H → va_S (RA ad) s.heap H locs → W p l e (headSpec wsX7_quick rmX7_quick).room s m [Value.ref (ad 0), Value.int a1].toArray below meth c H locs 0 0 (MQ below (va_Qi (fun r u => (r, u) = sX7_quick w a1 ∧ R7I u) (fun u t => va_P D vwCl (RM cI ad u) t.heap) (RA ad)) [Value.ref (ad 0), Value.int a1].toArray s 0 0 (RA ad)) (F0 m 0 ls []) from hgo s.heap [] hP va_S.rf
  intro H locs hP hS
  have E := sX7_quick.eq_1 w a1
  refine lv_iload_n hx hb dX7_quick_0 rfl (lv_at hl 1 rfl) ?_
  refine vp_callSi (va_Run.run (va_runS (As := [.int a1]) (rest := []) ⟨hx, hb, hml, hown, hts⟩ (kX7_isWay l a1) (va_cwS 1 hts gX7_quick_X7_isWay rfl rfl rfl mdX7_isWay ⟨Nat.le_of_ble_eq_true rfl, Nat.le_of_ble_eq_true rfl⟩) s_pre rfl rfl hl.1 rfl (lv_room (Nat.le_of_ble_eq_true rfl)) dX7_quick_1 ⟨Nat.zero_le _, Nat.zero_le _⟩)) (fun r_1 hr_1 => ?_)
  obtain ⟨rfl, hz_1⟩ := hr_1
  refine lv_if_ne (tgt := 13) hx hb dX7_quick_4 (by decide) (fun c_2 => ?_) (fun c_2 => ?_)
  · have E := E.trans (if_neg c_2)
    have fc_2 := i_ne c_2
    rw [q_0] at fc_2
    have gc_2 := fX7_isWay c_2
    refine lv_bipush (v := (-9)) hx hb dX7_quick_13 (by decide +kernel) ?_
    refine lv_istore_n (lv' := [(2, .int (-9)), (0, .ref (ad 0)), (1, .int a1)]) hx hb dX7_quick_15 rfl hl (by decide) rfl (fun ls hl => ?_)
    refine lv_iconst (v := 1) hx hb dX7_quick_16 (by decide) ?_
    refine lv_istore_n (lv' := [(3, .int 1), (2, .int (-9)), (0, .ref (ad 0)), (1, .int a1)]) hx hb dX7_quick_17 rfl hl (by decide) rfl (fun ls hl => ?_)
    have L_18 : ∀ (n_18 : Nat) (x2_18 : Int32) (x3_18 : Int32) (w_18 : Nat → Nat → Int32) (H : Heap) (locs : List Loc) (ls : Array Slot), (1 ≤ x3_18.toInt ∧ x3_18.toInt ≤ 10 ∧ x2_18.toInt = -9 ∨ 0 < x2_18.toInt) → (10 - x3_18.toInt < (n_18 : Int)) → R7I w_18 → va_P D vwCl (RM cI ad w_18) H → va_S (RA ad) s.heap H locs → lv_has ls 4 [(3, .int x3_18), (2, .int x2_18), (0, .ref (ad 0)), (1, .int a1)] → sX7_quick w a1 = sX7_quick_18 a1 n_18 x2_18 x3_18 w_18 → W p l e (headSpec wsX7_quick rmX7_quick).room s m [Value.ref (ad 0), Value.int a1].toArray below meth c H locs 0 0 (MQ below (va_Qi (fun r u => (r, u) = sX7_quick w a1 ∧ R7I u) (fun u t => va_P D vwCl (RM cI ad u) t.heap) (RA ad)) [Value.ref (ad 0), Value.int a1].toArray s 0 0 (RA ad)) (F0 m 18 ls []) := by
      intro n_18
      induction n_18 with
      | zero =>
        intro x2_18 x3_18 w_18 H locs ls hinv hm
        obtain ⟨v0_18, v1_18, v2_18⟩ := hinv
        exact absurd hm (by omega)
      | succ n_18 ih_18 =>
        intro x2_18 x3_18 w_18 H locs ls hinv hm_18 hI_18 hP hS hl E
        obtain ⟨v0_18, v1_18, v2_18⟩ := hinv
        have E := E.trans (sX7_quick_18.eq_2 ..)
        refine lv_iload_n hx hb dX7_quick_18 rfl (lv_at hl 0 rfl) ?_
        refine lv_bipush (v := 10) hx hb dX7_quick_19 (by decide +kernel) ?_
        refine lv_icmp_ge (tgt := 58) hx hb dX7_quick_21 (by decide) (fun c_3 => ?_) (fun c_3 => ?_)
        · have E := E.trans (if_pos c_3)
          have fc_3 := i_le c_3
          rw [q_10] at fc_3
          refine lv_iload_n hx hb dX7_quick_58 rfl (lv_at hl 1 rfl) ?_
          exact W.iret (v := x2_18) hx hb hr (fun t ht hW => ⟨⟨_, w_18, rfl, ⟨E.symm, hI_18⟩, by beta_reduce; rw [ht]; exact hP⟩, hS.F ht⟩) hS.2.2 dX7_quick_59
        · have E := E.trans (if_neg c_3)
          have fc_3 := i_nle c_3
          rw [q_10] at fc_3
          refine lv_aload_n hx hb dX7_quick_24 rfl (lv_at hl 2 rfl) ?_
          refine lv_iload_n hx hb dX7_quick_25 rfl (lv_at hl 3 rfl) ?_
          refine lv_iload_n hx hb dX7_quick_26 rfl (lv_at hl 0 rfl) ?_
          refine va_calli (va_runV (As := [.int a1, .int x3_18]) (rest := []) ⟨hx, hb, hml, hown, hts⟩ (kX7_holdsPitched l D cI ad w_18 a1 x3_18 hd hI_18 (by omega) (by omega)) (cwV 2 hts gX7_quick_X7_holdsPitched rfl rfl rfl mdX7_holdsPitched ⟨Nat.le_of_ble_eq_true rfl, Nat.le_of_ble_eq_true rfl⟩) (r7_pre hK hP) rfl rfl hl.1 rfl (lv_room (Nat.le_of_ble_eq_true rfl)) dX7_quick_27 ⟨Nat.zero_le _, Nat.zero_le _⟩) hS (fun _ _ h => h) (fun _ h => h) (fun rn_4 wn_4 t H locs ht hvm hp_4 hB hz hk hS => ?_)
          have hP : va_P D vwCl (RM cI ad wn_4) H := ht ▸ hB
          obtain ⟨hp_4, hz_4, hI_4⟩ := hp_4
          have E := bnd_e E hp_4
          have hzi_4 := z_int hz_4
          refine lv_if_eq (tgt := 52) hx hb dX7_quick_30 (by decide) (fun c_5 => ?_) (fun c_5 => ?_)
          · have E := E.trans (if_pos c_5)
            have fc_5 := i_eq c_5
            rw [q_0] at fc_5
            refine lv_iinc (v := x3_18 + 1) (lv' := [(3, .int (x3_18 + 1)), (2, .int x2_18), (0, .ref (ad 0)), (1, .int a1)]) hx hb dX7_quick_52 hl (k := 0) rfl rfl (by decide) rfl (fun ls hl => ?_)
            refine lv_goto (tgt := 18) hx hb dX7_quick_55 (by decide) ?_
            have := q_1
            try have := i_add (a := x3_18) (b := 1) (by omega) (by omega)
            exact ih_18 x2_18 (x3_18 + 1) wn_4 H locs ls ⟨by omega, by omega, by omega⟩ (by omega) hI_4 hP hS (lv_sub hl [0, 1, 2, 3] rfl) E
          · have E := E.trans (if_neg c_5)
            have fc_5 := i_ne c_5
            rw [q_0] at fc_5
            refine lv_iload_n hx hb dX7_quick_33 rfl (lv_at hl 1 rfl) ?_
            refine lv_if_lt (tgt := 50) hx hb dX7_quick_34 (by decide) (fun c_6 => ?_) (fun c_6 => ?_)
            · have E := E.trans (if_pos c_6)
              have fc_6 := i_lt c_6
              rw [q_0] at fc_6
              refine lv_iload_n hx hb dX7_quick_50 rfl (lv_at hl 0 rfl) ?_
              refine lv_istore_n (lv' := [(2, .int x3_18), (3, .int x3_18), (0, .ref (ad 0)), (1, .int a1)]) hx hb dX7_quick_51 rfl hl (by decide) rfl (fun ls hl => ?_)
              refine lv_iinc (v := x3_18 + 1) (lv' := [(3, .int (x3_18 + 1)), (2, .int x3_18), (0, .ref (ad 0)), (1, .int a1)]) hx hb dX7_quick_52 hl (k := 1) rfl rfl (by decide) rfl (fun ls hl => ?_)
              refine lv_goto (tgt := 18) hx hb dX7_quick_55 (by decide) ?_
              have := q_1
              try have := i_add (a := x3_18) (b := 1) (by omega) (by omega)
              exact ih_18 x3_18 (x3_18 + 1) wn_4 H locs ls ⟨by omega, by omega, by omega⟩ (by omega) hI_4 hP hS (lv_sub hl [0, 1, 2, 3] rfl) E
            · have E := E.trans (if_neg c_6)
              have fc_6 := i_nlt c_6
              rw [q_0] at fc_6
              refine lv_aload_n hx hb dX7_quick_37 rfl (lv_at hl 2 rfl) ?_
              refine lv_iload_n hx hb dX7_quick_38 rfl (lv_at hl 0 rfl) ?_
              refine vp_callSi (va_Run.run (va_runV (As := [.int x3_18]) (rest := []) ⟨hx, hb, hml, hown, hts⟩ (kX7_pitchMinutes l D cI ad wn_4 x3_18 hI_4 (by omega)) (cwV 1 hts gX7_quick_X7_pitchMinutes rfl rfl rfl mdX7_pitchMinutes ⟨Nat.le_of_ble_eq_true rfl, Nat.le_of_ble_eq_true rfl⟩) (r7_pre hK hP) rfl rfl hl.1 rfl (lv_room (Nat.le_of_ble_eq_true rfl)) dX7_quick_39 ⟨Nat.zero_le _, Nat.zero_le _⟩)) (fun r_7 hr_7 => ?_)
              subst hr_7
              refine lv_aload_n hx hb dX7_quick_42 rfl (lv_at hl 2 rfl) ?_
              refine lv_iload_n hx hb dX7_quick_43 rfl (lv_at hl 1 rfl) ?_
              refine vp_callSi (va_Run.run (va_runV (As := [.int x2_18]) (rest := [.int (sX7_pitchMinutes wn_4 x3_18)]) ⟨hx, hb, hml, hown, hts⟩ (kX7_pitchMinutes l D cI ad wn_4 x2_18 hI_4 (by omega)) (cwV 1 hts gX7_quick_X7_pitchMinutes rfl rfl rfl mdX7_pitchMinutes ⟨Nat.le_of_ble_eq_true rfl, Nat.le_of_ble_eq_true rfl⟩) (r7_pre hK hP) rfl rfl hl.1 rfl (lv_room (Nat.le_of_ble_eq_true rfl)) dX7_quick_44 ⟨Nat.zero_le _, Nat.zero_le _⟩)) (fun r_8 hr_8 => ?_)
              subst hr_8
              refine lv_icmp_ge (tgt := 52) hx hb dX7_quick_47 (by decide) (fun c_9 => ?_) (fun c_9 => ?_)
              · have E := E.trans (if_pos c_9)
                have fc_9 := i_le c_9
                refine lv_iinc (v := x3_18 + 1) (lv' := [(3, .int (x3_18 + 1)), (2, .int x2_18), (0, .ref (ad 0)), (1, .int a1)]) hx hb dX7_quick_52 hl (k := 0) rfl rfl (by decide) rfl (fun ls hl => ?_)
                refine lv_goto (tgt := 18) hx hb dX7_quick_55 (by decide) ?_
                have := q_1
                try have := i_add (a := x3_18) (b := 1) (by omega) (by omega)
                exact ih_18 x2_18 (x3_18 + 1) wn_4 H locs ls ⟨by omega, by omega, by omega⟩ (by omega) hI_4 hP hS (lv_sub hl [0, 1, 2, 3] rfl) E
              · have E := E.trans (if_neg c_9)
                have fc_9 := i_nle c_9
                refine lv_iload_n hx hb dX7_quick_50 rfl (lv_at hl 0 rfl) ?_
                refine lv_istore_n (lv' := [(2, .int x3_18), (3, .int x3_18), (0, .ref (ad 0)), (1, .int a1)]) hx hb dX7_quick_51 rfl hl (by decide) rfl (fun ls hl => ?_)
                refine lv_iinc (v := x3_18 + 1) (lv' := [(3, .int (x3_18 + 1)), (2, .int x3_18), (0, .ref (ad 0)), (1, .int a1)]) hx hb dX7_quick_52 hl (k := 1) rfl rfl (by decide) rfl (fun ls hl => ?_)
                refine lv_goto (tgt := 18) hx hb dX7_quick_55 (by decide) ?_
                have := q_1
                try have := i_add (a := x3_18) (b := 1) (by omega) (by omega)
                exact ih_18 x3_18 (x3_18 + 1) wn_4 H locs ls ⟨by omega, by omega, by omega⟩ (by omega) hI_4 hP hS (lv_sub hl [0, 1, 2, 3] rfl) E
    have := q_m9
    have := q_1
    exact L_18 10 ((-9)) 1 w H locs ls ⟨by omega, by omega, by omega⟩ (by omega) hI hP hS (lv_sub hl [0, 1, 2, 3] rfl) E
  · have E := E.trans (if_pos c_2)
    have fc_2 := i_eq c_2
    rw [q_0] at fc_2
    refine lv_aload_n hx hb dX7_quick_7 rfl (lv_at hl 0 rfl) ?_
    refine lv_iconst (v := (-1)) hx hb dX7_quick_8 (by decide) ?_
    have := q_m1
    refine va_calli (va_runV (As := [.int (-1)]) (rest := []) ⟨hx, hb, hml, hown, hts⟩ (kX7_no l D cI ad w (-1) hd hI (by omega) (by omega)) (cwV 1 hts gX7_quick_X7_no rfl rfl rfl mdX7_no ⟨Nat.le_of_ble_eq_true rfl, Nat.le_of_ble_eq_true rfl⟩) (r7_pre hK hP) rfl rfl hl.1 rfl (lv_room (Nat.le_of_ble_eq_true rfl)) dX7_quick_9 ⟨Nat.zero_le _, Nat.zero_le _⟩) hS (fun _ _ h => h) (fun _ h => h) (fun rn_10 wn_10 t H locs ht hvm hp_10 hB hz hk hS => ?_)
    have hP : va_P D vwCl (RM cI ad wn_10) H := ht ▸ hB
    obtain ⟨hp_10, hI_10⟩ := hp_10
    have E := bnd_e E hp_10
    exact W.iret (v := rn_10) hx hb hr (fun t ht hW => ⟨⟨_, wn_10, rfl, ⟨E.symm, hI_10⟩, by beta_reduce; rw [ht]; exact hP⟩, hS.F ht⟩) hS.2.2 dX7_quick_12
abbrev rmX7_homeSheaves : Room := { frames := 2, cells := 0, slots := 0, locals := 43 }
set_option maxHeartbeats 4000000 in
set_option maxRecDepth 100000 in
theorem kX7_homeSheaves (l : Launch) (D : va_G) (cI : ClassId) (ad : Nat → Nat) (w : Nat → Nat → Int32) (a1 : Int32) (a2 : Int32) (a3 : Int32) (hd : RD ad) (hI : R7I w) (hs : H7S w a1) (h1 : 0 ≤ a1.toInt) (h2 : a1.toInt < 2) (h3 : 1 ≤ a2.toInt) (h4 : a2.toInt ≤ 4) (h5 : 0 ≤ a3.toInt) (h6 : a3.toInt ≤ 999) : Met l yX7_homeSheaves wsX7_homeSheaves rmX7_homeSheaves (va_Pc [Value.ref (ad 0), Value.int a1, Value.int a2, Value.int a3] (fun U => va_P D vwCl (RM cI ad w) U.heap ∧ va_K D vwCl [(cI, .int)] U)) (va_Qi (fun r u => (r, u) = sX7_homeSheaves w a1 a2 a3 ∧ (∀ k : Nat, k ≠ 25 → u k = w k)) (fun u t => va_P D vwCl (RM cI ad u) t.heap) (RA ad)) 0 0 (RA ad) := by
  refine Met.ofW (cc := cX7_homeSheaves) (maxL := 11) (ret := (some .int)) (by decide) rfl ?_
  intro p e s m args below meth c s₁ B hml hv
  obtain ⟨rfl, hP, hK⟩ := hv
  have hx := B.exec
  have hb := B.bytes
  have hr := B.returns
  have hts := atoms_spec (ws := wsX7_homeSheaves) B.pre
  have hown : s.vm.findClass RX7 = some m.cls := findClass_of_methodNamed B.named
  have hlocks := B.notSynchronized
  have hin : ∀ q ∈ wsX70, q ∈ wsX7_homeSheaves := by decide +kernel
  have hl := lv_entry ([.ref (ad 0), .int a1, .int a2, .int a3]) (n := 11) (Nat.le_of_ble_eq_true rfl)
  rw [lg_entry_eq]
  generalize (lg_sl ([.ref (ad 0), .int a1, .int a2, .int a3]) ++ List.replicate (11 - (lg_sl ([.ref (ad 0), .int a1, .int a2, .int a3])).length) Slot.unset).toArray = ls at hl ⊢
  have hl : lv_has ls 11 [(0, .ref (ad 0)), (1, .int a1), (2, .int a2), (3, .int a3)] := hl
  suffices hgo : ∀ (H : Heap) (locs : List Loc), va_P D vwCl (RM cI ad w) H → va_S (RA ad) s.heap H locs → W p l e (headSpec wsX7_homeSheaves rmX7_homeSheaves).room s m [Value.ref (ad 0), Value.int a1, Value.int a2, Value.int a3].toArray below meth c H locs 0 0 (MQ below (va_Qi (fun r u => (r, u) = sX7_homeSheaves w a1 a2 a3 ∧ (∀ k : Nat, k ≠ 25 → u k = w k)) (fun u t => va_P D vwCl (RM cI ad u) t.heap) (RA ad)) [Value.ref (ad 0), Value.int a1, Value.int a2, Value.int a3].toArray s 0 0 (RA ad)) (F0 m 0 ls []) from hgo s.heap [] hP va_S.rf
  intro H locs hP hS
  have E := sX7_homeSheaves.eq_1 w a1 a2 a3
  obtain ⟨hs1, hs2, hs3, hs4, hs5⟩ := hs
  have hkb : ∀ k : Nat, k ≠ 25 → w k = w k := fun _ _ => rfl
  refine lv_aload_n hx hb dX7_homeSheaves_0 rfl (lv_at hl 0 rfl) ?_
  refine lv_aload_n hx hb dX7_homeSheaves_1 rfl (lv_at hl 0 rfl) ?_
  refine g7_setting hx hb hts hin hown hK hP (hts (.fieldLink RX7 13 "LoadedForTheLaneModel" "setting" "[I") (by decide +kernel)) dX7_homeSheaves_2 ?_
  refine lv_iconst (v := 2) hx hb dX7_homeSheaves_5 (by decide) ?_
  have ix_1 : vp_in 2 4 := by unfold vp_in; decide
  refine l7_setting (j := 2) hx hb hK hP ix_1 (by decide) dX7_homeSheaves_6 ?_
  refine vp_callSi (va_Run.run (va_runV (As := [.int (w 1 2)]) (rest := []) ⟨hx, hb, hml, hown, hts⟩ (kX7_pitchMinutes l D cI ad w (w 1 2) hI (by omega)) (cwV 1 hts gX7_homeSheaves_X7_pitchMinutes rfl rfl rfl mdX7_pitchMinutes ⟨Nat.le_of_ble_eq_true rfl, Nat.le_of_ble_eq_true rfl⟩) (r7_pre hK hP) rfl rfl hl.1 rfl (lv_room (Nat.le_of_ble_eq_true rfl)) dX7_homeSheaves_7 ⟨Nat.zero_le _, Nat.zero_le _⟩)) (fun r_2 hr_2 => ?_)
  subst hr_2
  refine lv_istore (lv' := [(4, .int (sX7_pitchMinutes w (w 1 2))), (0, .ref (ad 0)), (1, .int a1), (2, .int a2), (3, .int a3)]) hx hb dX7_homeSheaves_10 hl (by decide) rfl (fun ls hl => ?_)
  refine lv_aload_n hx hb dX7_homeSheaves_12 rfl (lv_at hl 1 rfl) ?_
  refine lv_iload_n hx hb dX7_homeSheaves_13 rfl (lv_at hl 2 rfl) ?_
  refine vp_callSi (va_Run.run (va_runV (As := [.int a1]) (rest := []) ⟨hx, hb, hml, hown, hts⟩ (kX7_minutesOf l D cI ad w a1 hI (by omega) (by omega)) (cwV 1 hts gX7_homeSheaves_X7_minutesOf rfl rfl rfl mdX7_minutesOf ⟨Nat.le_of_ble_eq_true rfl, Nat.le_of_ble_eq_true rfl⟩) (r7_pre hK hP) rfl rfl hl.1 rfl (lv_room (Nat.le_of_ble_eq_true rfl)) dX7_homeSheaves_14 ⟨Nat.zero_le _, Nat.zero_le _⟩)) (fun r_3 hr_3 => ?_)
  subst hr_3
  refine lv_istore (lv' := [(5, .int (sX7_minutesOf w a1)), (4, .int (sX7_pitchMinutes w (w 1 2))), (0, .ref (ad 0)), (1, .int a1), (2, .int a2), (3, .int a3)]) hx hb dX7_homeSheaves_17 hl (by decide) rfl (fun ls hl => ?_)
  refine lv_iconst (v := 0) hx hb dX7_homeSheaves_19 (by decide) ?_
  refine lv_istore (lv' := [(6, .int 0), (5, .int (sX7_minutesOf w a1)), (4, .int (sX7_pitchMinutes w (w 1 2))), (0, .ref (ad 0)), (1, .int a1), (2, .int a2), (3, .int a3)]) hx hb dX7_homeSheaves_20 hl (by decide) rfl (fun ls hl => ?_)
  refine lv_iconst (v := 0) hx hb dX7_homeSheaves_22 (by decide) ?_
  refine lv_istore (lv' := [(7, .int 0), (6, .int 0), (5, .int (sX7_minutesOf w a1)), (4, .int (sX7_pitchMinutes w (w 1 2))), (0, .ref (ad 0)), (1, .int a1), (2, .int a2), (3, .int a3)]) hx hb dX7_homeSheaves_23 hl (by decide) rfl (fun ls hl => ?_)
  refine lv_iconst (v := 0) hx hb dX7_homeSheaves_25 (by decide) ?_
  refine lv_istore (lv' := [(8, .int 0), (7, .int 0), (6, .int 0), (5, .int (sX7_minutesOf w a1)), (4, .int (sX7_pitchMinutes w (w 1 2))), (0, .ref (ad 0)), (1, .int a1), (2, .int a2), (3, .int a3)]) hx hb dX7_homeSheaves_26 hl (by decide) rfl (fun ls hl => ?_)
  have L_28 : ∀ (n_28 : Nat) (x8_28 : Int32) (w_28 : Nat → Nat → Int32) (H : Heap) (locs : List Loc) (ls : Array Slot), (0 ≤ x8_28.toInt ∧ x8_28.toInt ≤ 4 ∧ ∀ j : Nat, (j : Int) < x8_28.toInt → w_28 25 j = 0 ∧ ∀ k : Nat, k ≠ 25 → w_28 k = w k) → (4 - x8_28.toInt < (n_28 : Int)) → R7I w_28 → va_P D vwCl (RM cI ad w_28) H → va_S (RA ad) s.heap H locs → lv_has ls 11 [(8, .int x8_28), (7, .int 0), (6, .int 0), (5, .int (sX7_minutesOf w a1)), (4, .int (sX7_pitchMinutes w (w 1 2))), (0, .ref (ad 0)), (2, .int a2), (3, .int a3)] → sX7_homeSheaves w a1 a2 a3 = sX7_homeSheaves_28 w a1 a2 a3 n_28 x8_28 w_28 → W p l e (headSpec wsX7_homeSheaves rmX7_homeSheaves).room s m [Value.ref (ad 0), Value.int a1, Value.int a2, Value.int a3].toArray below meth c H locs 0 0 (MQ below (va_Qi (fun r u => (r, u) = sX7_homeSheaves w a1 a2 a3 ∧ (∀ k : Nat, k ≠ 25 → u k = w k)) (fun u t => va_P D vwCl (RM cI ad u) t.heap) (RA ad)) [Value.ref (ad 0), Value.int a1, Value.int a2, Value.int a3].toArray s 0 0 (RA ad)) (F0 m 28 ls []) := by
    intro n_28
    induction n_28 with
    | zero =>
      intro x8_28 w_28 H locs ls hinv hm
      obtain ⟨v0_28, v1_28, v2_28, v3_28⟩ := hinv
      exact absurd hm (by omega)
    | succ n_28 ih_28 =>
      intro x8_28 w_28 H locs ls hinv hm_28 hI_28 hP hS hl E
      obtain ⟨v0_28, v1_28, v2_28, v3_28⟩ := hinv
      have E := E.trans (sX7_homeSheaves_28.eq_2 ..)
      refine lv_iload hx hb dX7_homeSheaves_28 (lv_at hl 0 rfl) ?_
      refine lv_iconst (v := 4) hx hb dX7_homeSheaves_30 (by decide) ?_
      refine lv_icmp_ge (tgt := 48) hx hb dX7_homeSheaves_31 (by decide) (fun c_4 => ?_) (fun c_4 => ?_)
      · have E := E.trans (if_pos c_4)
        have fc_4 := i_le c_4
        rw [q_4] at fc_4
        have L_48 : ∀ (n_48 : Nat) (x6_48 : Int32) (x7_48 : Int32) (w_48 : Nat → Nat → Int32) (H : Heap) (locs : List Loc) (ls : Array Slot), (0 ≤ x6_48.toInt ∧ x6_48.toInt ≤ a3.toInt ∧ ∀ j : Nat, j < 4 → 0 ≤ (w_48 25 j).toInt ∧ (w_48 25 j).toInt ≤ 2000 ∧ ∀ k : Nat, k ≠ 25 → w_48 k = w k) → (a3.toInt - x6_48.toInt < (n_48 : Int)) → R7I w_48 → va_P D vwCl (RM cI ad w_48) H → va_S (RA ad) s.heap H locs → lv_has ls 11 [(7, .int x7_48), (6, .int x6_48), (5, .int (sX7_minutesOf w a1)), (4, .int (sX7_pitchMinutes w (w 1 2))), (0, .ref (ad 0)), (2, .int a2), (3, .int a3)] → sX7_homeSheaves w a1 a2 a3 = sX7_homeSheaves_48 w a1 a2 a3 n_48 x6_48 x7_48 w_48 → W p l e (headSpec wsX7_homeSheaves rmX7_homeSheaves).room s m [Value.ref (ad 0), Value.int a1, Value.int a2, Value.int a3].toArray below meth c H locs 0 0 (MQ below (va_Qi (fun r u => (r, u) = sX7_homeSheaves w a1 a2 a3 ∧ (∀ k : Nat, k ≠ 25 → u k = w k)) (fun u t => va_P D vwCl (RM cI ad u) t.heap) (RA ad)) [Value.ref (ad 0), Value.int a1, Value.int a2, Value.int a3].toArray s 0 0 (RA ad)) (F0 m 48 ls []) := by
          intro n_48
          induction n_48 with
          | zero =>
            intro x6_48 x7_48 w_48 H locs ls hinv hm
            obtain ⟨v0_48, v1_48, v2_48, v3_48⟩ := hinv
            exact absurd hm (by omega)
          | succ n_48 ih_48 =>
            intro x6_48 x7_48 w_48 H locs ls hinv hm_48 hI_48 hP hS hl E
            obtain ⟨v0_48, v1_48, v2_48, v3_48⟩ := hinv
            have E := E.trans (sX7_homeSheaves_48.eq_2 ..)
            have hkb := v3_48
            refine lv_iconst (v := 0) hx hb dX7_homeSheaves_48 (by decide) ?_
            refine lv_istore (lv' := [(8, .int 0), (7, .int x7_48), (6, .int x6_48), (5, .int (sX7_minutesOf w a1)), (4, .int (sX7_pitchMinutes w (w 1 2))), (0, .ref (ad 0)), (2, .int a2), (3, .int a3)]) hx hb dX7_homeSheaves_49 hl (by decide) rfl (fun ls hl => ?_)
            refine lv_iconst (v := 1) hx hb dX7_homeSheaves_51 (by decide) ?_
            refine lv_istore (lv' := [(9, .int 1), (8, .int 0), (7, .int x7_48), (6, .int x6_48), (5, .int (sX7_minutesOf w a1)), (4, .int (sX7_pitchMinutes w (w 1 2))), (0, .ref (ad 0)), (2, .int a2), (3, .int a3)]) hx hb dX7_homeSheaves_52 hl (by decide) rfl (fun ls hl => ?_)
            have L_54 : ∀ (n_54 : Nat) (x8_54 : Int32) (x9_54 : Int32) (ls : Array Slot), (0 ≤ x8_54.toInt ∧ x8_54.toInt < 4 ∧ 1 ≤ x9_54.toInt ∧ x9_54.toInt ≤ 4) → (4 - x9_54.toInt < (n_54 : Int)) → lv_has ls 11 [(9, .int x9_54), (8, .int x8_54), (7, .int x7_48), (6, .int x6_48), (5, .int (sX7_minutesOf w a1)), (4, .int (sX7_pitchMinutes w (w 1 2))), (0, .ref (ad 0)), (2, .int a2), (3, .int a3)] → sX7_homeSheaves w a1 a2 a3 = sX7_homeSheaves_54 w a1 a2 a3 x6_48 x7_48 w_48 (sX7_homeSheaves_48 w a1 a2 a3 n_48) n_54 x8_54 x9_54 → W p l e (headSpec wsX7_homeSheaves rmX7_homeSheaves).room s m [Value.ref (ad 0), Value.int a1, Value.int a2, Value.int a3].toArray below meth c H locs 0 0 (MQ below (va_Qi (fun r u => (r, u) = sX7_homeSheaves w a1 a2 a3 ∧ (∀ k : Nat, k ≠ 25 → u k = w k)) (fun u t => va_P D vwCl (RM cI ad u) t.heap) (RA ad)) [Value.ref (ad 0), Value.int a1, Value.int a2, Value.int a3].toArray s 0 0 (RA ad)) (F0 m 54 ls []) := by
              intro n_54
              induction n_54 with
              | zero =>
                intro x8_54 x9_54 ls hinv hm
                obtain ⟨v0_54, v1_54, v2_54, v3_54⟩ := hinv
                exact absurd hm (by omega)
              | succ n_54 ih_54 =>
                intro x8_54 x9_54 ls hinv hm_54 hl E
                obtain ⟨v0_54, v1_54, v2_54, v3_54⟩ := hinv
                have E := E.trans (sX7_homeSheaves_54.eq_2 ..)
                refine lv_iload hx hb dX7_homeSheaves_54 (lv_at hl 0 rfl) ?_
                refine lv_iload_n hx hb dX7_homeSheaves_56 rfl (lv_at hl 7 rfl) ?_
                refine lv_icmp_ge (tgt := 92) hx hb dX7_homeSheaves_57 (by decide) (fun c_5 => ?_) (fun c_5 => ?_)
                · have E := E.trans (if_pos c_5)
                  have fc_5 := i_le c_5
                  have hbk := v2_48 (x8_54.toNatClampNeg) (by have := ix_cl (x := x8_54) (by omega); omega)
                  refine lv_aload_n hx hb dX7_homeSheaves_92 rfl (lv_at hl 6 rfl) ?_
                  refine g7_backAt hx hb hts hin hown hK hP (hts (.fieldLink RX7 58 "LoadedForTheLaneModel" "backAt" "[I") (by decide +kernel)) dX7_homeSheaves_93 ?_
                  refine lv_iload hx hb dX7_homeSheaves_96 (lv_at hl 1 rfl) ?_
                  have ix_6 : vp_in x8_54 4 := ix_of (by omega) (by omega)
                  refine l7_backAt (j := x8_54.toNatClampNeg) hx hb hK hP ix_6 rfl dX7_homeSheaves_98 ?_
                  refine lv_iload hx hb dX7_homeSheaves_99 (lv_at hl 3 rfl) ?_
                  refine lv_icmp_le (tgt := 114) hx hb dX7_homeSheaves_101 (by decide) (fun c_7 => ?_) (fun c_7 => ?_)
                  · have E := E.trans (if_pos c_7)
                    have fc_7 := i_le c_7
                    refine lv_iload hx hb dX7_homeSheaves_114 (lv_at hl 3 rfl) ?_
                    refine lv_istore (lv' := [(9, .int x6_48), (8, .int x8_54), (7, .int x7_48), (6, .int x6_48), (5, .int (sX7_minutesOf w a1)), (4, .int (sX7_pitchMinutes w (w 1 2))), (0, .ref (ad 0)), (2, .int a2), (3, .int a3)]) hx hb dX7_homeSheaves_116 hl (by decide) rfl (fun ls hl => ?_)
                    refine lv_iload hx hb dX7_homeSheaves_118 (lv_at hl 0 rfl) ?_
                    refine lv_iload hx hb dX7_homeSheaves_120 (lv_at hl 5 rfl) ?_
                    refine lv_iadd hx hb dX7_homeSheaves_122 ?_
                    refine lv_istore (lv' := [(6, .int (x6_48 + (sX7_pitchMinutes w (w 1 2)))), (9, .int x6_48), (8, .int x8_54), (7, .int x7_48), (5, .int (sX7_minutesOf w a1)), (4, .int (sX7_pitchMinutes w (w 1 2))), (0, .ref (ad 0)), (2, .int a2), (3, .int a3)]) hx hb dX7_homeSheaves_123 hl (by decide) rfl (fun ls hl => ?_)
                    refine lv_iload hx hb dX7_homeSheaves_125 (lv_at hl 0 rfl) ?_
                    refine lv_iload hx hb dX7_homeSheaves_127 (lv_at hl 4 rfl) ?_
                    refine lv_iadd hx hb dX7_homeSheaves_129 ?_
                    refine lv_iload hx hb dX7_homeSheaves_130 (lv_at hl 5 rfl) ?_
                    refine lv_iadd hx hb dX7_homeSheaves_132 ?_
                    refine lv_istore (lv' := [(10, .int (((x6_48 + (sX7_pitchMinutes w (w 1 2))) + (sX7_minutesOf w a1)) + (sX7_pitchMinutes w (w 1 2)))), (6, .int (x6_48 + (sX7_pitchMinutes w (w 1 2)))), (9, .int x6_48), (8, .int x8_54), (7, .int x7_48), (5, .int (sX7_minutesOf w a1)), (4, .int (sX7_pitchMinutes w (w 1 2))), (0, .ref (ad 0)), (2, .int a2), (3, .int a3)]) hx hb dX7_homeSheaves_133 hl (by decide) rfl (fun ls hl => ?_)
                    refine lv_iload hx hb dX7_homeSheaves_135 (lv_at hl 0 rfl) ?_
                    refine lv_iload_n hx hb dX7_homeSheaves_137 rfl (lv_at hl 9 rfl) ?_
                    try have := i_add (a := x6_48) (b := (sX7_pitchMinutes w (w 1 2))) (by omega) (by omega)
                    try have := i_add (a := x6_48 + (sX7_pitchMinutes w (w 1 2))) (b := (sX7_minutesOf w a1)) (by omega) (by omega)
                    try have := i_add (a := (x6_48 + (sX7_pitchMinutes w (w 1 2))) + (sX7_minutesOf w a1)) (b := (sX7_pitchMinutes w (w 1 2))) (by omega) (by omega)
                    refine lv_icmp_le (tgt := 164) hx hb dX7_homeSheaves_138 (by decide) (fun c_8 => ?_) (fun c_8 => ?_)
                    · have E := E.trans (if_pos c_8)
                      have fc_8 := i_le c_8
                      refine lv_iload hx hb dX7_homeSheaves_164 (lv_at hl 4 rfl) ?_
                      refine lv_aload_n hx hb dX7_homeSheaves_166 rfl (lv_at hl 7 rfl) ?_
                      refine vp_callSi (va_Run.run (va_runV (As := []) (rest := [.int x7_48]) ⟨hx, hb, hml, hown, hts⟩ (kX7_allSheaves l D cI ad w_48 hI_48) (cwV 0 hts gX7_homeSheaves_X7_allSheaves rfl rfl rfl mdX7_allSheaves ⟨Nat.le_of_ble_eq_true rfl, Nat.le_of_ble_eq_true rfl⟩) (r7_pre hK hP) rfl rfl hl.1 rfl (lv_room (Nat.le_of_ble_eq_true rfl)) dX7_homeSheaves_167 ⟨Nat.zero_le _, Nat.zero_le _⟩)) (fun r_9 hr_9 => ?_)
                      subst hr_9
                      refine lv_iadd hx hb dX7_homeSheaves_170 ?_
                      refine lv_istore (lv' := [(7, .int (x7_48 + (sX7_allSheaves w_48))), (10, .int (((x6_48 + (sX7_pitchMinutes w (w 1 2))) + (sX7_minutesOf w a1)) + (sX7_pitchMinutes w (w 1 2)))), (6, .int (x6_48 + (sX7_pitchMinutes w (w 1 2)))), (9, .int x6_48), (8, .int x8_54), (5, .int (sX7_minutesOf w a1)), (4, .int (sX7_pitchMinutes w (w 1 2))), (0, .ref (ad 0)), (2, .int a2), (3, .int a3)]) hx hb dX7_homeSheaves_171 hl (by decide) rfl (fun ls hl => ?_)
                      refine lv_aload_n hx hb dX7_homeSheaves_173 rfl (lv_at hl 7 rfl) ?_
                      refine g7_backAt hx hb hts hin hown hK hP (hts (.fieldLink RX7 58 "LoadedForTheLaneModel" "backAt" "[I") (by decide +kernel)) dX7_homeSheaves_174 ?_
                      refine lv_iload hx hb dX7_homeSheaves_177 (lv_at hl 4 rfl) ?_
                      refine lv_iload hx hb dX7_homeSheaves_179 (lv_at hl 1 rfl) ?_
                      refine lv_iload hx hb dX7_homeSheaves_181 (lv_at hl 5 rfl) ?_
                      refine lv_iadd hx hb dX7_homeSheaves_183 ?_
                      try have := i_add (a := x6_48) (b := (sX7_pitchMinutes w (w 1 2))) (by omega) (by omega)
                      try have := i_add (a := x6_48 + (sX7_pitchMinutes w (w 1 2))) (b := (sX7_minutesOf w a1)) (by omega) (by omega)
                      try have := i_add (a := (x6_48 + (sX7_pitchMinutes w (w 1 2))) + (sX7_minutesOf w a1)) (b := (sX7_pitchMinutes w (w 1 2))) (by omega) (by omega)
                      try have := i_add (a := ((x6_48 + (sX7_pitchMinutes w (w 1 2))) + (sX7_minutesOf w a1)) + (sX7_pitchMinutes w (w 1 2))) (b := (sX7_minutesOf w a1)) (by omega) (by omega)
                      have ix_10 : vp_in x8_54 4 := ix_of (by omega) (by omega)
                      refine a7_backAt (j := x8_54.toNatClampNeg) hx hb hK hP hd hS ix_10 rfl dX7_homeSheaves_184 (fun H locs hP hS => ?_)
                      obtain ⟨wn_10, hwn_10⟩ : ∃ x, x = st w_48 25 (x8_54.toNatClampNeg) ((((x6_48 + (sX7_pitchMinutes w (w 1 2))) + (sX7_minutesOf w a1)) + (sX7_pitchMinutes w (w 1 2))) + (sX7_minutesOf w a1)) := ⟨_, rfl⟩
                      rw [← hwn_10] at hP
                      have E := bns_e E hwn_10
                      have hI_10 : R7I wn_10 := by rw [hwn_10]; exact R7I_put_backAt hI_48
                      refine lv_goto (tgt := 48) hx hb dX7_homeSheaves_185 (by decide) ?_
                      try have := i_add (a := x6_48) (b := (sX7_pitchMinutes w (w 1 2))) (by omega) (by omega)
                      try have := i_add (a := x7_48) (b := (sX7_allSheaves w_48)) (by omega) (by omega)
                      exact ih_48 (x6_48 + (sX7_pitchMinutes w (w 1 2))) (x7_48 + (sX7_allSheaves w_48)) wn_10 H locs ls ⟨by omega, by omega, by intro j hj; rw [hwn_10]; exact st_bnd v2_48 (by omega) (by omega) j hj, fun k hk => (show wn_10 k = w_48 k by rw [hwn_10]; exact st_o hk).trans (v3_48 k hk)⟩ (by omega) hI_10 hP hS (lv_sub hl [0, 2, 5, 6, 7, 8, 9] rfl) E
                    · have E := E.trans (if_neg c_8)
                      have fc_8 := i_nle c_8
                      refine lv_iload hx hb dX7_homeSheaves_141 (lv_at hl 4 rfl) ?_
                      refine lv_aload_n hx hb dX7_homeSheaves_143 rfl (lv_at hl 7 rfl) ?_
                      refine g7_setting hx hb hts hin hown hK hP (hts (.fieldLink RX7 13 "LoadedForTheLaneModel" "setting" "[I") (by decide +kernel)) dX7_homeSheaves_144 ?_
                      refine lv_iconst (v := 3) hx hb dX7_homeSheaves_147 (by decide) ?_
                      have ix_11 : vp_in 3 4 := by unfold vp_in; decide
                      refine l7_setting (j := 3) hx hb hK hP ix_11 (by decide) dX7_homeSheaves_148 ?_
                      refine lv_icmp_ge (tgt := 157) hx hb dX7_homeSheaves_149 (by decide) (fun c_12 => ?_) (fun c_12 => ?_)
                      · have E := E.trans (if_pos c_12)
                        have fc_12 := i_le c_12
                        refine lv_aload_n hx hb dX7_homeSheaves_157 rfl (lv_at hl 7 rfl) ?_
                        refine g7_setting hx hb hts hin hown hK hP (hts (.fieldLink RX7 13 "LoadedForTheLaneModel" "setting" "[I") (by decide +kernel)) dX7_homeSheaves_158 ?_
                        refine lv_iconst (v := 3) hx hb dX7_homeSheaves_161 (by decide) ?_
                        have ix_13 : vp_in 3 4 := by unfold vp_in; decide
                        refine l7_setting (j := 3) hx hb hK hP ix_13 (by decide) dX7_homeSheaves_162 ?_
                        exact W.iret (v := w_48 1 3) hx hb hr (fun t ht hW => ⟨⟨_, w_48, rfl, ⟨E.symm, hkb⟩, by beta_reduce; rw [ht]; exact hP⟩, hS.F ht⟩) hS.2.2 dX7_homeSheaves_163
                      · have E := E.trans (if_neg c_12)
                        have fc_12 := i_nle c_12
                        refine lv_iload hx hb dX7_homeSheaves_152 (lv_at hl 4 rfl) ?_
                        refine lv_goto (tgt := 163) hx hb dX7_homeSheaves_154 (by decide) ?_
                        exact W.iret (v := x7_48) hx hb hr (fun t ht hW => ⟨⟨_, w_48, rfl, ⟨E.symm, hkb⟩, by beta_reduce; rw [ht]; exact hP⟩, hS.F ht⟩) hS.2.2 dX7_homeSheaves_163
                  · have E := E.trans (if_neg c_7)
                    have fc_7 := i_nle c_7
                    refine lv_aload_n hx hb dX7_homeSheaves_104 rfl (lv_at hl 6 rfl) ?_
                    refine g7_backAt hx hb hts hin hown hK hP (hts (.fieldLink RX7 58 "LoadedForTheLaneModel" "backAt" "[I") (by decide +kernel)) dX7_homeSheaves_105 ?_
                    refine lv_iload hx hb dX7_homeSheaves_108 (lv_at hl 1 rfl) ?_
                    have ix_14 : vp_in x8_54 4 := ix_of (by omega) (by omega)
                    refine l7_backAt (j := x8_54.toNatClampNeg) hx hb hK hP ix_14 rfl dX7_homeSheaves_110 ?_
                    refine lv_goto (tgt := 116) hx hb dX7_homeSheaves_111 (by decide) ?_
                    refine lv_istore (lv' := [(9, .int (w_48 25 (x8_54.toNatClampNeg))), (8, .int x8_54), (7, .int x7_48), (6, .int x6_48), (5, .int (sX7_minutesOf w a1)), (4, .int (sX7_pitchMinutes w (w 1 2))), (0, .ref (ad 0)), (2, .int a2), (3, .int a3)]) hx hb dX7_homeSheaves_116 hl (by decide) rfl (fun ls hl => ?_)
                    refine lv_iload hx hb dX7_homeSheaves_118 (lv_at hl 0 rfl) ?_
                    refine lv_iload hx hb dX7_homeSheaves_120 (lv_at hl 5 rfl) ?_
                    refine lv_iadd hx hb dX7_homeSheaves_122 ?_
                    refine lv_istore (lv' := [(6, .int ((w_48 25 (x8_54.toNatClampNeg)) + (sX7_pitchMinutes w (w 1 2)))), (9, .int (w_48 25 (x8_54.toNatClampNeg))), (8, .int x8_54), (7, .int x7_48), (5, .int (sX7_minutesOf w a1)), (4, .int (sX7_pitchMinutes w (w 1 2))), (0, .ref (ad 0)), (2, .int a2), (3, .int a3)]) hx hb dX7_homeSheaves_123 hl (by decide) rfl (fun ls hl => ?_)
                    refine lv_iload hx hb dX7_homeSheaves_125 (lv_at hl 0 rfl) ?_
                    refine lv_iload hx hb dX7_homeSheaves_127 (lv_at hl 4 rfl) ?_
                    refine lv_iadd hx hb dX7_homeSheaves_129 ?_
                    refine lv_iload hx hb dX7_homeSheaves_130 (lv_at hl 5 rfl) ?_
                    refine lv_iadd hx hb dX7_homeSheaves_132 ?_
                    refine lv_istore (lv' := [(10, .int ((((w_48 25 (x8_54.toNatClampNeg)) + (sX7_pitchMinutes w (w 1 2))) + (sX7_minutesOf w a1)) + (sX7_pitchMinutes w (w 1 2)))), (6, .int ((w_48 25 (x8_54.toNatClampNeg)) + (sX7_pitchMinutes w (w 1 2)))), (9, .int (w_48 25 (x8_54.toNatClampNeg))), (8, .int x8_54), (7, .int x7_48), (5, .int (sX7_minutesOf w a1)), (4, .int (sX7_pitchMinutes w (w 1 2))), (0, .ref (ad 0)), (2, .int a2), (3, .int a3)]) hx hb dX7_homeSheaves_133 hl (by decide) rfl (fun ls hl => ?_)
                    refine lv_iload hx hb dX7_homeSheaves_135 (lv_at hl 0 rfl) ?_
                    refine lv_iload_n hx hb dX7_homeSheaves_137 rfl (lv_at hl 9 rfl) ?_
                    try have := i_add (a := w_48 25 (x8_54.toNatClampNeg)) (b := (sX7_pitchMinutes w (w 1 2))) (by omega) (by omega)
                    try have := i_add (a := (w_48 25 (x8_54.toNatClampNeg)) + (sX7_pitchMinutes w (w 1 2))) (b := (sX7_minutesOf w a1)) (by omega) (by omega)
                    try have := i_add (a := ((w_48 25 (x8_54.toNatClampNeg)) + (sX7_pitchMinutes w (w 1 2))) + (sX7_minutesOf w a1)) (b := (sX7_pitchMinutes w (w 1 2))) (by omega) (by omega)
                    refine lv_icmp_le (tgt := 164) hx hb dX7_homeSheaves_138 (by decide) (fun c_15 => ?_) (fun c_15 => ?_)
                    · have E := E.trans (if_pos c_15)
                      have fc_15 := i_le c_15
                      refine lv_iload hx hb dX7_homeSheaves_164 (lv_at hl 4 rfl) ?_
                      refine lv_aload_n hx hb dX7_homeSheaves_166 rfl (lv_at hl 7 rfl) ?_
                      refine vp_callSi (va_Run.run (va_runV (As := []) (rest := [.int x7_48]) ⟨hx, hb, hml, hown, hts⟩ (kX7_allSheaves l D cI ad w_48 hI_48) (cwV 0 hts gX7_homeSheaves_X7_allSheaves rfl rfl rfl mdX7_allSheaves ⟨Nat.le_of_ble_eq_true rfl, Nat.le_of_ble_eq_true rfl⟩) (r7_pre hK hP) rfl rfl hl.1 rfl (lv_room (Nat.le_of_ble_eq_true rfl)) dX7_homeSheaves_167 ⟨Nat.zero_le _, Nat.zero_le _⟩)) (fun r_16 hr_16 => ?_)
                      subst hr_16
                      refine lv_iadd hx hb dX7_homeSheaves_170 ?_
                      refine lv_istore (lv' := [(7, .int (x7_48 + (sX7_allSheaves w_48))), (10, .int ((((w_48 25 (x8_54.toNatClampNeg)) + (sX7_pitchMinutes w (w 1 2))) + (sX7_minutesOf w a1)) + (sX7_pitchMinutes w (w 1 2)))), (6, .int ((w_48 25 (x8_54.toNatClampNeg)) + (sX7_pitchMinutes w (w 1 2)))), (9, .int (w_48 25 (x8_54.toNatClampNeg))), (8, .int x8_54), (5, .int (sX7_minutesOf w a1)), (4, .int (sX7_pitchMinutes w (w 1 2))), (0, .ref (ad 0)), (2, .int a2), (3, .int a3)]) hx hb dX7_homeSheaves_171 hl (by decide) rfl (fun ls hl => ?_)
                      refine lv_aload_n hx hb dX7_homeSheaves_173 rfl (lv_at hl 7 rfl) ?_
                      refine g7_backAt hx hb hts hin hown hK hP (hts (.fieldLink RX7 58 "LoadedForTheLaneModel" "backAt" "[I") (by decide +kernel)) dX7_homeSheaves_174 ?_
                      refine lv_iload hx hb dX7_homeSheaves_177 (lv_at hl 4 rfl) ?_
                      refine lv_iload hx hb dX7_homeSheaves_179 (lv_at hl 1 rfl) ?_
                      refine lv_iload hx hb dX7_homeSheaves_181 (lv_at hl 5 rfl) ?_
                      refine lv_iadd hx hb dX7_homeSheaves_183 ?_
                      try have := i_add (a := w_48 25 (x8_54.toNatClampNeg)) (b := (sX7_pitchMinutes w (w 1 2))) (by omega) (by omega)
                      try have := i_add (a := (w_48 25 (x8_54.toNatClampNeg)) + (sX7_pitchMinutes w (w 1 2))) (b := (sX7_minutesOf w a1)) (by omega) (by omega)
                      try have := i_add (a := ((w_48 25 (x8_54.toNatClampNeg)) + (sX7_pitchMinutes w (w 1 2))) + (sX7_minutesOf w a1)) (b := (sX7_pitchMinutes w (w 1 2))) (by omega) (by omega)
                      try have := i_add (a := (((w_48 25 (x8_54.toNatClampNeg)) + (sX7_pitchMinutes w (w 1 2))) + (sX7_minutesOf w a1)) + (sX7_pitchMinutes w (w 1 2))) (b := (sX7_minutesOf w a1)) (by omega) (by omega)
                      have ix_17 : vp_in x8_54 4 := ix_of (by omega) (by omega)
                      refine a7_backAt (j := x8_54.toNatClampNeg) hx hb hK hP hd hS ix_17 rfl dX7_homeSheaves_184 (fun H locs hP hS => ?_)
                      obtain ⟨wn_17, hwn_17⟩ : ∃ x, x = st w_48 25 (x8_54.toNatClampNeg) (((((w_48 25 (x8_54.toNatClampNeg)) + (sX7_pitchMinutes w (w 1 2))) + (sX7_minutesOf w a1)) + (sX7_pitchMinutes w (w 1 2))) + (sX7_minutesOf w a1)) := ⟨_, rfl⟩
                      rw [← hwn_17] at hP
                      have E := bns_e E hwn_17
                      have hI_17 : R7I wn_17 := by rw [hwn_17]; exact R7I_put_backAt hI_48
                      refine lv_goto (tgt := 48) hx hb dX7_homeSheaves_185 (by decide) ?_
                      try have := i_add (a := w_48 25 (x8_54.toNatClampNeg)) (b := (sX7_pitchMinutes w (w 1 2))) (by omega) (by omega)
                      try have := i_add (a := x7_48) (b := (sX7_allSheaves w_48)) (by omega) (by omega)
                      exact ih_48 ((w_48 25 (x8_54.toNatClampNeg)) + (sX7_pitchMinutes w (w 1 2))) (x7_48 + (sX7_allSheaves w_48)) wn_17 H locs ls ⟨by omega, by omega, by intro j hj; rw [hwn_17]; exact st_bnd v2_48 (by omega) (by omega) j hj, fun k hk => (show wn_17 k = w_48 k by rw [hwn_17]; exact st_o hk).trans (v3_48 k hk)⟩ (by omega) hI_17 hP hS (lv_sub hl [0, 2, 5, 6, 7, 8, 9] rfl) E
                    · have E := E.trans (if_neg c_15)
                      have fc_15 := i_nle c_15
                      refine lv_iload hx hb dX7_homeSheaves_141 (lv_at hl 4 rfl) ?_
                      refine lv_aload_n hx hb dX7_homeSheaves_143 rfl (lv_at hl 7 rfl) ?_
                      refine g7_setting hx hb hts hin hown hK hP (hts (.fieldLink RX7 13 "LoadedForTheLaneModel" "setting" "[I") (by decide +kernel)) dX7_homeSheaves_144 ?_
                      refine lv_iconst (v := 3) hx hb dX7_homeSheaves_147 (by decide) ?_
                      have ix_18 : vp_in 3 4 := by unfold vp_in; decide
                      refine l7_setting (j := 3) hx hb hK hP ix_18 (by decide) dX7_homeSheaves_148 ?_
                      refine lv_icmp_ge (tgt := 157) hx hb dX7_homeSheaves_149 (by decide) (fun c_19 => ?_) (fun c_19 => ?_)
                      · have E := E.trans (if_pos c_19)
                        have fc_19 := i_le c_19
                        refine lv_aload_n hx hb dX7_homeSheaves_157 rfl (lv_at hl 7 rfl) ?_
                        refine g7_setting hx hb hts hin hown hK hP (hts (.fieldLink RX7 13 "LoadedForTheLaneModel" "setting" "[I") (by decide +kernel)) dX7_homeSheaves_158 ?_
                        refine lv_iconst (v := 3) hx hb dX7_homeSheaves_161 (by decide) ?_
                        have ix_20 : vp_in 3 4 := by unfold vp_in; decide
                        refine l7_setting (j := 3) hx hb hK hP ix_20 (by decide) dX7_homeSheaves_162 ?_
                        exact W.iret (v := w_48 1 3) hx hb hr (fun t ht hW => ⟨⟨_, w_48, rfl, ⟨E.symm, hkb⟩, by beta_reduce; rw [ht]; exact hP⟩, hS.F ht⟩) hS.2.2 dX7_homeSheaves_163
                      · have E := E.trans (if_neg c_19)
                        have fc_19 := i_nle c_19
                        refine lv_iload hx hb dX7_homeSheaves_152 (lv_at hl 4 rfl) ?_
                        refine lv_goto (tgt := 163) hx hb dX7_homeSheaves_154 (by decide) ?_
                        exact W.iret (v := x7_48) hx hb hr (fun t ht hW => ⟨⟨_, w_48, rfl, ⟨E.symm, hkb⟩, by beta_reduce; rw [ht]; exact hP⟩, hS.F ht⟩) hS.2.2 dX7_homeSheaves_163
                · have E := E.trans (if_neg c_5)
                  have fc_5 := i_nle c_5
                  refine lv_aload_n hx hb dX7_homeSheaves_60 rfl (lv_at hl 6 rfl) ?_
                  refine g7_backAt hx hb hts hin hown hK hP (hts (.fieldLink RX7 58 "LoadedForTheLaneModel" "backAt" "[I") (by decide +kernel)) dX7_homeSheaves_61 ?_
                  refine lv_iload hx hb dX7_homeSheaves_64 (lv_at hl 0 rfl) ?_
                  have ix_21 : vp_in x9_54 4 := ix_of (by omega) (by omega)
                  refine l7_backAt (j := x9_54.toNatClampNeg) hx hb hK hP ix_21 rfl dX7_homeSheaves_66 ?_
                  refine lv_aload_n hx hb dX7_homeSheaves_67 rfl (lv_at hl 6 rfl) ?_
                  refine g7_backAt hx hb hts hin hown hK hP (hts (.fieldLink RX7 58 "LoadedForTheLaneModel" "backAt" "[I") (by decide +kernel)) dX7_homeSheaves_68 ?_
                  refine lv_iload hx hb dX7_homeSheaves_71 (lv_at hl 1 rfl) ?_
                  have ix_22 : vp_in x8_54 4 := ix_of (by omega) (by omega)
                  refine l7_backAt (j := x8_54.toNatClampNeg) hx hb hK hP ix_22 rfl dX7_homeSheaves_73 ?_
                  refine lv_icmp_ge (tgt := 82) hx hb dX7_homeSheaves_74 (by decide) (fun c_23 => ?_) (fun c_23 => ?_)
                  · have E := E.trans (if_pos c_23)
                    have fc_23 := i_le c_23
                    refine lv_iload hx hb dX7_homeSheaves_82 (lv_at hl 1 rfl) ?_
                    refine lv_istore (lv' := [(8, .int x8_54), (9, .int x9_54), (7, .int x7_48), (6, .int x6_48), (5, .int (sX7_minutesOf w a1)), (4, .int (sX7_pitchMinutes w (w 1 2))), (0, .ref (ad 0)), (2, .int a2), (3, .int a3)]) hx hb dX7_homeSheaves_84 hl (by decide) rfl (fun ls hl => ?_)
                    refine lv_iinc (v := x9_54 + 1) (lv' := [(9, .int (x9_54 + 1)), (8, .int x8_54), (7, .int x7_48), (6, .int x6_48), (5, .int (sX7_minutesOf w a1)), (4, .int (sX7_pitchMinutes w (w 1 2))), (0, .ref (ad 0)), (2, .int a2), (3, .int a3)]) hx hb dX7_homeSheaves_86 hl (k := 1) rfl rfl (by decide) rfl (fun ls hl => ?_)
                    refine lv_goto (tgt := 54) hx hb dX7_homeSheaves_89 (by decide) ?_
                    have := q_1
                    try have := i_add (a := x9_54) (b := 1) (by omega) (by omega)
                    exact ih_54 x8_54 (x9_54 + 1) ls ⟨by omega, by omega, by omega, by omega⟩ (by omega) (lv_sub hl [0, 1, 2, 3, 4, 5, 6, 7, 8] rfl) E
                  · have E := E.trans (if_neg c_23)
                    have fc_23 := i_nle c_23
                    refine lv_iload hx hb dX7_homeSheaves_77 (lv_at hl 0 rfl) ?_
                    refine lv_goto (tgt := 84) hx hb dX7_homeSheaves_79 (by decide) ?_
                    refine lv_istore (lv' := [(8, .int x9_54), (9, .int x9_54), (7, .int x7_48), (6, .int x6_48), (5, .int (sX7_minutesOf w a1)), (4, .int (sX7_pitchMinutes w (w 1 2))), (0, .ref (ad 0)), (2, .int a2), (3, .int a3)]) hx hb dX7_homeSheaves_84 hl (by decide) rfl (fun ls hl => ?_)
                    refine lv_iinc (v := x9_54 + 1) (lv' := [(9, .int (x9_54 + 1)), (8, .int x9_54), (7, .int x7_48), (6, .int x6_48), (5, .int (sX7_minutesOf w a1)), (4, .int (sX7_pitchMinutes w (w 1 2))), (0, .ref (ad 0)), (2, .int a2), (3, .int a3)]) hx hb dX7_homeSheaves_86 hl (k := 1) rfl rfl (by decide) rfl (fun ls hl => ?_)
                    refine lv_goto (tgt := 54) hx hb dX7_homeSheaves_89 (by decide) ?_
                    have := q_1
                    try have := i_add (a := x9_54) (b := 1) (by omega) (by omega)
                    exact ih_54 x9_54 (x9_54 + 1) ls ⟨by omega, by omega, by omega, by omega⟩ (by omega) (lv_sub hl [0, 1, 2, 3, 4, 5, 6, 7, 8] rfl) E
            have := q_0
            have := q_1
            exact L_54 4 0 1 ls ⟨by omega, by omega, by omega, by omega⟩ (by omega) (lv_sub hl [0, 1, 2, 3, 4, 5, 6, 7, 8] rfl) E
        have := q_0
        exact L_48 1000 0 0 w_28 H locs ls ⟨by omega, by omega, by intro j hj; rw [v2_28 j (by omega)]; exact ⟨by decide, by decide⟩, v3_28⟩ (by omega) hI_28 hP hS (lv_sub hl [1, 2, 3, 4, 5, 6, 7] rfl) E
      · have E := E.trans (if_neg c_4)
        have fc_4 := i_nle c_4
        rw [q_4] at fc_4
        refine lv_aload_n hx hb dX7_homeSheaves_34 rfl (lv_at hl 5 rfl) ?_
        refine g7_backAt hx hb hts hin hown hK hP (hts (.fieldLink RX7 58 "LoadedForTheLaneModel" "backAt" "[I") (by decide +kernel)) dX7_homeSheaves_35 ?_
        refine lv_iload hx hb dX7_homeSheaves_38 (lv_at hl 0 rfl) ?_
        refine lv_iconst (v := 0) hx hb dX7_homeSheaves_40 (by decide) ?_
        have ix_24 : vp_in x8_28 4 := ix_of (by omega) (by omega)
        refine a7_backAt (j := x8_28.toNatClampNeg) hx hb hK hP hd hS ix_24 rfl dX7_homeSheaves_41 (fun H locs hP hS => ?_)
        obtain ⟨wn_24, hwn_24⟩ : ∃ x, x = st w_28 25 (x8_28.toNatClampNeg) 0 := ⟨_, rfl⟩
        rw [← hwn_24] at hP
        have E := bns_e E hwn_24
        have hI_24 : R7I wn_24 := by rw [hwn_24]; exact R7I_put_backAt hI_28
        refine lv_iinc (v := x8_28 + 1) (lv' := [(8, .int (x8_28 + 1)), (7, .int 0), (6, .int 0), (5, .int (sX7_minutesOf w a1)), (4, .int (sX7_pitchMinutes w (w 1 2))), (0, .ref (ad 0)), (2, .int a2), (3, .int a3)]) hx hb dX7_homeSheaves_42 hl (k := 0) rfl rfl (by decide) rfl (fun ls hl => ?_)
        refine lv_goto (tgt := 28) hx hb dX7_homeSheaves_45 (by decide) ?_
        have := q_1
        try have := i_add (a := x8_28) (b := 1) (by omega) (by omega)
        exact ih_28 (x8_28 + 1) wn_24 H locs ls ⟨by omega, by omega, by intro j hj; rw [hwn_24]; exact st_fill v2_28 (by omega) j (by omega), fun k hk => (show wn_24 k = w_28 k by rw [hwn_24]; exact st_o hk).trans (v3_28 k hk)⟩ (by omega) hI_24 hP hS (lv_sub hl [0, 1, 2, 3, 4, 5, 6, 7] rfl) E
  have := q_0
  exact L_28 5 0 w H locs ls ⟨by omega, by omega, by intro j hj; omega, hkb⟩ (by omega) hI hP hS (lv_sub hl [0, 1, 2, 3, 4, 5, 7, 8] rfl) E
abbrev rmX7_notRounds : Room := { frames := 7, cells := 0, slots := 0, locals := 159 }
set_option maxHeartbeats 4000000 in
set_option maxRecDepth 100000 in
theorem kX7_notRounds (l : Launch) (D : va_G) (cI : ClassId) (ad : Nat → Nat) (w : Nat → Nat → Int32) (a1 : Int32) (a2 : Int32) (a3 : Int32) (a4 : Int32) (hd : RD ad) (hI : R7I w) (h1 : 3 ≤ a4.toInt) (h2 : a4.toInt ≤ 4) : Met l yX7_notRounds wsX7_notRounds rmX7_notRounds (va_Pc [Value.ref (ad 0), Value.int a1, Value.int a2, Value.int a3, Value.int a4] (fun U => va_P D vwCl (RM cI ad w) U.heap ∧ va_K D vwCl [(cI, .int)] U)) (va_Qi (fun r u => (r, u) = sX7_notRounds w a1 a2 a3 a4 ∧ R7I u ∧ (-6 ≤ r.toInt ∧ r.toInt ≤ 0) ∧ (r.toInt ≠ 0 ∨ (0 ≤ a1.toInt ∧ a1.toInt < 2 ∧ 1 ≤ a2.toInt ∧ a2.toInt ≤ a4.toInt ∧ 0 ≤ a3.toInt ∧ a3.toInt ≤ 999 ∧ (w 11 0).toInt ≠ 0)) ∧ (∀ k : Nat, k ≠ 23 → k ≠ 24 → u k = w k)) (fun u t => va_P D vwCl (RM cI ad u) t.heap) (RA ad)) 0 0 (RA ad) := by
  refine Met.ofW (cc := cX7_notRounds) (maxL := 5) (ret := (some .int)) (by decide) rfl ?_
  intro p e s m args below meth c s₁ B hml hv
  obtain ⟨rfl, hP, hK⟩ := hv
  have hx := B.exec
  have hb := B.bytes
  have hr := B.returns
  have hts := atoms_spec (ws := wsX7_notRounds) B.pre
  have hown : s.vm.findClass RX7 = some m.cls := findClass_of_methodNamed B.named
  have hlocks := B.notSynchronized
  have hin : ∀ q ∈ wsX70, q ∈ wsX7_notRounds := by decide +kernel
  have hk : ∀ k : Nat, k ≠ 23 → k ≠ 24 → w k = w k := fun _ _ _ => rfl
  have hl := lv_entry ([.ref (ad 0), .int a1, .int a2, .int a3, .int a4]) (n := 5) (Nat.le_of_ble_eq_true rfl)
  rw [lg_entry_eq]
  generalize (lg_sl ([.ref (ad 0), .int a1, .int a2, .int a3, .int a4]) ++ List.replicate (5 - (lg_sl ([.ref (ad 0), .int a1, .int a2, .int a3, .int a4])).length) Slot.unset).toArray = ls at hl ⊢
  have hl : lv_has ls 5 [(0, .ref (ad 0)), (1, .int a1), (2, .int a2), (3, .int a3), (4, .int a4)] := hl
  suffices hgo : ∀ (H : Heap) (locs : List Loc), va_P D vwCl (RM cI ad w) H → va_S (RA ad) s.heap H locs → W p l e (headSpec wsX7_notRounds rmX7_notRounds).room s m [Value.ref (ad 0), Value.int a1, Value.int a2, Value.int a3, Value.int a4].toArray below meth c H locs 0 0 (MQ below (va_Qi (fun r u => (r, u) = sX7_notRounds w a1 a2 a3 a4 ∧ R7I u ∧ (-6 ≤ r.toInt ∧ r.toInt ≤ 0) ∧ (r.toInt ≠ 0 ∨ (0 ≤ a1.toInt ∧ a1.toInt < 2 ∧ 1 ≤ a2.toInt ∧ a2.toInt ≤ a4.toInt ∧ 0 ≤ a3.toInt ∧ a3.toInt ≤ 999 ∧ (w 11 0).toInt ≠ 0)) ∧ (∀ k : Nat, k ≠ 23 → k ≠ 24 → u k = w k)) (fun u t => va_P D vwCl (RM cI ad u) t.heap) (RA ad)) [Value.ref (ad 0), Value.int a1, Value.int a2, Value.int a3, Value.int a4].toArray s 0 0 (RA ad)) (F0 m 0 ls []) from hgo s.heap [] hP va_S.rf
  intro H locs hP hS
  have E := sX7_notRounds.eq_1 w a1 a2 a3 a4
  refine lv_iload_n hx hb dX7_notRounds_0 rfl (lv_at hl 1 rfl) ?_
  refine vp_callSi (va_Run.run (va_runS (As := [.int a1]) (rest := []) ⟨hx, hb, hml, hown, hts⟩ (kX7_isWay l a1) (va_cwS 1 hts gX7_notRounds_X7_isWay rfl rfl rfl mdX7_isWay ⟨Nat.le_of_ble_eq_true rfl, Nat.le_of_ble_eq_true rfl⟩) s_pre rfl rfl hl.1 rfl (lv_room (Nat.le_of_ble_eq_true rfl)) dX7_notRounds_1 ⟨Nat.zero_le _, Nat.zero_le _⟩)) (fun r_1 hr_1 => ?_)
  obtain ⟨rfl, hz_1⟩ := hr_1
  refine lv_if_ne (tgt := 9) hx hb dX7_notRounds_4 (by decide) (fun c_2 => ?_) (fun c_2 => ?_)
  · have E := E.trans (if_neg c_2)
    have fc_2 := i_ne c_2
    rw [q_0] at fc_2
    have gc_2 := fX7_isWay c_2
    refine lv_iload_n hx hb dX7_notRounds_9 rfl (lv_at hl 2 rfl) ?_
    refine lv_iconst (v := 1) hx hb dX7_notRounds_10 (by decide) ?_
    refine lv_icmp_lt (tgt := 18) hx hb dX7_notRounds_11 (by decide) (fun c_3 => ?_) (fun c_3 => ?_)
    · have E := E.trans (if_pos c_3)
      have fc_3 := i_lt c_3
      rw [q_1] at fc_3
      refine lv_bipush (v := (-4)) hx hb dX7_notRounds_18 (by decide +kernel) ?_
      have := q_m4
      exact W.iret (v := (-4)) hx hb hr (fun t ht hW => ⟨⟨_, w, rfl, ⟨E.symm, hI, by omega, by omega, hk⟩, by beta_reduce; rw [ht]; exact hP⟩, hS.F ht⟩) hS.2.2 dX7_notRounds_20
    · have E := E.trans (if_neg c_3)
      have fc_3 := i_nlt c_3
      rw [q_1] at fc_3
      refine lv_iload_n hx hb dX7_notRounds_14 rfl (lv_at hl 3 rfl) ?_
      refine lv_if_ge (tgt := 21) hx hb dX7_notRounds_15 (by decide) (fun c_4 => ?_) (fun c_4 => ?_)
      · have E := E.trans (if_pos c_4)
        have fc_4 := i_le c_4
        rw [q_0] at fc_4
        refine lv_iload_n hx hb dX7_notRounds_21 rfl (lv_at hl 2 rfl) ?_
        refine lv_iload hx hb dX7_notRounds_22 (lv_at hl 4 rfl) ?_
        refine lv_icmp_gt (tgt := 34) hx hb dX7_notRounds_24 (by decide) (fun c_5 => ?_) (fun c_5 => ?_)
        · have E := E.trans (if_pos c_5)
          have fc_5 := i_lt c_5
          refine lv_bipush (v := (-6)) hx hb dX7_notRounds_34 (by decide +kernel) ?_
          have := q_m6
          exact W.iret (v := (-6)) hx hb hr (fun t ht hW => ⟨⟨_, w, rfl, ⟨E.symm, hI, by omega, by omega, hk⟩, by beta_reduce; rw [ht]; exact hP⟩, hS.F ht⟩) hS.2.2 dX7_notRounds_36
        · have E := E.trans (if_neg c_5)
          have fc_5 := i_nlt c_5
          refine lv_iload_n hx hb dX7_notRounds_27 rfl (lv_at hl 3 rfl) ?_
          refine lv_sipush (v := 999) hx hb dX7_notRounds_28 (by decide +kernel) ?_
          refine lv_icmp_le (tgt := 37) hx hb dX7_notRounds_31 (by decide) (fun c_6 => ?_) (fun c_6 => ?_)
          · have E := E.trans (if_pos c_6)
            have fc_6 := i_le c_6
            rw [q_999] at fc_6
            refine lv_aload_n hx hb dX7_notRounds_37 rfl (lv_at hl 0 rfl) ?_
            refine g7_layers hx hb hts hin hown hK hP (hts (.fieldLink RX7 67 "LoadedForTheLaneModel" "layers" "I") (by decide +kernel)) dX7_notRounds_38 ?_
            have f_7 := R7I_layers hI
            refine lv_if_eq (tgt := 52) hx hb dX7_notRounds_41 (by decide) (fun c_8 => ?_) (fun c_8 => ?_)
            · have E := E.trans (if_pos c_8)
              have fc_8 := i_eq c_8
              rw [q_0] at fc_8
              refine lv_bipush (v := (-3)) hx hb dX7_notRounds_52 (by decide +kernel) ?_
              refine lv_goto (tgt := 58) hx hb dX7_notRounds_54 (by decide) ?_
              have := q_m3
              exact W.iret (v := (-3)) hx hb hr (fun t ht hW => ⟨⟨_, w, rfl, ⟨E.symm, hI, by omega, by omega, hk⟩, by beta_reduce; rw [ht]; exact hP⟩, hS.F ht⟩) hS.2.2 dX7_notRounds_58
            · have E := E.trans (if_neg c_8)
              have fc_8 := i_ne c_8
              rw [q_0] at fc_8
              refine lv_aload_n hx hb dX7_notRounds_44 rfl (lv_at hl 0 rfl) ?_
              refine lv_iload_n hx hb dX7_notRounds_45 rfl (lv_at hl 1 rfl) ?_
              refine va_calli (va_runV (As := [.int a1]) (rest := []) ⟨hx, hb, hml, hown, hts⟩ (kX7_doesHold l D cI ad w a1 hd hI (by omega) (by omega)) (cwV 1 hts gX7_notRounds_X7_doesHold rfl rfl rfl mdX7_doesHold ⟨Nat.le_of_ble_eq_true rfl, Nat.le_of_ble_eq_true rfl⟩) (r7_pre hK hP) rfl rfl hl.1 rfl (lv_room (Nat.le_of_ble_eq_true rfl)) dX7_notRounds_46 ⟨Nat.zero_le _, Nat.zero_le _⟩) hS (fun _ _ h => h) (fun _ h => h) (fun rn_9 wn_9 t H locs ht hvm hp_9 hB hz hk hS => ?_)
              have hP : va_P D vwCl (RM cI ad wn_9) H := ht ▸ hB
              obtain ⟨hp_9, hz_9, hI_9, hq0_9⟩ := hp_9
              have E := bnd_e E hp_9
              have hzi_9 := z_int hz_9
              have hk := fun (k : Nat) (h1 : k ≠ 23) (h2 : k ≠ 24) => (hq0_9 k h1 h2).trans (hk k h1 h2)
              refine lv_if_ne (tgt := 57) hx hb dX7_notRounds_49 (by decide) (fun c_10 => ?_) (fun c_10 => ?_)
              · have E := E.trans (if_neg c_10)
                have fc_10 := i_ne c_10
                rw [q_0] at fc_10
                refine lv_iconst (v := 0) hx hb dX7_notRounds_57 (by decide) ?_
                have := q_0
                exact W.iret (v := 0) hx hb hr (fun t ht hW => ⟨⟨_, wn_9, rfl, ⟨E.symm, hI_9, by omega, by omega, hk⟩, by beta_reduce; rw [ht]; exact hP⟩, hS.F ht⟩) hS.2.2 dX7_notRounds_58
              · have E := E.trans (if_pos c_10)
                have fc_10 := i_eq c_10
                rw [q_0] at fc_10
                refine lv_bipush (v := (-3)) hx hb dX7_notRounds_52 (by decide +kernel) ?_
                refine lv_goto (tgt := 58) hx hb dX7_notRounds_54 (by decide) ?_
                have := q_m3
                exact W.iret (v := (-3)) hx hb hr (fun t ht hW => ⟨⟨_, wn_9, rfl, ⟨E.symm, hI_9, by omega, by omega, hk⟩, by beta_reduce; rw [ht]; exact hP⟩, hS.F ht⟩) hS.2.2 dX7_notRounds_58
          · have E := E.trans (if_neg c_6)
            have fc_6 := i_nle c_6
            rw [q_999] at fc_6
            refine lv_bipush (v := (-6)) hx hb dX7_notRounds_34 (by decide +kernel) ?_
            have := q_m6
            exact W.iret (v := (-6)) hx hb hr (fun t ht hW => ⟨⟨_, w, rfl, ⟨E.symm, hI, by omega, by omega, hk⟩, by beta_reduce; rw [ht]; exact hP⟩, hS.F ht⟩) hS.2.2 dX7_notRounds_36
      · have E := E.trans (if_neg c_4)
        have fc_4 := i_nle c_4
        rw [q_0] at fc_4
        refine lv_bipush (v := (-4)) hx hb dX7_notRounds_18 (by decide +kernel) ?_
        have := q_m4
        exact W.iret (v := (-4)) hx hb hr (fun t ht hW => ⟨⟨_, w, rfl, ⟨E.symm, hI, by omega, by omega, hk⟩, by beta_reduce; rw [ht]; exact hP⟩, hS.F ht⟩) hS.2.2 dX7_notRounds_20
  · have E := E.trans (if_pos c_2)
    have fc_2 := i_eq c_2
    rw [q_0] at fc_2
    refine lv_iconst (v := (-1)) hx hb dX7_notRounds_7 (by decide) ?_
    have := q_m1
    exact W.iret (v := (-1)) hx hb hr (fun t ht hW => ⟨⟨_, w, rfl, ⟨E.symm, hI, by omega, by omega, hk⟩, by beta_reduce; rw [ht]; exact hP⟩, hS.F ht⟩) hS.2.2 dX7_notRounds_8
abbrev rmX7_rounds : Room := { frames := 8, cells := 0, slots := 0, locals := 183 }
set_option maxHeartbeats 4000000 in
set_option maxRecDepth 100000 in
theorem kX7_rounds (l : Launch) (D : va_G) (cI : ClassId) (ad : Nat → Nat) (w : Nat → Nat → Int32) (a1 : Int32) (a2 : Int32) (a3 : Int32) (hd : RD ad) (hI : R7I w) (hs : ∀ a : Int32, 0 ≤ a.toInt → a.toInt < 2 → (w 11 0).toInt ≠ 0 → H7S w a)  : Met l yX7_rounds wsX7_rounds rmX7_rounds (va_Pc [Value.ref (ad 0), Value.int a1, Value.int a2, Value.int a3] (fun U => va_P D vwCl (RM cI ad w) U.heap ∧ va_K D vwCl [(cI, .int)] U)) (va_Qi (fun r u => (r, u) = sX7_rounds w a1 a2 a3) (fun u t => va_P D vwCl (RM cI ad u) t.heap) (RA ad)) 0 0 (RA ad) := by
  refine Met.ofW (cc := cX7_rounds) (maxL := 5) (ret := (some .int)) (by decide) rfl ?_
  intro p e s m args below meth c s₁ B hml hv
  obtain ⟨rfl, hP, hK⟩ := hv
  have hx := B.exec
  have hb := B.bytes
  have hr := B.returns
  have hts := atoms_spec (ws := wsX7_rounds) B.pre
  have hown : s.vm.findClass RX7 = some m.cls := findClass_of_methodNamed B.named
  have hlocks := B.notSynchronized
  have hin : ∀ q ∈ wsX70, q ∈ wsX7_rounds := by decide +kernel
  have hl := lv_entry ([.ref (ad 0), .int a1, .int a2, .int a3]) (n := 5) (Nat.le_of_ble_eq_true rfl)
  rw [lg_entry_eq]
  generalize (lg_sl ([.ref (ad 0), .int a1, .int a2, .int a3]) ++ List.replicate (5 - (lg_sl ([.ref (ad 0), .int a1, .int a2, .int a3])).length) Slot.unset).toArray = ls at hl ⊢
  have hl : lv_has ls 5 [(0, .ref (ad 0)), (1, .int a1), (2, .int a2), (3, .int a3)] := hl
  suffices hgo : ∀ (H : Heap) (locs : List Loc), va_P D vwCl (RM cI ad w) H → va_S (RA ad) s.heap H locs → W p l e (headSpec wsX7_rounds rmX7_rounds).room s m [Value.ref (ad 0), Value.int a1, Value.int a2, Value.int a3].toArray below meth c H locs 0 0 (MQ below (va_Qi (fun r u => (r, u) = sX7_rounds w a1 a2 a3) (fun u t => va_P D vwCl (RM cI ad u) t.heap) (RA ad)) [Value.ref (ad 0), Value.int a1, Value.int a2, Value.int a3].toArray s 0 0 (RA ad)) (F0 m 0 ls []) from hgo s.heap [] hP va_S.rf
  intro H locs hP hS
  have E := sX7_rounds.eq_1 w a1 a2 a3
  refine lv_aload_n hx hb dX7_rounds_0 rfl (lv_at hl 0 rfl) ?_
  refine lv_iload_n hx hb dX7_rounds_1 rfl (lv_at hl 1 rfl) ?_
  refine lv_iload_n hx hb dX7_rounds_2 rfl (lv_at hl 2 rfl) ?_
  refine lv_iload_n hx hb dX7_rounds_3 rfl (lv_at hl 3 rfl) ?_
  refine lv_iconst (v := 4) hx hb dX7_rounds_4 (by decide) ?_
  have := q_4
  refine va_calli (va_runV (As := [.int a1, .int a2, .int a3, .int 4]) (rest := []) ⟨hx, hb, hml, hown, hts⟩ (kX7_notRounds l D cI ad w a1 a2 a3 4 hd hI (by omega) (by omega)) (cwV 4 hts gX7_rounds_X7_notRounds rfl rfl rfl mdX7_notRounds ⟨Nat.le_of_ble_eq_true rfl, Nat.le_of_ble_eq_true rfl⟩) (r7_pre hK hP) rfl rfl hl.1 rfl (lv_room (Nat.le_of_ble_eq_true rfl)) dX7_rounds_5 ⟨Nat.zero_le _, Nat.zero_le _⟩) hS (fun _ _ h => h) (fun _ h => h) (fun rn_1 wn_1 t H locs ht hvm hp_1 hB hz hk hS => ?_)
  have hP : va_P D vwCl (RM cI ad wn_1) H := ht ▸ hB
  obtain ⟨hp_1, hI_1, hq0_1, hq1_1, hq2_1⟩ := hp_1
  have E := bnd_e E hp_1
  refine lv_istore (lv' := [(4, .int rn_1), (0, .ref (ad 0)), (1, .int a1), (2, .int a2), (3, .int a3)]) hx hb dX7_rounds_8 hl (by decide) rfl (fun ls hl => ?_)
  refine lv_iload hx hb dX7_rounds_10 (lv_at hl 0 rfl) ?_
  refine lv_if_eq (tgt := 24) hx hb dX7_rounds_12 (by decide) (fun c_2 => ?_) (fun c_2 => ?_)
  · have E := E.trans (if_pos c_2)
    have fc_2 := i_eq c_2
    rw [q_0] at fc_2
    refine lv_aload_n hx hb dX7_rounds_24 rfl (lv_at hl 1 rfl) ?_
    refine lv_iload_n hx hb dX7_rounds_25 rfl (lv_at hl 2 rfl) ?_
    refine lv_iload_n hx hb dX7_rounds_26 rfl (lv_at hl 3 rfl) ?_
    refine lv_iload_n hx hb dX7_rounds_27 rfl (lv_at hl 4 rfl) ?_
    refine va_calli (va_runV (As := [.int a1, .int a2, .int a3]) (rest := []) ⟨hx, hb, hml, hown, hts⟩ (kX7_homeSheaves l D cI ad wn_1 a1 a2 a3 hd hI_1 (H7S_keep hq2_1 (hs a1 (by omega) (by omega) (by omega))) (by omega) (by omega) (by omega) (by omega) (by omega) (by omega)) (cwV 3 hts gX7_rounds_X7_homeSheaves rfl rfl rfl mdX7_homeSheaves ⟨Nat.le_of_ble_eq_true rfl, Nat.le_of_ble_eq_true rfl⟩) (r7_pre hK hP) rfl rfl hl.1 rfl (lv_room (Nat.le_of_ble_eq_true rfl)) dX7_rounds_28 ⟨Nat.zero_le _, Nat.zero_le _⟩) hS (fun _ _ h => h) (fun _ h => h) (fun rn_3 wn_3 t H locs ht hvm hp_3 hB hz hk hS => ?_)
    have hP : va_P D vwCl (RM cI ad wn_3) H := ht ▸ hB
    obtain ⟨hp_3, hq0_3⟩ := hp_3
    have E := bnd_e E hp_3
    exact W.iret (v := rn_3) hx hb hr (fun t ht hW => ⟨⟨_, wn_3, rfl, E.symm, by beta_reduce; rw [ht]; exact hP⟩, hS.F ht⟩) hS.2.2 dX7_rounds_31
  · have E := E.trans (if_neg c_2)
    have fc_2 := i_ne c_2
    rw [q_0] at fc_2
    refine lv_aload_n hx hb dX7_rounds_15 rfl (lv_at hl 1 rfl) ?_
    refine lv_iload hx hb dX7_rounds_16 (lv_at hl 0 rfl) ?_
    refine va_calli (va_runV (As := [.int rn_1]) (rest := []) ⟨hx, hb, hml, hown, hts⟩ (kX7_no l D cI ad wn_1 rn_1 hd hI_1 (by omega) (by omega)) (cwV 1 hts gX7_rounds_X7_no rfl rfl rfl mdX7_no ⟨Nat.le_of_ble_eq_true rfl, Nat.le_of_ble_eq_true rfl⟩) (r7_pre hK hP) rfl rfl hl.1 rfl (lv_room (Nat.le_of_ble_eq_true rfl)) dX7_rounds_18 ⟨Nat.zero_le _, Nat.zero_le _⟩) hS (fun _ _ h => h) (fun _ h => h) (fun rn_4 wn_4 t H locs ht hvm hp_4 hB hz hk hS => ?_)
    have hP : va_P D vwCl (RM cI ad wn_4) H := ht ▸ hB
    obtain ⟨hp_4, hI_4⟩ := hp_4
    have E := bnd_e E hp_4
    refine lv_goto (tgt := 31) hx hb dX7_rounds_21 (by decide) ?_
    exact W.iret (v := rn_4) hx hb hr (fun t ht hW => ⟨⟨_, wn_4, rfl, E.symm, by beta_reduce; rw [ht]; exact hP⟩, hS.F ht⟩) hS.2.2 dX7_rounds_31
abbrev rmX7_worth : Room := { frames := 8, cells := 0, slots := 0, locals := 183 }
set_option maxHeartbeats 4000000 in
set_option maxRecDepth 100000 in
theorem kX7_worth (l : Launch) (D : va_G) (cI : ClassId) (ad : Nat → Nat) (w : Nat → Nat → Int32) (a1 : Int32) (a2 : Int32) (a3 : Int32) (hd : RD ad) (hI : R7I w) (hs : ∀ a : Int32, 0 ≤ a.toInt → a.toInt < 2 → (w 11 0).toInt ≠ 0 → H7S w a)  : Met l yX7_worth wsX7_worth rmX7_worth (va_Pc [Value.ref (ad 0), Value.int a1, Value.int a2, Value.int a3] (fun U => va_P D vwCl (RM cI ad w) U.heap ∧ va_K D vwCl [(cI, .int)] U)) (va_Qi (fun r u => (r, u) = sX7_worth w a1 a2 a3) (fun u t => va_P D vwCl (RM cI ad u) t.heap) (RA ad)) 0 0 (RA ad) := by
  refine Met.ofW (cc := cX7_worth) (maxL := 5) (ret := (some .int)) (by decide) rfl ?_
  intro p e s m args below meth c s₁ B hml hv
  obtain ⟨rfl, hP, hK⟩ := hv
  have hx := B.exec
  have hb := B.bytes
  have hr := B.returns
  have hts := atoms_spec (ws := wsX7_worth) B.pre
  have hown : s.vm.findClass RX7 = some m.cls := findClass_of_methodNamed B.named
  have hlocks := B.notSynchronized
  have hin : ∀ q ∈ wsX70, q ∈ wsX7_worth := by decide +kernel
  have hl := lv_entry ([.ref (ad 0), .int a1, .int a2, .int a3]) (n := 5) (Nat.le_of_ble_eq_true rfl)
  rw [lg_entry_eq]
  generalize (lg_sl ([.ref (ad 0), .int a1, .int a2, .int a3]) ++ List.replicate (5 - (lg_sl ([.ref (ad 0), .int a1, .int a2, .int a3])).length) Slot.unset).toArray = ls at hl ⊢
  have hl : lv_has ls 5 [(0, .ref (ad 0)), (1, .int a1), (2, .int a2), (3, .int a3)] := hl
  suffices hgo : ∀ (H : Heap) (locs : List Loc), va_P D vwCl (RM cI ad w) H → va_S (RA ad) s.heap H locs → W p l e (headSpec wsX7_worth rmX7_worth).room s m [Value.ref (ad 0), Value.int a1, Value.int a2, Value.int a3].toArray below meth c H locs 0 0 (MQ below (va_Qi (fun r u => (r, u) = sX7_worth w a1 a2 a3) (fun u t => va_P D vwCl (RM cI ad u) t.heap) (RA ad)) [Value.ref (ad 0), Value.int a1, Value.int a2, Value.int a3].toArray s 0 0 (RA ad)) (F0 m 0 ls []) from hgo s.heap [] hP va_S.rf
  intro H locs hP hS
  have E := sX7_worth.eq_1 w a1 a2 a3
  refine lv_aload_n hx hb dX7_worth_0 rfl (lv_at hl 0 rfl) ?_
  refine lv_iload_n hx hb dX7_worth_1 rfl (lv_at hl 1 rfl) ?_
  refine lv_iload_n hx hb dX7_worth_2 rfl (lv_at hl 2 rfl) ?_
  refine lv_iload_n hx hb dX7_worth_3 rfl (lv_at hl 3 rfl) ?_
  refine lv_iconst (v := 3) hx hb dX7_worth_4 (by decide) ?_
  have := q_3
  refine va_calli (va_runV (As := [.int a1, .int a2, .int a3, .int 3]) (rest := []) ⟨hx, hb, hml, hown, hts⟩ (kX7_notRounds l D cI ad w a1 a2 a3 3 hd hI (by omega) (by omega)) (cwV 4 hts gX7_worth_X7_notRounds rfl rfl rfl mdX7_notRounds ⟨Nat.le_of_ble_eq_true rfl, Nat.le_of_ble_eq_true rfl⟩) (r7_pre hK hP) rfl rfl hl.1 rfl (lv_room (Nat.le_of_ble_eq_true rfl)) dX7_worth_5 ⟨Nat.zero_le _, Nat.zero_le _⟩) hS (fun _ _ h => h) (fun _ h => h) (fun rn_1 wn_1 t H locs ht hvm hp_1 hB hz hk hS => ?_)
  have hP : va_P D vwCl (RM cI ad wn_1) H := ht ▸ hB
  obtain ⟨hp_1, hI_1, hq0_1, hq1_1, hq2_1⟩ := hp_1
  have E := bnd_e E hp_1
  refine lv_istore (lv' := [(4, .int rn_1), (0, .ref (ad 0)), (1, .int a1), (2, .int a2), (3, .int a3)]) hx hb dX7_worth_8 hl (by decide) rfl (fun ls hl => ?_)
  refine lv_iload hx hb dX7_worth_10 (lv_at hl 0 rfl) ?_
  refine lv_if_eq (tgt := 24) hx hb dX7_worth_12 (by decide) (fun c_2 => ?_) (fun c_2 => ?_)
  · have E := E.trans (if_pos c_2)
    have fc_2 := i_eq c_2
    rw [q_0] at fc_2
    refine lv_aload_n hx hb dX7_worth_24 rfl (lv_at hl 1 rfl) ?_
    refine lv_iload_n hx hb dX7_worth_25 rfl (lv_at hl 2 rfl) ?_
    refine lv_iload_n hx hb dX7_worth_26 rfl (lv_at hl 3 rfl) ?_
    refine lv_iconst (v := 1) hx hb dX7_worth_27 (by decide) ?_
    refine lv_iadd hx hb dX7_worth_28 ?_
    refine lv_iload_n hx hb dX7_worth_29 rfl (lv_at hl 4 rfl) ?_
    have := q_1
    have := i_add (a := a2) (b := 1) (by omega) (by omega)
    refine va_calli (va_runV (As := [.int a1, .int (a2 + 1), .int a3]) (rest := []) ⟨hx, hb, hml, hown, hts⟩ (kX7_homeSheaves l D cI ad wn_1 a1 (a2 + 1) a3 hd hI_1 (H7S_keep hq2_1 (hs a1 (by omega) (by omega) (by omega))) (by omega) (by omega) (by omega) (by omega) (by omega) (by omega)) (cwV 3 hts gX7_worth_X7_homeSheaves rfl rfl rfl mdX7_homeSheaves ⟨Nat.le_of_ble_eq_true rfl, Nat.le_of_ble_eq_true rfl⟩) (r7_pre hK hP) rfl rfl hl.1 rfl (lv_room (Nat.le_of_ble_eq_true rfl)) dX7_worth_30 ⟨Nat.zero_le _, Nat.zero_le _⟩) hS (fun _ _ h => h) (fun _ h => h) (fun rn_3 wn_3 t H locs ht hvm hp_3 hB hz hk hS => ?_)
    have hP : va_P D vwCl (RM cI ad wn_3) H := ht ▸ hB
    obtain ⟨hp_3, hq0_3⟩ := hp_3
    have E := bnd_e E hp_3
    have hI_3 : R7I wn_3 := R7I_eq hI_1 (hq0_3 10 (by decide)) (hq0_3 11 (by decide)) (hq0_3 16 (by decide)) (hq0_3 17 (by decide)) (hq0_3 18 (by decide)) (hq0_3 27 (by decide))
    refine lv_aload_n hx hb dX7_worth_33 rfl (lv_at hl 1 rfl) ?_
    refine lv_iload_n hx hb dX7_worth_34 rfl (lv_at hl 2 rfl) ?_
    refine lv_iload_n hx hb dX7_worth_35 rfl (lv_at hl 3 rfl) ?_
    refine lv_iload_n hx hb dX7_worth_36 rfl (lv_at hl 4 rfl) ?_
    refine va_calli (va_runV (As := [.int a1, .int a2, .int a3]) (rest := [.int rn_3]) ⟨hx, hb, hml, hown, hts⟩ (kX7_homeSheaves l D cI ad wn_3 a1 a2 a3 hd hI_3 (H7S_keep25 hq0_3 (H7S_keep hq2_1 (hs a1 (by omega) (by omega) (by omega)))) (by omega) (by omega) (by omega) (by omega) (by omega) (by omega)) (cwV 3 hts gX7_worth_X7_homeSheaves rfl rfl rfl mdX7_homeSheaves ⟨Nat.le_of_ble_eq_true rfl, Nat.le_of_ble_eq_true rfl⟩) (r7_pre hK hP) rfl rfl hl.1 rfl (lv_room (Nat.le_of_ble_eq_true rfl)) dX7_worth_37 ⟨Nat.zero_le _, Nat.zero_le _⟩) hS (fun _ _ h => h) (fun _ h => h) (fun rn_4 wn_4 t H locs ht hvm hp_4 hB hz hk hS => ?_)
    have hP : va_P D vwCl (RM cI ad wn_4) H := ht ▸ hB
    obtain ⟨hp_4, hq0_4⟩ := hp_4
    have E := bnd_e E hp_4
    refine lv_isub hx hb dX7_worth_40 ?_
    exact W.iret (v := rn_3 - rn_4) hx hb hr (fun t ht hW => ⟨⟨_, wn_4, rfl, E.symm, by beta_reduce; rw [ht]; exact hP⟩, hS.F ht⟩) hS.2.2 dX7_worth_41
  · have E := E.trans (if_neg c_2)
    have fc_2 := i_ne c_2
    rw [q_0] at fc_2
    refine lv_aload_n hx hb dX7_worth_15 rfl (lv_at hl 1 rfl) ?_
    refine lv_iload hx hb dX7_worth_16 (lv_at hl 0 rfl) ?_
    refine va_calli (va_runV (As := [.int rn_1]) (rest := []) ⟨hx, hb, hml, hown, hts⟩ (kX7_lower l D cI ad wn_1 rn_1 hd hI_1 (by omega) (by omega)) (cwV 1 hts gX7_worth_X7_lower rfl rfl rfl mdX7_lower ⟨Nat.le_of_ble_eq_true rfl, Nat.le_of_ble_eq_true rfl⟩) (r7_pre hK hP) rfl rfl hl.1 rfl (lv_room (Nat.le_of_ble_eq_true rfl)) dX7_worth_18 ⟨Nat.zero_le _, Nat.zero_le _⟩) hS (fun _ _ h => h) (fun _ h => h) (fun rn_5 wn_5 t H locs ht hvm hp_5 hB hz hk hS => ?_)
    have hP : va_P D vwCl (RM cI ad wn_5) H := ht ▸ hB
    obtain ⟨hp_5, hI_5⟩ := hp_5
    have E := bnd_e E hp_5
    refine lv_goto (tgt := 41) hx hb dX7_worth_21 (by decide) ?_
    exact W.iret (v := rn_5) hx hb hr (fun t ht hW => ⟨⟨_, wn_5, rfl, E.symm, by beta_reduce; rw [ht]; exact hP⟩, hS.F ht⟩) hS.2.2 dX7_worth_41
abbrev rmX7_divisor : Room := { frames := 0, cells := 0, slots := 0, locals := 0 }
set_option maxHeartbeats 4000000 in
set_option maxRecDepth 100000 in
theorem kX7_divisor (l : Launch)  (a1 : Int64) (a2 : Int64)  (h1 : 0 ≤ a1.toInt) (h2 : 0 ≤ a2.toInt) : Met l yX7_divisor wsX7_divisor rmX7_divisor (va_Pc [Value.long a1, Value.long a2] (fun U => True)) (vp_Sl (fun r => r = sX7_divisor a1 a2)) 0 0 (fun _ => False) := by
  refine Met.ofW (cc := cX7_divisor) (maxL := 10) (ret := (some .long)) (by decide) rfl ?_
  intro p e s m args below meth c s₁ B hml hv
  obtain ⟨rfl, -⟩ := hv
  have hx := B.exec
  have hb := B.bytes
  have hr := B.returns
  have hts := atoms_spec (ws := wsX7_divisor) B.pre
  have hown : s.vm.findClass RX7 = some m.cls := findClass_of_methodNamed B.named
  have hlocks := B.notSynchronized
  have hl := lv_entry ([.long a1, .long a2]) (n := 10) (Nat.le_of_ble_eq_true rfl)
  rw [lg_entry_eq]
  generalize (lg_sl ([.long a1, .long a2]) ++ List.replicate (10 - (lg_sl ([.long a1, .long a2])).length) Slot.unset).toArray = ls at hl ⊢
  have hl : lv_has ls 10 [(0, .long a1), (2, .long a2)] := hl
  have E := sX7_divisor.eq_1 a1 a2
  refine lv_lload_n hx hb dX7_divisor_0 rfl (lv_at hl 0 rfl) ?_
  refine lv_lstore (lv' := [(4, .long a1), (0, .long a1), (2, .long a2)]) hx hb dX7_divisor_1 hl (by decide) rfl (fun ls hl => ?_)
  refine lv_lload_n hx hb dX7_divisor_3 rfl (lv_at hl 2 rfl) ?_
  refine lv_lstore (lv' := [(6, .long a2), (4, .long a1), (0, .long a1), (2, .long a2)]) hx hb dX7_divisor_4 hl (by decide) rfl (fun ls hl => ?_)
  have L_6 : ∀ (n_6 : Nat) (x4_6 : Int64) (x6_6 : Int64) (ls : Array Slot), (0 ≤ x4_6.toInt ∧ 0 ≤ x6_6.toInt) → (x6_6.toInt < (n_6 : Int)) → lv_has ls 10 [(6, .long x6_6), (4, .long x4_6)] → sX7_divisor a1 a2 = sX7_divisor_6 n_6 x4_6 x6_6 → W p l e (headSpec wsX7_divisor rmX7_divisor).room s m [Value.long a1, Value.long a2].toArray below meth c s.heap [] 0 0 (MQ below (vp_Sl (fun r => r = sX7_divisor a1 a2)) [Value.long a1, Value.long a2].toArray s 0 0 (fun _ => False)) (F0 m 6 ls []) := by
    intro n_6
    induction n_6 with
    | zero =>
      intro x4_6 x6_6 ls hinv hm
      obtain ⟨v0_6, v1_6⟩ := hinv
      exact absurd hm (by omega)
    | succ n_6 ih_6 =>
      intro x4_6 x6_6 ls hinv hm_6 hl E
      obtain ⟨v0_6, v1_6⟩ := hinv
      have E := E.trans (sX7_divisor_6.eq_2 ..)
      refine lv_lload hx hb dX7_divisor_6 (lv_at hl 0 rfl) ?_
      refine lv_lconst (v := 0) hx hb dX7_divisor_8 (by decide) ?_
      refine W.lcmp hx hb dX7_divisor_9 ?_
      refine lv_if_eq (tgt := 31) hx hb dX7_divisor_10 (by decide) (fun c_1 => ?_) (fun c_1 => ?_)
      · have E := E.trans (if_pos c_1)
        have fc_1 := i_eq c_1
        rw [q_0] at fc_1
        refine lv_lload hx hb dX7_divisor_31 (lv_at hl 1 rfl) ?_
        exact W.lret (v := x4_6) hx hb hr (fun t ht hW => ⟨_, rfl, E.symm, ht⟩) (fun q hq => by cases hq) dX7_divisor_33
      · have E := E.trans (if_neg c_1)
        have fc_1 := i_ne c_1
        rw [q_0] at fc_1
        refine lv_lload hx hb dX7_divisor_13 (lv_at hl 1 rfl) ?_
        refine lv_lload hx hb dX7_divisor_15 (lv_at hl 0 rfl) ?_
        refine lv_lrem hx hb dX7_divisor_17 (lc_ne (by assumption)) ?_
        refine lv_lstore (lv' := [(8, .long (x4_6 - x4_6 / x6_6 * x6_6)), (6, .long x6_6), (4, .long x4_6)]) hx hb dX7_divisor_18 hl (by decide) rfl (fun ls hl => ?_)
        refine lv_lload hx hb dX7_divisor_20 (lv_at hl 1 rfl) ?_
        refine lv_lstore (lv' := [(4, .long x6_6), (8, .long (x4_6 - x4_6 / x6_6 * x6_6)), (6, .long x6_6)]) hx hb dX7_divisor_22 hl (by decide) rfl (fun ls hl => ?_)
        refine lv_lload hx hb dX7_divisor_24 (lv_at hl 1 rfl) ?_
        refine lv_lstore (lv' := [(6, .long (x4_6 - x4_6 / x6_6 * x6_6)), (4, .long x6_6), (8, .long (x4_6 - x4_6 / x6_6 * x6_6))]) hx hb dX7_divisor_26 hl (by decide) rfl (fun ls hl => ?_)
        refine lv_goto (tgt := 6) hx hb dX7_divisor_28 (by decide) ?_
        have hnz := l_ne0 (lc_ne (y := x6_6) (by assumption))
        have hrm := l_rem (x := x4_6) (y := x6_6) (by omega) (by omega)
        exact ih_6 x6_6 (x4_6 - x4_6 / x6_6 * x6_6) ls ⟨by omega, by omega⟩ (by omega) (lv_sub hl [0, 1] rfl) E
  exact L_6 (a2.toInt.toNat + 1) a1 a2 ls ⟨by omega, by omega⟩ (by omega) (lv_sub hl [0, 1] rfl) E
abbrev rmX7_thunder : Room := { frames := 1, cells := 0, slots := 0, locals := 29 }
set_option maxHeartbeats 4000000 in
set_option maxRecDepth 100000 in
theorem kX7_thunder (l : Launch) (D : va_G) (cI : ClassId) (ad : Nat → Nat) (w : Nat → Nat → Int32) (a1 : Int32) (a2 : Int32) (a3 : Int32) (hd : RD ad) (hI : R7I w)  : Met l yX7_thunder wsX7_thunder rmX7_thunder (va_Pc [Value.ref (ad 0), Value.int a1, Value.int a2, Value.int a3] (fun U => va_P D vwCl (RM cI ad w) U.heap ∧ va_K D vwCl [(cI, .int)] U)) (va_Ql (fun r u => (r, u) = sX7_thunder w a1 a2 a3) (fun u t => va_P D vwCl (RM cI ad u) t.heap) (RA ad)) 0 0 (RA ad) := by
  refine Met.ofW (cc := cX7_thunder) (maxL := 10) (ret := (some .long)) (by decide) rfl ?_
  intro p e s m args below meth c s₁ B hml hv
  obtain ⟨rfl, hP, hK⟩ := hv
  have hx := B.exec
  have hb := B.bytes
  have hr := B.returns
  have hts := atoms_spec (ws := wsX7_thunder) B.pre
  have hown : s.vm.findClass RX7 = some m.cls := findClass_of_methodNamed B.named
  have hlocks := B.notSynchronized
  have hin : ∀ q ∈ wsX70, q ∈ wsX7_thunder := by decide +kernel
  have hl := lv_entry ([.ref (ad 0), .int a1, .int a2, .int a3]) (n := 10) (Nat.le_of_ble_eq_true rfl)
  rw [lg_entry_eq]
  generalize (lg_sl ([.ref (ad 0), .int a1, .int a2, .int a3]) ++ List.replicate (10 - (lg_sl ([.ref (ad 0), .int a1, .int a2, .int a3])).length) Slot.unset).toArray = ls at hl ⊢
  have hl : lv_has ls 10 [(0, .ref (ad 0)), (1, .int a1), (2, .int a2), (3, .int a3)] := hl
  suffices hgo : ∀ (H : Heap) (locs : List Loc), va_P D vwCl (RM cI ad w) H → va_S (RA ad) s.heap H locs → W p l e (headSpec wsX7_thunder rmX7_thunder).room s m [Value.ref (ad 0), Value.int a1, Value.int a2, Value.int a3].toArray below meth c H locs 0 0 (MQ below (va_Ql (fun r u => (r, u) = sX7_thunder w a1 a2 a3) (fun u t => va_P D vwCl (RM cI ad u) t.heap) (RA ad)) [Value.ref (ad 0), Value.int a1, Value.int a2, Value.int a3].toArray s 0 0 (RA ad)) (F0 m 0 ls []) from hgo s.heap [] hP va_S.rf
  intro H locs hP hS
  have E := sX7_thunder.eq_1 w a1 a2 a3
  refine lv_iload_n hx hb dX7_thunder_0 rfl (lv_at hl 1 rfl) ?_
  refine vp_callSi (va_Run.run (va_runS (As := [.int a1]) (rest := []) ⟨hx, hb, hml, hown, hts⟩ (kX7_isWay l a1) (va_cwS 1 hts gX7_thunder_X7_isWay rfl rfl rfl mdX7_isWay ⟨Nat.le_of_ble_eq_true rfl, Nat.le_of_ble_eq_true rfl⟩) s_pre rfl rfl hl.1 rfl (lv_room (Nat.le_of_ble_eq_true rfl)) dX7_thunder_1 ⟨Nat.zero_le _, Nat.zero_le _⟩)) (fun r_1 hr_1 => ?_)
  obtain ⟨rfl, hz_1⟩ := hr_1
  refine lv_if_ne (tgt := 11) hx hb dX7_thunder_4 (by decide) (fun c_2 => ?_) (fun c_2 => ?_)
  · have E := E.trans (if_neg c_2)
    have fc_2 := i_ne c_2
    rw [q_0] at fc_2
    have gc_2 := fX7_isWay c_2
    refine lv_iload_n hx hb dX7_thunder_11 rfl (lv_at hl 2 rfl) ?_
    refine lv_iconst (v := 0) hx hb dX7_thunder_12 (by decide) ?_
    refine lv_bipush (v := 9) hx hb dX7_thunder_13 (by decide +kernel) ?_
    refine vp_callSi (va_Run.run (va_runS (As := [.int a2, .int 0, .int 9]) (rest := []) ⟨hx, hb, hml, hown, hts⟩ (kX7_bound l a2 0 9) (va_cwS 3 hts gX7_thunder_X7_bound rfl rfl rfl mdX7_bound ⟨Nat.le_of_ble_eq_true rfl, Nat.le_of_ble_eq_true rfl⟩) s_pre rfl rfl hl.1 rfl (lv_room (Nat.le_of_ble_eq_true rfl)) dX7_thunder_15 ⟨Nat.zero_le _, Nat.zero_le _⟩)) (fun r_3 hr_3 => ?_)
    subst hr_3
    have rf_3 := rX7_bound a2 0 9
    have := q_0
    have := q_9
    refine lv_istore (lv' := [(4, .int (sX7_bound a2 0 9)), (0, .ref (ad 0)), (1, .int a1), (2, .int a2), (3, .int a3)]) hx hb dX7_thunder_18 hl (by decide) rfl (fun ls hl => ?_)
    refine lv_iload hx hb dX7_thunder_20 (lv_at hl 0 rfl) ?_
    refine lv_if_ne (tgt := 38) hx hb dX7_thunder_22 (by decide) (fun c_4 => ?_) (fun c_4 => ?_)
    · have E := E.trans (if_neg c_4)
      have fc_4 := i_ne c_4
      rw [q_0] at fc_4
      refine lv_iload hx hb dX7_thunder_38 (lv_at hl 0 rfl) ?_
      refine lv_if_eq (tgt := 50) hx hb dX7_thunder_40 (by decide) (fun c_5 => ?_) (fun c_5 => ?_)
      · have E := E.trans (if_pos c_5)
        have fc_5 := i_eq c_5
        rw [q_0] at fc_5
        refine lv_lconst (v := 1) hx hb dX7_thunder_50 (by decide) ?_
        refine lv_lstore (lv' := [(5, .long 1), (4, .int (sX7_bound a2 0 9)), (0, .ref (ad 0)), (1, .int a1), (2, .int a2), (3, .int a3)]) hx hb dX7_thunder_51 hl (by decide) rfl (fun ls hl => ?_)
        refine lv_lconst (v := 1) hx hb dX7_thunder_53 (by decide) ?_
        refine lv_lstore (lv' := [(7, .long 1), (5, .long 1), (4, .int (sX7_bound a2 0 9)), (0, .ref (ad 0)), (1, .int a1), (2, .int a2), (3, .int a3)]) hx hb dX7_thunder_54 hl (by decide) rfl (fun ls hl => ?_)
        refine lv_iconst (v := 0) hx hb dX7_thunder_56 (by decide) ?_
        refine lv_istore (lv' := [(9, .int 0), (7, .long 1), (5, .long 1), (4, .int (sX7_bound a2 0 9)), (0, .ref (ad 0)), (1, .int a1), (2, .int a2), (3, .int a3)]) hx hb dX7_thunder_57 hl (by decide) rfl (fun ls hl => ?_)
        have L_59 : ∀ (n_59 : Nat) (x5_59 : Int64) (x7_59 : Int64) (x9_59 : Int32) (ls : Array Slot), (0 ≤ x9_59.toInt ∧ x9_59.toInt ≤ 12 ∧ ∃ i : Nat, i ≤ 12 ∧ x9_59.toInt = i ∧ x5_59 = pw ((10 - a2).toInt64) i ∧ x7_59 = pw 10 i) → (12 - x9_59.toInt < (n_59 : Int)) → lv_has ls 10 [(9, .int x9_59), (7, .long x7_59), (5, .long x5_59), (0, .ref (ad 0)), (1, .int a1), (2, .int a2), (3, .int a3)] → sX7_thunder w a1 a2 a3 = sX7_thunder_59 w a1 a2 a3 n_59 x5_59 x7_59 x9_59 → W p l e (headSpec wsX7_thunder rmX7_thunder).room s m [Value.ref (ad 0), Value.int a1, Value.int a2, Value.int a3].toArray below meth c H locs 0 0 (MQ below (va_Ql (fun r u => (r, u) = sX7_thunder w a1 a2 a3) (fun u t => va_P D vwCl (RM cI ad u) t.heap) (RA ad)) [Value.ref (ad 0), Value.int a1, Value.int a2, Value.int a3].toArray s 0 0 (RA ad)) (F0 m 59 ls []) := by
          intro n_59
          induction n_59 with
          | zero =>
            intro x5_59 x7_59 x9_59 ls hinv hm
            obtain ⟨v0_59, v1_59, v2_59⟩ := hinv
            exact absurd hm (by omega)
          | succ n_59 ih_59 =>
            intro x5_59 x7_59 x9_59 ls hinv hm_59 hl E
            obtain ⟨v0_59, v1_59, v2_59⟩ := hinv
            have E := E.trans (sX7_thunder_59.eq_2 ..)
            refine lv_iload hx hb dX7_thunder_59 (lv_at hl 0 rfl) ?_
            refine lv_aload_n hx hb dX7_thunder_61 rfl (lv_at hl 3 rfl) ?_
            refine lv_iload_n hx hb dX7_thunder_62 rfl (lv_at hl 4 rfl) ?_
            refine vp_callSi (va_Run.run (va_runV (As := [.int a1]) (rest := [.int x9_59]) ⟨hx, hb, hml, hown, hts⟩ (kX7_minutesOf l D cI ad w a1 hI (by omega) (by omega)) (cwV 1 hts gX7_thunder_X7_minutesOf rfl rfl rfl mdX7_minutesOf ⟨Nat.le_of_ble_eq_true rfl, Nat.le_of_ble_eq_true rfl⟩) (r7_pre hK hP) rfl rfl hl.1 rfl (lv_room (Nat.le_of_ble_eq_true rfl)) dX7_thunder_63 ⟨Nat.zero_le _, Nat.zero_le _⟩)) (fun r_6 hr_6 => ?_)
            subst hr_6
            refine lv_icmp_ge (tgt := 100) hx hb dX7_thunder_66 (by decide) (fun c_7 => ?_) (fun c_7 => ?_)
            · have E := E.trans (if_pos c_7)
              have fc_7 := i_le c_7
              have hth := thX7 (a := a2) (by omega) (by omega) v2_59
              refine lv_iload_n hx hb dX7_thunder_100 rfl (lv_at hl 6 rfl) ?_
              refine lv_if_ne (tgt := 109) hx hb dX7_thunder_101 (by decide) (fun c_8 => ?_) (fun c_8 => ?_)
              · have E := E.trans (if_neg c_8)
                have fc_8 := i_ne c_8
                rw [q_0] at fc_8
                refine lv_lload hx hb dX7_thunder_109 (lv_at hl 1 rfl) ?_
                refine lv_lload hx hb dX7_thunder_111 (lv_at hl 2 rfl) ?_
                refine lv_lload hx hb dX7_thunder_113 (lv_at hl 1 rfl) ?_
                refine vp_callSl (va_Run.run (va_runS (As := [.long x5_59, .long x7_59]) (rest := [.long x7_59]) ⟨hx, hb, hml, hown, hts⟩ (kX7_divisor l x5_59 x7_59 hth.1 hth.2.1) (va_cwS 2 hts gX7_thunder_X7_divisor rfl rfl rfl mdX7_divisor ⟨Nat.le_of_ble_eq_true rfl, Nat.le_of_ble_eq_true rfl⟩) s_pre rfl rfl hl.1 rfl (lv_room (Nat.le_of_ble_eq_true rfl)) dX7_thunder_115 ⟨Nat.zero_le _, Nat.zero_le _⟩)) (fun r_9 hr_9 => ?_)
                subst hr_9
                refine lv_ldiv hx hb dX7_thunder_118 hth.2.2 ?_
                exact W.lret (v := x7_59 / (sX7_divisor x5_59 x7_59)) hx hb hr (fun t ht hW => ⟨⟨_, w, rfl, E.symm, by beta_reduce; rw [ht]; exact hP⟩, hS.F ht⟩) hS.2.2 dX7_thunder_119
              · have E := E.trans (if_pos c_8)
                have fc_8 := i_eq c_8
                rw [q_0] at fc_8
                refine lv_lload hx hb dX7_thunder_104 (lv_at hl 2 rfl) ?_
                refine lv_goto (tgt := 111) hx hb dX7_thunder_106 (by decide) ?_
                refine lv_lload hx hb dX7_thunder_111 (lv_at hl 2 rfl) ?_
                refine lv_lload hx hb dX7_thunder_113 (lv_at hl 1 rfl) ?_
                refine vp_callSl (va_Run.run (va_runS (As := [.long x5_59, .long x7_59]) (rest := [.long x5_59]) ⟨hx, hb, hml, hown, hts⟩ (kX7_divisor l x5_59 x7_59 hth.1 hth.2.1) (va_cwS 2 hts gX7_thunder_X7_divisor rfl rfl rfl mdX7_divisor ⟨Nat.le_of_ble_eq_true rfl, Nat.le_of_ble_eq_true rfl⟩) s_pre rfl rfl hl.1 rfl (lv_room (Nat.le_of_ble_eq_true rfl)) dX7_thunder_115 ⟨Nat.zero_le _, Nat.zero_le _⟩)) (fun r_10 hr_10 => ?_)
                subst hr_10
                refine lv_ldiv hx hb dX7_thunder_118 hth.2.2 ?_
                exact W.lret (v := x5_59 / (sX7_divisor x5_59 x7_59)) hx hb hr (fun t ht hW => ⟨⟨_, w, rfl, E.symm, by beta_reduce; rw [ht]; exact hP⟩, hS.F ht⟩) hS.2.2 dX7_thunder_119
            · have E := E.trans (if_neg c_7)
              have fc_7 := i_nle c_7
              refine lv_iload hx hb dX7_thunder_69 (lv_at hl 0 rfl) ?_
              refine lv_bipush (v := 12) hx hb dX7_thunder_71 (by decide +kernel) ?_
              refine lv_icmp_ge (tgt := 100) hx hb dX7_thunder_73 (by decide) (fun c_11 => ?_) (fun c_11 => ?_)
              · have E := E.trans (if_pos c_11)
                have fc_11 := i_le c_11
                rw [q_12] at fc_11
                have hth := thX7 (a := a2) (by omega) (by omega) v2_59
                refine lv_iload_n hx hb dX7_thunder_100 rfl (lv_at hl 6 rfl) ?_
                refine lv_if_ne (tgt := 109) hx hb dX7_thunder_101 (by decide) (fun c_12 => ?_) (fun c_12 => ?_)
                · have E := E.trans (if_neg c_12)
                  have fc_12 := i_ne c_12
                  rw [q_0] at fc_12
                  refine lv_lload hx hb dX7_thunder_109 (lv_at hl 1 rfl) ?_
                  refine lv_lload hx hb dX7_thunder_111 (lv_at hl 2 rfl) ?_
                  refine lv_lload hx hb dX7_thunder_113 (lv_at hl 1 rfl) ?_
                  refine vp_callSl (va_Run.run (va_runS (As := [.long x5_59, .long x7_59]) (rest := [.long x7_59]) ⟨hx, hb, hml, hown, hts⟩ (kX7_divisor l x5_59 x7_59 hth.1 hth.2.1) (va_cwS 2 hts gX7_thunder_X7_divisor rfl rfl rfl mdX7_divisor ⟨Nat.le_of_ble_eq_true rfl, Nat.le_of_ble_eq_true rfl⟩) s_pre rfl rfl hl.1 rfl (lv_room (Nat.le_of_ble_eq_true rfl)) dX7_thunder_115 ⟨Nat.zero_le _, Nat.zero_le _⟩)) (fun r_13 hr_13 => ?_)
                  subst hr_13
                  refine lv_ldiv hx hb dX7_thunder_118 hth.2.2 ?_
                  exact W.lret (v := x7_59 / (sX7_divisor x5_59 x7_59)) hx hb hr (fun t ht hW => ⟨⟨_, w, rfl, E.symm, by beta_reduce; rw [ht]; exact hP⟩, hS.F ht⟩) hS.2.2 dX7_thunder_119
                · have E := E.trans (if_pos c_12)
                  have fc_12 := i_eq c_12
                  rw [q_0] at fc_12
                  refine lv_lload hx hb dX7_thunder_104 (lv_at hl 2 rfl) ?_
                  refine lv_goto (tgt := 111) hx hb dX7_thunder_106 (by decide) ?_
                  refine lv_lload hx hb dX7_thunder_111 (lv_at hl 2 rfl) ?_
                  refine lv_lload hx hb dX7_thunder_113 (lv_at hl 1 rfl) ?_
                  refine vp_callSl (va_Run.run (va_runS (As := [.long x5_59, .long x7_59]) (rest := [.long x5_59]) ⟨hx, hb, hml, hown, hts⟩ (kX7_divisor l x5_59 x7_59 hth.1 hth.2.1) (va_cwS 2 hts gX7_thunder_X7_divisor rfl rfl rfl mdX7_divisor ⟨Nat.le_of_ble_eq_true rfl, Nat.le_of_ble_eq_true rfl⟩) s_pre rfl rfl hl.1 rfl (lv_room (Nat.le_of_ble_eq_true rfl)) dX7_thunder_115 ⟨Nat.zero_le _, Nat.zero_le _⟩)) (fun r_14 hr_14 => ?_)
                  subst hr_14
                  refine lv_ldiv hx hb dX7_thunder_118 hth.2.2 ?_
                  exact W.lret (v := x5_59 / (sX7_divisor x5_59 x7_59)) hx hb hr (fun t ht hW => ⟨⟨_, w, rfl, E.symm, by beta_reduce; rw [ht]; exact hP⟩, hS.F ht⟩) hS.2.2 dX7_thunder_119
              · have E := E.trans (if_neg c_11)
                have fc_11 := i_nle c_11
                rw [q_12] at fc_11
                refine lv_lload hx hb dX7_thunder_76 (lv_at hl 2 rfl) ?_
                refine lv_bipush (v := 10) hx hb dX7_thunder_78 (by decide +kernel) ?_
                refine lv_iload_n hx hb dX7_thunder_80 rfl (lv_at hl 5 rfl) ?_
                refine lv_isub hx hb dX7_thunder_81 ?_
                refine lv_i2l (v := (10 - a2).toInt64) hx hb dX7_thunder_82 rfl ?_
                refine lv_lmul hx hb dX7_thunder_83 ?_
                refine lv_lstore (lv' := [(5, .long (x5_59 * ((10 - a2).toInt64))), (9, .int x9_59), (7, .long x7_59), (0, .ref (ad 0)), (1, .int a1), (2, .int a2), (3, .int a3)]) hx hb dX7_thunder_84 hl (by decide) rfl (fun ls hl => ?_)
                refine lv_lload hx hb dX7_thunder_86 (lv_at hl 2 rfl) ?_
                refine lv_ldc2 (own := RX7) (v := 10) hx hb hown (hts (.constantLong RX7 256 (10)) (by decide +kernel)) dX7_thunder_88 ?_
                refine lv_lmul hx hb dX7_thunder_91 ?_
                refine lv_lstore (lv' := [(7, .long (x7_59 * 10)), (5, .long (x5_59 * ((10 - a2).toInt64))), (9, .int x9_59), (0, .ref (ad 0)), (1, .int a1), (2, .int a2), (3, .int a3)]) hx hb dX7_thunder_92 hl (by decide) rfl (fun ls hl => ?_)
                refine lv_iinc (v := x9_59 + 1) (lv' := [(9, .int (x9_59 + 1)), (7, .long (x7_59 * 10)), (5, .long (x5_59 * ((10 - a2).toInt64))), (0, .ref (ad 0)), (1, .int a1), (2, .int a2), (3, .int a3)]) hx hb dX7_thunder_94 hl (k := 2) rfl rfl (by decide) rfl (fun ls hl => ?_)
                refine lv_goto (tgt := 59) hx hb dX7_thunder_97 (by decide) ?_
                have := q_1
                try have := i_add (a := x9_59) (b := 1) (by omega) (by omega)
                exact ih_59 (x5_59 * ((10 - a2).toInt64)) (x7_59 * 10) (x9_59 + 1) ls ⟨by omega, by omega, pw_next v2_59 (by omega)⟩ (by omega) (lv_sub hl [0, 1, 2, 3, 4, 5, 6] rfl) E
        have := q_0
        exact L_59 13 1 1 0 ls ⟨by omega, by omega, ⟨0, by omega, by rfl, rfl, rfl⟩⟩ (by omega) (lv_sub hl [0, 1, 2, 4, 5, 6, 7] rfl) E
      · have E := E.trans (if_neg c_5)
        have fc_5 := i_ne c_5
        rw [q_0] at fc_5
        refine lv_aload_n hx hb dX7_thunder_43 rfl (lv_at hl 1 rfl) ?_
        refine lv_iload hx hb dX7_thunder_44 (lv_at hl 0 rfl) ?_
        refine va_calll (va_runV (As := [.int (sX7_bound a2 0 9)]) (rest := []) ⟨hx, hb, hml, hown, hts⟩ (kX7_lowest l D cI ad w (sX7_bound a2 0 9) hd hI (by omega) (by omega)) (cwV 1 hts gX7_thunder_X7_lowest rfl rfl rfl mdX7_lowest ⟨Nat.le_of_ble_eq_true rfl, Nat.le_of_ble_eq_true rfl⟩) (r7_pre hK hP) rfl rfl hl.1 rfl (lv_room (Nat.le_of_ble_eq_true rfl)) dX7_thunder_46 ⟨Nat.zero_le _, Nat.zero_le _⟩) hS (fun _ _ h => h) (fun _ h => h) (fun rn_15 wn_15 t H locs ht hvm hp_15 hB hz hk hS => ?_)
        have hP : va_P D vwCl (RM cI ad wn_15) H := ht ▸ hB
        obtain ⟨hp_15, hI_15⟩ := hp_15
        have E := bnd_e E hp_15
        exact W.lret (v := rn_15) hx hb hr (fun t ht hW => ⟨⟨_, wn_15, rfl, E.symm, by beta_reduce; rw [ht]; exact hP⟩, hS.F ht⟩) hS.2.2 dX7_thunder_49
    · have E := E.trans (if_pos c_4)
      have fc_4 := i_eq c_4
      rw [q_0] at fc_4
      refine lv_iload_n hx hb dX7_thunder_25 rfl (lv_at hl 4 rfl) ?_
      refine lv_iconst (v := 0) hx hb dX7_thunder_26 (by decide) ?_
      refine lv_iconst (v := 1) hx hb dX7_thunder_27 (by decide) ?_
      refine vp_callSi (va_Run.run (va_runS (As := [.int a3, .int 0, .int 1]) (rest := []) ⟨hx, hb, hml, hown, hts⟩ (kX7_isIn l a3 0 1) (va_cwS 3 hts gX7_thunder_X7_isIn rfl rfl rfl mdX7_isIn ⟨Nat.le_of_ble_eq_true rfl, Nat.le_of_ble_eq_true rfl⟩) s_pre rfl rfl hl.1 rfl (lv_room (Nat.le_of_ble_eq_true rfl)) dX7_thunder_28 ⟨Nat.zero_le _, Nat.zero_le _⟩)) (fun r_16 hr_16 => ?_)
      obtain ⟨rfl, hz_16⟩ := hr_16
      refine lv_if_ne (tgt := 38) hx hb dX7_thunder_31 (by decide) (fun c_17 => ?_) (fun c_17 => ?_)
      · have E := E.trans (if_neg c_17)
        have fc_17 := i_ne c_17
        rw [q_0] at fc_17
        have gc_17 := fX7_isIn c_17
        have := q_0
        have := q_1
        refine lv_iload hx hb dX7_thunder_38 (lv_at hl 0 rfl) ?_
        refine lv_if_eq (tgt := 50) hx hb dX7_thunder_40 (by decide) (fun c_18 => ?_) (fun c_18 => ?_)
        · have E := E.trans (if_pos c_18)
          have fc_18 := i_eq c_18
          rw [q_0] at fc_18
          refine lv_lconst (v := 1) hx hb dX7_thunder_50 (by decide) ?_
          refine lv_lstore (lv' := [(5, .long 1), (4, .int (sX7_bound a2 0 9)), (0, .ref (ad 0)), (1, .int a1), (2, .int a2), (3, .int a3)]) hx hb dX7_thunder_51 hl (by decide) rfl (fun ls hl => ?_)
          refine lv_lconst (v := 1) hx hb dX7_thunder_53 (by decide) ?_
          refine lv_lstore (lv' := [(7, .long 1), (5, .long 1), (4, .int (sX7_bound a2 0 9)), (0, .ref (ad 0)), (1, .int a1), (2, .int a2), (3, .int a3)]) hx hb dX7_thunder_54 hl (by decide) rfl (fun ls hl => ?_)
          refine lv_iconst (v := 0) hx hb dX7_thunder_56 (by decide) ?_
          refine lv_istore (lv' := [(9, .int 0), (7, .long 1), (5, .long 1), (4, .int (sX7_bound a2 0 9)), (0, .ref (ad 0)), (1, .int a1), (2, .int a2), (3, .int a3)]) hx hb dX7_thunder_57 hl (by decide) rfl (fun ls hl => ?_)
          have L_59 : ∀ (n_59 : Nat) (x5_59 : Int64) (x7_59 : Int64) (x9_59 : Int32) (ls : Array Slot), (0 ≤ x9_59.toInt ∧ x9_59.toInt ≤ 12 ∧ ∃ i : Nat, i ≤ 12 ∧ x9_59.toInt = i ∧ x5_59 = pw ((10 - a2).toInt64) i ∧ x7_59 = pw 10 i) → (12 - x9_59.toInt < (n_59 : Int)) → lv_has ls 10 [(9, .int x9_59), (7, .long x7_59), (5, .long x5_59), (0, .ref (ad 0)), (1, .int a1), (2, .int a2), (3, .int a3)] → sX7_thunder w a1 a2 a3 = sX7_thunder_59 w a1 a2 a3 n_59 x5_59 x7_59 x9_59 → W p l e (headSpec wsX7_thunder rmX7_thunder).room s m [Value.ref (ad 0), Value.int a1, Value.int a2, Value.int a3].toArray below meth c H locs 0 0 (MQ below (va_Ql (fun r u => (r, u) = sX7_thunder w a1 a2 a3) (fun u t => va_P D vwCl (RM cI ad u) t.heap) (RA ad)) [Value.ref (ad 0), Value.int a1, Value.int a2, Value.int a3].toArray s 0 0 (RA ad)) (F0 m 59 ls []) := by
            intro n_59
            induction n_59 with
            | zero =>
              intro x5_59 x7_59 x9_59 ls hinv hm
              obtain ⟨v0_59, v1_59, v2_59⟩ := hinv
              exact absurd hm (by omega)
            | succ n_59 ih_59 =>
              intro x5_59 x7_59 x9_59 ls hinv hm_59 hl E
              obtain ⟨v0_59, v1_59, v2_59⟩ := hinv
              have E := E.trans (sX7_thunder_59.eq_2 ..)
              refine lv_iload hx hb dX7_thunder_59 (lv_at hl 0 rfl) ?_
              refine lv_aload_n hx hb dX7_thunder_61 rfl (lv_at hl 3 rfl) ?_
              refine lv_iload_n hx hb dX7_thunder_62 rfl (lv_at hl 4 rfl) ?_
              refine vp_callSi (va_Run.run (va_runV (As := [.int a1]) (rest := [.int x9_59]) ⟨hx, hb, hml, hown, hts⟩ (kX7_minutesOf l D cI ad w a1 hI (by omega) (by omega)) (cwV 1 hts gX7_thunder_X7_minutesOf rfl rfl rfl mdX7_minutesOf ⟨Nat.le_of_ble_eq_true rfl, Nat.le_of_ble_eq_true rfl⟩) (r7_pre hK hP) rfl rfl hl.1 rfl (lv_room (Nat.le_of_ble_eq_true rfl)) dX7_thunder_63 ⟨Nat.zero_le _, Nat.zero_le _⟩)) (fun r_19 hr_19 => ?_)
              subst hr_19
              refine lv_icmp_ge (tgt := 100) hx hb dX7_thunder_66 (by decide) (fun c_20 => ?_) (fun c_20 => ?_)
              · have E := E.trans (if_pos c_20)
                have fc_20 := i_le c_20
                have hth := thX7 (a := a2) (by omega) (by omega) v2_59
                refine lv_iload_n hx hb dX7_thunder_100 rfl (lv_at hl 6 rfl) ?_
                refine lv_if_ne (tgt := 109) hx hb dX7_thunder_101 (by decide) (fun c_21 => ?_) (fun c_21 => ?_)
                · have E := E.trans (if_neg c_21)
                  have fc_21 := i_ne c_21
                  rw [q_0] at fc_21
                  refine lv_lload hx hb dX7_thunder_109 (lv_at hl 1 rfl) ?_
                  refine lv_lload hx hb dX7_thunder_111 (lv_at hl 2 rfl) ?_
                  refine lv_lload hx hb dX7_thunder_113 (lv_at hl 1 rfl) ?_
                  refine vp_callSl (va_Run.run (va_runS (As := [.long x5_59, .long x7_59]) (rest := [.long x7_59]) ⟨hx, hb, hml, hown, hts⟩ (kX7_divisor l x5_59 x7_59 hth.1 hth.2.1) (va_cwS 2 hts gX7_thunder_X7_divisor rfl rfl rfl mdX7_divisor ⟨Nat.le_of_ble_eq_true rfl, Nat.le_of_ble_eq_true rfl⟩) s_pre rfl rfl hl.1 rfl (lv_room (Nat.le_of_ble_eq_true rfl)) dX7_thunder_115 ⟨Nat.zero_le _, Nat.zero_le _⟩)) (fun r_22 hr_22 => ?_)
                  subst hr_22
                  refine lv_ldiv hx hb dX7_thunder_118 hth.2.2 ?_
                  exact W.lret (v := x7_59 / (sX7_divisor x5_59 x7_59)) hx hb hr (fun t ht hW => ⟨⟨_, w, rfl, E.symm, by beta_reduce; rw [ht]; exact hP⟩, hS.F ht⟩) hS.2.2 dX7_thunder_119
                · have E := E.trans (if_pos c_21)
                  have fc_21 := i_eq c_21
                  rw [q_0] at fc_21
                  refine lv_lload hx hb dX7_thunder_104 (lv_at hl 2 rfl) ?_
                  refine lv_goto (tgt := 111) hx hb dX7_thunder_106 (by decide) ?_
                  refine lv_lload hx hb dX7_thunder_111 (lv_at hl 2 rfl) ?_
                  refine lv_lload hx hb dX7_thunder_113 (lv_at hl 1 rfl) ?_
                  refine vp_callSl (va_Run.run (va_runS (As := [.long x5_59, .long x7_59]) (rest := [.long x5_59]) ⟨hx, hb, hml, hown, hts⟩ (kX7_divisor l x5_59 x7_59 hth.1 hth.2.1) (va_cwS 2 hts gX7_thunder_X7_divisor rfl rfl rfl mdX7_divisor ⟨Nat.le_of_ble_eq_true rfl, Nat.le_of_ble_eq_true rfl⟩) s_pre rfl rfl hl.1 rfl (lv_room (Nat.le_of_ble_eq_true rfl)) dX7_thunder_115 ⟨Nat.zero_le _, Nat.zero_le _⟩)) (fun r_23 hr_23 => ?_)
                  subst hr_23
                  refine lv_ldiv hx hb dX7_thunder_118 hth.2.2 ?_
                  exact W.lret (v := x5_59 / (sX7_divisor x5_59 x7_59)) hx hb hr (fun t ht hW => ⟨⟨_, w, rfl, E.symm, by beta_reduce; rw [ht]; exact hP⟩, hS.F ht⟩) hS.2.2 dX7_thunder_119
              · have E := E.trans (if_neg c_20)
                have fc_20 := i_nle c_20
                refine lv_iload hx hb dX7_thunder_69 (lv_at hl 0 rfl) ?_
                refine lv_bipush (v := 12) hx hb dX7_thunder_71 (by decide +kernel) ?_
                refine lv_icmp_ge (tgt := 100) hx hb dX7_thunder_73 (by decide) (fun c_24 => ?_) (fun c_24 => ?_)
                · have E := E.trans (if_pos c_24)
                  have fc_24 := i_le c_24
                  rw [q_12] at fc_24
                  have hth := thX7 (a := a2) (by omega) (by omega) v2_59
                  refine lv_iload_n hx hb dX7_thunder_100 rfl (lv_at hl 6 rfl) ?_
                  refine lv_if_ne (tgt := 109) hx hb dX7_thunder_101 (by decide) (fun c_25 => ?_) (fun c_25 => ?_)
                  · have E := E.trans (if_neg c_25)
                    have fc_25 := i_ne c_25
                    rw [q_0] at fc_25
                    refine lv_lload hx hb dX7_thunder_109 (lv_at hl 1 rfl) ?_
                    refine lv_lload hx hb dX7_thunder_111 (lv_at hl 2 rfl) ?_
                    refine lv_lload hx hb dX7_thunder_113 (lv_at hl 1 rfl) ?_
                    refine vp_callSl (va_Run.run (va_runS (As := [.long x5_59, .long x7_59]) (rest := [.long x7_59]) ⟨hx, hb, hml, hown, hts⟩ (kX7_divisor l x5_59 x7_59 hth.1 hth.2.1) (va_cwS 2 hts gX7_thunder_X7_divisor rfl rfl rfl mdX7_divisor ⟨Nat.le_of_ble_eq_true rfl, Nat.le_of_ble_eq_true rfl⟩) s_pre rfl rfl hl.1 rfl (lv_room (Nat.le_of_ble_eq_true rfl)) dX7_thunder_115 ⟨Nat.zero_le _, Nat.zero_le _⟩)) (fun r_26 hr_26 => ?_)
                    subst hr_26
                    refine lv_ldiv hx hb dX7_thunder_118 hth.2.2 ?_
                    exact W.lret (v := x7_59 / (sX7_divisor x5_59 x7_59)) hx hb hr (fun t ht hW => ⟨⟨_, w, rfl, E.symm, by beta_reduce; rw [ht]; exact hP⟩, hS.F ht⟩) hS.2.2 dX7_thunder_119
                  · have E := E.trans (if_pos c_25)
                    have fc_25 := i_eq c_25
                    rw [q_0] at fc_25
                    refine lv_lload hx hb dX7_thunder_104 (lv_at hl 2 rfl) ?_
                    refine lv_goto (tgt := 111) hx hb dX7_thunder_106 (by decide) ?_
                    refine lv_lload hx hb dX7_thunder_111 (lv_at hl 2 rfl) ?_
                    refine lv_lload hx hb dX7_thunder_113 (lv_at hl 1 rfl) ?_
                    refine vp_callSl (va_Run.run (va_runS (As := [.long x5_59, .long x7_59]) (rest := [.long x5_59]) ⟨hx, hb, hml, hown, hts⟩ (kX7_divisor l x5_59 x7_59 hth.1 hth.2.1) (va_cwS 2 hts gX7_thunder_X7_divisor rfl rfl rfl mdX7_divisor ⟨Nat.le_of_ble_eq_true rfl, Nat.le_of_ble_eq_true rfl⟩) s_pre rfl rfl hl.1 rfl (lv_room (Nat.le_of_ble_eq_true rfl)) dX7_thunder_115 ⟨Nat.zero_le _, Nat.zero_le _⟩)) (fun r_27 hr_27 => ?_)
                    subst hr_27
                    refine lv_ldiv hx hb dX7_thunder_118 hth.2.2 ?_
                    exact W.lret (v := x5_59 / (sX7_divisor x5_59 x7_59)) hx hb hr (fun t ht hW => ⟨⟨_, w, rfl, E.symm, by beta_reduce; rw [ht]; exact hP⟩, hS.F ht⟩) hS.2.2 dX7_thunder_119
                · have E := E.trans (if_neg c_24)
                  have fc_24 := i_nle c_24
                  rw [q_12] at fc_24
                  refine lv_lload hx hb dX7_thunder_76 (lv_at hl 2 rfl) ?_
                  refine lv_bipush (v := 10) hx hb dX7_thunder_78 (by decide +kernel) ?_
                  refine lv_iload_n hx hb dX7_thunder_80 rfl (lv_at hl 5 rfl) ?_
                  refine lv_isub hx hb dX7_thunder_81 ?_
                  refine lv_i2l (v := (10 - a2).toInt64) hx hb dX7_thunder_82 rfl ?_
                  refine lv_lmul hx hb dX7_thunder_83 ?_
                  refine lv_lstore (lv' := [(5, .long (x5_59 * ((10 - a2).toInt64))), (9, .int x9_59), (7, .long x7_59), (0, .ref (ad 0)), (1, .int a1), (2, .int a2), (3, .int a3)]) hx hb dX7_thunder_84 hl (by decide) rfl (fun ls hl => ?_)
                  refine lv_lload hx hb dX7_thunder_86 (lv_at hl 2 rfl) ?_
                  refine lv_ldc2 (own := RX7) (v := 10) hx hb hown (hts (.constantLong RX7 256 (10)) (by decide +kernel)) dX7_thunder_88 ?_
                  refine lv_lmul hx hb dX7_thunder_91 ?_
                  refine lv_lstore (lv' := [(7, .long (x7_59 * 10)), (5, .long (x5_59 * ((10 - a2).toInt64))), (9, .int x9_59), (0, .ref (ad 0)), (1, .int a1), (2, .int a2), (3, .int a3)]) hx hb dX7_thunder_92 hl (by decide) rfl (fun ls hl => ?_)
                  refine lv_iinc (v := x9_59 + 1) (lv' := [(9, .int (x9_59 + 1)), (7, .long (x7_59 * 10)), (5, .long (x5_59 * ((10 - a2).toInt64))), (0, .ref (ad 0)), (1, .int a1), (2, .int a2), (3, .int a3)]) hx hb dX7_thunder_94 hl (k := 2) rfl rfl (by decide) rfl (fun ls hl => ?_)
                  refine lv_goto (tgt := 59) hx hb dX7_thunder_97 (by decide) ?_
                  have := q_1
                  try have := i_add (a := x9_59) (b := 1) (by omega) (by omega)
                  exact ih_59 (x5_59 * ((10 - a2).toInt64)) (x7_59 * 10) (x9_59 + 1) ls ⟨by omega, by omega, pw_next v2_59 (by omega)⟩ (by omega) (lv_sub hl [0, 1, 2, 3, 4, 5, 6] rfl) E
          have := q_0
          exact L_59 13 1 1 0 ls ⟨by omega, by omega, ⟨0, by omega, by rfl, rfl, rfl⟩⟩ (by omega) (lv_sub hl [0, 1, 2, 4, 5, 6, 7] rfl) E
        · have E := E.trans (if_neg c_18)
          have fc_18 := i_ne c_18
          rw [q_0] at fc_18
          refine lv_aload_n hx hb dX7_thunder_43 rfl (lv_at hl 1 rfl) ?_
          refine lv_iload hx hb dX7_thunder_44 (lv_at hl 0 rfl) ?_
          refine va_calll (va_runV (As := [.int (sX7_bound a2 0 9)]) (rest := []) ⟨hx, hb, hml, hown, hts⟩ (kX7_lowest l D cI ad w (sX7_bound a2 0 9) hd hI (by omega) (by omega)) (cwV 1 hts gX7_thunder_X7_lowest rfl rfl rfl mdX7_lowest ⟨Nat.le_of_ble_eq_true rfl, Nat.le_of_ble_eq_true rfl⟩) (r7_pre hK hP) rfl rfl hl.1 rfl (lv_room (Nat.le_of_ble_eq_true rfl)) dX7_thunder_46 ⟨Nat.zero_le _, Nat.zero_le _⟩) hS (fun _ _ h => h) (fun _ h => h) (fun rn_28 wn_28 t H locs ht hvm hp_28 hB hz hk hS => ?_)
          have hP : va_P D vwCl (RM cI ad wn_28) H := ht ▸ hB
          obtain ⟨hp_28, hI_28⟩ := hp_28
          have E := bnd_e E hp_28
          exact W.lret (v := rn_28) hx hb hr (fun t ht hW => ⟨⟨_, wn_28, rfl, E.symm, by beta_reduce; rw [ht]; exact hP⟩, hS.F ht⟩) hS.2.2 dX7_thunder_49
      · have E := E.trans (if_pos c_17)
        have fc_17 := i_eq c_17
        rw [q_0] at fc_17
        refine lv_bipush (v := (-2)) hx hb dX7_thunder_34 (by decide +kernel) ?_
        refine lv_istore (lv' := [(4, .int (-2)), (0, .ref (ad 0)), (1, .int a1), (2, .int a2), (3, .int a3)]) hx hb dX7_thunder_36 hl (by decide) rfl (fun ls hl => ?_)
        refine lv_iload hx hb dX7_thunder_38 (lv_at hl 0 rfl) ?_
        refine lv_if_eq (tgt := 50) hx hb dX7_thunder_40 (by decide) (fun z => absurd z (by decide)) (fun _ => ?_)
        refine lv_aload_n hx hb dX7_thunder_43 rfl (lv_at hl 1 rfl) ?_
        refine lv_iload hx hb dX7_thunder_44 (lv_at hl 0 rfl) ?_
        have := q_m2
        refine va_calll (va_runV (As := [.int (-2)]) (rest := []) ⟨hx, hb, hml, hown, hts⟩ (kX7_lowest l D cI ad w (-2) hd hI (by omega) (by omega)) (cwV 1 hts gX7_thunder_X7_lowest rfl rfl rfl mdX7_lowest ⟨Nat.le_of_ble_eq_true rfl, Nat.le_of_ble_eq_true rfl⟩) (r7_pre hK hP) rfl rfl hl.1 rfl (lv_room (Nat.le_of_ble_eq_true rfl)) dX7_thunder_46 ⟨Nat.zero_le _, Nat.zero_le _⟩) hS (fun _ _ h => h) (fun _ h => h) (fun rn_29 wn_29 t H locs ht hvm hp_29 hB hz hk hS => ?_)
        have hP : va_P D vwCl (RM cI ad wn_29) H := ht ▸ hB
        obtain ⟨hp_29, hI_29⟩ := hp_29
        have E := bnd_e E hp_29
        exact W.lret (v := rn_29) hx hb hr (fun t ht hW => ⟨⟨_, wn_29, rfl, E.symm, by beta_reduce; rw [ht]; exact hP⟩, hS.F ht⟩) hS.2.2 dX7_thunder_49
  · have E := E.trans (if_pos c_2)
    have fc_2 := i_eq c_2
    rw [q_0] at fc_2
    refine lv_iconst (v := (-1)) hx hb dX7_thunder_7 (by decide) ?_
    refine lv_goto (tgt := 18) hx hb dX7_thunder_8 (by decide) ?_
    refine lv_istore (lv' := [(4, .int (-1)), (0, .ref (ad 0)), (1, .int a1), (2, .int a2), (3, .int a3)]) hx hb dX7_thunder_18 hl (by decide) rfl (fun ls hl => ?_)
    refine lv_iload hx hb dX7_thunder_20 (lv_at hl 0 rfl) ?_
    refine lv_if_ne (tgt := 38) hx hb dX7_thunder_22 (by decide) (fun _ => ?_) (fun z => absurd z (by decide))
    refine lv_iload hx hb dX7_thunder_38 (lv_at hl 0 rfl) ?_
    refine lv_if_eq (tgt := 50) hx hb dX7_thunder_40 (by decide) (fun z => absurd z (by decide)) (fun _ => ?_)
    refine lv_aload_n hx hb dX7_thunder_43 rfl (lv_at hl 1 rfl) ?_
    refine lv_iload hx hb dX7_thunder_44 (lv_at hl 0 rfl) ?_
    have := q_m1
    refine va_calll (va_runV (As := [.int (-1)]) (rest := []) ⟨hx, hb, hml, hown, hts⟩ (kX7_lowest l D cI ad w (-1) hd hI (by omega) (by omega)) (cwV 1 hts gX7_thunder_X7_lowest rfl rfl rfl mdX7_lowest ⟨Nat.le_of_ble_eq_true rfl, Nat.le_of_ble_eq_true rfl⟩) (r7_pre hK hP) rfl rfl hl.1 rfl (lv_room (Nat.le_of_ble_eq_true rfl)) dX7_thunder_46 ⟨Nat.zero_le _, Nat.zero_le _⟩) hS (fun _ _ h => h) (fun _ h => h) (fun rn_30 wn_30 t H locs ht hvm hp_30 hB hz hk hS => ?_)
    have hP : va_P D vwCl (RM cI ad wn_30) H := ht ▸ hB
    obtain ⟨hp_30, hI_30⟩ := hp_30
    have E := bnd_e E hp_30
    exact W.lret (v := rn_30) hx hb hr (fun t ht hW => ⟨⟨_, wn_30, rfl, E.symm, by beta_reduce; rw [ht]; exact hP⟩, hS.F ht⟩) hS.2.2 dX7_thunder_49
abbrev rmX7_fell : Room := { frames := 5, cells := 0, slots := 0, locals := 115 }
set_option maxHeartbeats 4000000 in
set_option maxRecDepth 100000 in
theorem kX7_fell (l : Launch) (D : va_G) (cI : ClassId) (ad : Nat → Nat) (w : Nat → Nat → Int32) (a1 : Int32) (a2 : Int32) (hd : RD ad) (hI : R7I w)  : Met l yX7_fell wsX7_fell rmX7_fell (va_Pc [Value.ref (ad 0), Value.int a1, Value.int a2] (fun U => va_P D vwCl (RM cI ad w) U.heap ∧ va_K D vwCl [(cI, .int)] U)) (va_Qi (fun r u => (r, u) = sX7_fell w a1 a2) (fun u t => va_P D vwCl (RM cI ad u) t.heap) (RA ad)) 0 0 (RA ad) := by
  refine Met.ofW (cc := cX7_fell) (maxL := 3) (ret := (some .int)) (by decide) rfl ?_
  intro p e s m args below meth c s₁ B hml hv
  obtain ⟨rfl, hP, hK⟩ := hv
  have hx := B.exec
  have hb := B.bytes
  have hr := B.returns
  have hts := atoms_spec (ws := wsX7_fell) B.pre
  have hown : s.vm.findClass RX7 = some m.cls := findClass_of_methodNamed B.named
  have hlocks := B.notSynchronized
  have hin : ∀ q ∈ wsX70, q ∈ wsX7_fell := by decide +kernel
  have hl := lv_entry ([.ref (ad 0), .int a1, .int a2]) (n := 3) (Nat.le_of_ble_eq_true rfl)
  rw [lg_entry_eq]
  generalize (lg_sl ([.ref (ad 0), .int a1, .int a2]) ++ List.replicate (3 - (lg_sl ([.ref (ad 0), .int a1, .int a2])).length) Slot.unset).toArray = ls at hl ⊢
  have hl : lv_has ls 3 [(0, .ref (ad 0)), (1, .int a1), (2, .int a2)] := hl
  suffices hgo : ∀ (H : Heap) (locs : List Loc), va_P D vwCl (RM cI ad w) H → va_S (RA ad) s.heap H locs → W p l e (headSpec wsX7_fell rmX7_fell).room s m [Value.ref (ad 0), Value.int a1, Value.int a2].toArray below meth c H locs 0 0 (MQ below (va_Qi (fun r u => (r, u) = sX7_fell w a1 a2) (fun u t => va_P D vwCl (RM cI ad u) t.heap) (RA ad)) [Value.ref (ad 0), Value.int a1, Value.int a2].toArray s 0 0 (RA ad)) (F0 m 0 ls []) from hgo s.heap [] hP va_S.rf
  intro H locs hP hS
  have E := sX7_fell.eq_1 w a1 a2
  refine lv_aload_n hx hb dX7_fell_0 rfl (lv_at hl 0 rfl) ?_
  refine lv_iload_n hx hb dX7_fell_1 rfl (lv_at hl 1 rfl) ?_
  refine lv_iload_n hx hb dX7_fell_2 rfl (lv_at hl 2 rfl) ?_
  refine vp_callSi (va_Run.run (va_runV (As := [.int a1, .int a2]) (rest := []) ⟨hx, hb, hml, hown, hts⟩ (kX7_isPiece l D cI ad w a1 a2) (cwV 2 hts gX7_fell_X7_isPiece rfl rfl rfl mdX7_isPiece ⟨Nat.le_of_ble_eq_true rfl, Nat.le_of_ble_eq_true rfl⟩) (r7_pre hK hP) rfl rfl hl.1 rfl (lv_room (Nat.le_of_ble_eq_true rfl)) dX7_fell_3 ⟨Nat.zero_le _, Nat.zero_le _⟩)) (fun r_1 hr_1 => ?_)
  obtain ⟨rfl, hz_1⟩ := hr_1
  refine lv_if_eq (tgt := 22) hx hb dX7_fell_6 (by decide) (fun c_2 => ?_) (fun c_2 => ?_)
  · have E := E.trans (if_pos c_2)
    have fc_2 := i_eq c_2
    rw [q_0] at fc_2
    refine lv_aload_n hx hb dX7_fell_22 rfl (lv_at hl 0 rfl) ?_
    refine lv_iconst (v := (-1)) hx hb dX7_fell_23 (by decide) ?_
    have := q_m1
    refine va_calli (va_runV (As := [.int (-1)]) (rest := []) ⟨hx, hb, hml, hown, hts⟩ (kX7_no l D cI ad w (-1) hd hI (by omega) (by omega)) (cwV 1 hts gX7_fell_X7_no rfl rfl rfl mdX7_no ⟨Nat.le_of_ble_eq_true rfl, Nat.le_of_ble_eq_true rfl⟩) (r7_pre hK hP) rfl rfl hl.1 rfl (lv_room (Nat.le_of_ble_eq_true rfl)) dX7_fell_24 ⟨Nat.zero_le _, Nat.zero_le _⟩) hS (fun _ _ h => h) (fun _ h => h) (fun rn_3 wn_3 t H locs ht hvm hp_3 hB hz hk hS => ?_)
    have hP : va_P D vwCl (RM cI ad wn_3) H := ht ▸ hB
    obtain ⟨hp_3, hI_3⟩ := hp_3
    have E := bnd_e E hp_3
    exact W.iret (v := rn_3) hx hb hr (fun t ht hW => ⟨⟨_, wn_3, rfl, E.symm, by beta_reduce; rw [ht]; exact hP⟩, hS.F ht⟩) hS.2.2 dX7_fell_27
  · have E := E.trans (if_neg c_2)
    have fc_2 := i_ne c_2
    rw [q_0] at fc_2
    have gc_2 := fX7_isPiece c_2
    have gpc_2 := R7I_pieces hI (j := a1.toNatClampNeg) (by have := ix_cl (x := a1) (by omega); omega)
    refine lv_aload_n hx hb dX7_fell_9 rfl (lv_at hl 0 rfl) ?_
    refine lv_bipush (v := 6) hx hb dX7_fell_10 (by decide +kernel) ?_
    refine lv_iload_n hx hb dX7_fell_12 rfl (lv_at hl 1 rfl) ?_
    refine lv_imul hx hb dX7_fell_13 ?_
    refine lv_iload_n hx hb dX7_fell_14 rfl (lv_at hl 2 rfl) ?_
    refine lv_iadd hx hb dX7_fell_15 ?_
    have := q_6
    have := i_mull (a := 6) (b := a1) (n := 6) q_6 (by omega) (by omega)
    have := i_add (a := 6 * a1) (b := a2) (by omega) (by omega)
    refine vp_callSi (va_Run.run (va_runV (As := [.int ((6 * a1) + a2)]) (rest := []) ⟨hx, hb, hml, hown, hts⟩ (kX7_fellBits l D cI ad w ((6 * a1) + a2) hI (by omega) (by omega)) (cwV 1 hts gX7_fell_X7_fellBits rfl rfl rfl mdX7_fellBits ⟨Nat.le_of_ble_eq_true rfl, Nat.le_of_ble_eq_true rfl⟩) (r7_pre hK hP) rfl rfl hl.1 rfl (lv_room (Nat.le_of_ble_eq_true rfl)) dX7_fell_16 ⟨Nat.zero_le _, Nat.zero_le _⟩)) (fun r_4 hr_4 => ?_)
    subst hr_4
    refine lv_goto (tgt := 27) hx hb dX7_fell_19 (by decide) ?_
    exact W.iret (v := (sX7_fellBits w ((6 * a1) + a2))) hx hb hr (fun t ht hW => ⟨⟨_, w, rfl, E.symm, by beta_reduce; rw [ht]; exact hP⟩, hS.F ht⟩) hS.2.2 dX7_fell_27
abbrev rmX7_whose : Room := { frames := 4, cells := 0, slots := 0, locals := 92 }
set_option maxHeartbeats 4000000 in
set_option maxRecDepth 100000 in
theorem kX7_whose (l : Launch) (D : va_G) (cI : ClassId) (ad : Nat → Nat) (w : Nat → Nat → Int32) (a1 : Int32) (a2 : Int32) (hd : RD ad) (hI : R7I w)  : Met l yX7_whose wsX7_whose rmX7_whose (va_Pc [Value.ref (ad 0), Value.int a1, Value.int a2] (fun U => va_P D vwCl (RM cI ad w) U.heap ∧ va_K D vwCl [(cI, .int)] U)) (va_Qi (fun r u => (r, u) = sX7_whose w a1 a2) (fun u t => va_P D vwCl (RM cI ad u) t.heap) (RA ad)) 0 0 (RA ad) := by
  refine Met.ofW (cc := cX7_whose) (maxL := 6) (ret := (some .int)) (by decide) rfl ?_
  intro p e s m args below meth c s₁ B hml hv
  obtain ⟨rfl, hP, hK⟩ := hv
  have hx := B.exec
  have hb := B.bytes
  have hr := B.returns
  have hts := atoms_spec (ws := wsX7_whose) B.pre
  have hown : s.vm.findClass RX7 = some m.cls := findClass_of_methodNamed B.named
  have hlocks := B.notSynchronized
  have hin : ∀ q ∈ wsX70, q ∈ wsX7_whose := by decide +kernel
  have hl := lv_entry ([.ref (ad 0), .int a1, .int a2]) (n := 6) (Nat.le_of_ble_eq_true rfl)
  rw [lg_entry_eq]
  generalize (lg_sl ([.ref (ad 0), .int a1, .int a2]) ++ List.replicate (6 - (lg_sl ([.ref (ad 0), .int a1, .int a2])).length) Slot.unset).toArray = ls at hl ⊢
  have hl : lv_has ls 6 [(0, .ref (ad 0)), (1, .int a1), (2, .int a2)] := hl
  suffices hgo : ∀ (H : Heap) (locs : List Loc), va_P D vwCl (RM cI ad w) H → va_S (RA ad) s.heap H locs → W p l e (headSpec wsX7_whose rmX7_whose).room s m [Value.ref (ad 0), Value.int a1, Value.int a2].toArray below meth c H locs 0 0 (MQ below (va_Qi (fun r u => (r, u) = sX7_whose w a1 a2) (fun u t => va_P D vwCl (RM cI ad u) t.heap) (RA ad)) [Value.ref (ad 0), Value.int a1, Value.int a2].toArray s 0 0 (RA ad)) (F0 m 0 ls []) from hgo s.heap [] hP va_S.rf
  intro H locs hP hS
  have E := sX7_whose.eq_1 w a1 a2
  refine lv_aload_n hx hb dX7_whose_0 rfl (lv_at hl 0 rfl) ?_
  refine lv_iload_n hx hb dX7_whose_1 rfl (lv_at hl 1 rfl) ?_
  refine lv_iload_n hx hb dX7_whose_2 rfl (lv_at hl 2 rfl) ?_
  refine vp_callSi (va_Run.run (va_runV (As := [.int a1, .int a2]) (rest := []) ⟨hx, hb, hml, hown, hts⟩ (kX7_isPiece l D cI ad w a1 a2) (cwV 2 hts gX7_whose_X7_isPiece rfl rfl rfl mdX7_isPiece ⟨Nat.le_of_ble_eq_true rfl, Nat.le_of_ble_eq_true rfl⟩) (r7_pre hK hP) rfl rfl hl.1 rfl (lv_room (Nat.le_of_ble_eq_true rfl)) dX7_whose_3 ⟨Nat.zero_le _, Nat.zero_le _⟩)) (fun r_1 hr_1 => ?_)
  obtain ⟨rfl, hz_1⟩ := hr_1
  refine lv_if_ne (tgt := 15) hx hb dX7_whose_6 (by decide) (fun c_2 => ?_) (fun c_2 => ?_)
  · have E := E.trans (if_neg c_2)
    have fc_2 := i_ne c_2
    rw [q_0] at fc_2
    have gc_2 := fX7_isPiece c_2
    have gpc_2 := R7I_pieces hI (j := a1.toNatClampNeg) (by have := ix_cl (x := a1) (by omega); omega)
    refine lv_bipush (v := 6) hx hb dX7_whose_15 (by decide +kernel) ?_
    refine lv_iload_n hx hb dX7_whose_17 rfl (lv_at hl 1 rfl) ?_
    refine lv_imul hx hb dX7_whose_18 ?_
    refine lv_iload_n hx hb dX7_whose_19 rfl (lv_at hl 2 rfl) ?_
    refine lv_iadd hx hb dX7_whose_20 ?_
    refine lv_istore_n (lv' := [(3, .int ((6 * a1) + a2)), (0, .ref (ad 0)), (1, .int a1), (2, .int a2)]) hx hb dX7_whose_21 rfl hl (by decide) rfl (fun ls hl => ?_)
    refine lv_aload_n hx hb dX7_whose_22 rfl (lv_at hl 1 rfl) ?_
    refine lv_iload_n hx hb dX7_whose_23 rfl (lv_at hl 0 rfl) ?_
    have := q_6
    have := i_mull (a := 6) (b := a1) (n := 6) q_6 (by omega) (by omega)
    have := i_add (a := 6 * a1) (b := a2) (by omega) (by omega)
    refine vp_callSi (va_Run.run (va_runV (As := [.int ((6 * a1) + a2)]) (rest := []) ⟨hx, hb, hml, hown, hts⟩ (kX7_isShift l D cI ad w ((6 * a1) + a2) (by omega) (by omega)) (cwV 1 hts gX7_whose_X7_isShift rfl rfl rfl mdX7_isShift ⟨Nat.le_of_ble_eq_true rfl, Nat.le_of_ble_eq_true rfl⟩) (r7_pre hK hP) rfl rfl hl.1 rfl (lv_room (Nat.le_of_ble_eq_true rfl)) dX7_whose_24 ⟨Nat.zero_le _, Nat.zero_le _⟩)) (fun r_3 hr_3 => ?_)
    obtain ⟨rfl, hz_3⟩ := hr_3
    refine lv_if_ne (tgt := 36) hx hb dX7_whose_27 (by decide) (fun c_4 => ?_) (fun c_4 => ?_)
    · have E := E.trans (if_neg c_4)
      have fc_4 := i_ne c_4
      rw [q_0] at fc_4
      refine lv_bipush (v := (-9)) hx hb dX7_whose_36 (by decide +kernel) ?_
      refine lv_istore (lv' := [(4, .int (-9)), (3, .int ((6 * a1) + a2)), (0, .ref (ad 0)), (1, .int a1), (2, .int a2)]) hx hb dX7_whose_38 hl (by decide) rfl (fun ls hl => ?_)
      refine lv_iconst (v := 0) hx hb dX7_whose_40 (by decide) ?_
      refine lv_istore (lv' := [(5, .int 0), (4, .int (-9)), (3, .int ((6 * a1) + a2)), (0, .ref (ad 0)), (1, .int a1), (2, .int a2)]) hx hb dX7_whose_41 hl (by decide) rfl (fun ls hl => ?_)
      have L_43 : ∀ (n_43 : Nat) (x4_43 : Int32) (x5_43 : Int32) (ls : Array Slot), (0 ≤ x5_43.toInt ∧ x5_43.toInt ≤ 12 ∧ x4_43.toInt = -9 ∨ (0 ≤ x4_43.toInt ∧ x4_43.toInt < 12)) → (12 - x5_43.toInt < (n_43 : Int)) → lv_has ls 6 [(5, .int x5_43), (4, .int x4_43), (3, .int ((6 * a1) + a2)), (0, .ref (ad 0))] → sX7_whose w a1 a2 = sX7_whose_43 w a1 a2 n_43 x4_43 x5_43 → W p l e (headSpec wsX7_whose rmX7_whose).room s m [Value.ref (ad 0), Value.int a1, Value.int a2].toArray below meth c H locs 0 0 (MQ below (va_Qi (fun r u => (r, u) = sX7_whose w a1 a2) (fun u t => va_P D vwCl (RM cI ad u) t.heap) (RA ad)) [Value.ref (ad 0), Value.int a1, Value.int a2].toArray s 0 0 (RA ad)) (F0 m 43 ls []) := by
        intro n_43
        induction n_43 with
        | zero =>
          intro x4_43 x5_43 ls hinv hm
          obtain ⟨v0_43, v1_43, v2_43⟩ := hinv
          exact absurd hm (by omega)
        | succ n_43 ih_43 =>
          intro x4_43 x5_43 ls hinv hm_43 hl E
          obtain ⟨v0_43, v1_43, v2_43⟩ := hinv
          have E := E.trans (sX7_whose_43.eq_2 ..)
          refine lv_iload hx hb dX7_whose_43 (lv_at hl 0 rfl) ?_
          refine lv_aload_n hx hb dX7_whose_45 rfl (lv_at hl 3 rfl) ?_
          refine g7_layers hx hb hts hin hown hK hP (hts (.fieldLink RX7 67 "LoadedForTheLaneModel" "layers" "I") (by decide +kernel)) dX7_whose_46 ?_
          have f_5 := R7I_layers hI
          refine lv_icmp_ge (tgt := 94) hx hb dX7_whose_49 (by decide) (fun c_6 => ?_) (fun c_6 => ?_)
          · have E := E.trans (if_pos c_6)
            have fc_6 := i_le c_6
            refine lv_iload hx hb dX7_whose_94 (lv_at hl 1 rfl) ?_
            exact W.iret (v := x4_43) hx hb hr (fun t ht hW => ⟨⟨_, w, rfl, E.symm, by beta_reduce; rw [ht]; exact hP⟩, hS.F ht⟩) hS.2.2 dX7_whose_96
          · have E := E.trans (if_neg c_6)
            have fc_6 := i_nle c_6
            refine lv_aload_n hx hb dX7_whose_52 rfl (lv_at hl 3 rfl) ?_
            refine lv_iload_n hx hb dX7_whose_53 rfl (lv_at hl 2 rfl) ?_
            refine lv_iload hx hb dX7_whose_54 (lv_at hl 0 rfl) ?_
            have := q_6
            have := i_mull (a := 6) (b := a1) (n := 6) q_6 (by omega) (by omega)
            have := i_add (a := 6 * a1) (b := a2) (by omega) (by omega)
            refine vp_callSi (va_Run.run (va_runV (As := [.int ((6 * a1) + a2), .int x5_43]) (rest := []) ⟨hx, hb, hml, hown, hts⟩ (kX7_spare l D cI ad w ((6 * a1) + a2) x5_43 hI (by omega) (by omega) (by omega) (by omega)) (cwV 2 hts gX7_whose_X7_spare rfl rfl rfl mdX7_spare ⟨Nat.le_of_ble_eq_true rfl, Nat.le_of_ble_eq_true rfl⟩) (r7_pre hK hP) rfl rfl hl.1 rfl (lv_room (Nat.le_of_ble_eq_true rfl)) dX7_whose_56 ⟨Nat.zero_le _, Nat.zero_le _⟩)) (fun r_7 hr_7 => ?_)
            subst hr_7
            refine lv_if_ge (tgt := 88) hx hb dX7_whose_59 (by decide) (fun c_8 => ?_) (fun c_8 => ?_)
            · have E := E.trans (if_pos c_8)
              have fc_8 := i_le c_8
              rw [q_0] at fc_8
              refine lv_iinc (v := x5_43 + 1) (lv' := [(5, .int (x5_43 + 1)), (4, .int x4_43), (3, .int ((6 * a1) + a2)), (0, .ref (ad 0))]) hx hb dX7_whose_88 hl (k := 0) rfl rfl (by decide) rfl (fun ls hl => ?_)
              refine lv_goto (tgt := 43) hx hb dX7_whose_91 (by decide) ?_
              have := q_1
              try have := i_add (a := x5_43) (b := 1) (by omega) (by omega)
              exact ih_43 x4_43 (x5_43 + 1) ls ⟨by omega, by omega, by omega⟩ (by omega) (lv_sub hl [0, 1, 2, 3] rfl) E
            · have E := E.trans (if_neg c_8)
              have fc_8 := i_nle c_8
              rw [q_0] at fc_8
              refine lv_iload hx hb dX7_whose_62 (lv_at hl 1 rfl) ?_
              refine lv_if_lt (tgt := 84) hx hb dX7_whose_64 (by decide) (fun c_9 => ?_) (fun c_9 => ?_)
              · have E := E.trans (if_pos c_9)
                have fc_9 := i_lt c_9
                rw [q_0] at fc_9
                refine lv_iload hx hb dX7_whose_84 (lv_at hl 0 rfl) ?_
                refine lv_istore (lv' := [(4, .int x5_43), (5, .int x5_43), (3, .int ((6 * a1) + a2)), (0, .ref (ad 0))]) hx hb dX7_whose_86 hl (by decide) rfl (fun ls hl => ?_)
                refine lv_iinc (v := x5_43 + 1) (lv' := [(5, .int (x5_43 + 1)), (4, .int x5_43), (3, .int ((6 * a1) + a2)), (0, .ref (ad 0))]) hx hb dX7_whose_88 hl (k := 1) rfl rfl (by decide) rfl (fun ls hl => ?_)
                refine lv_goto (tgt := 43) hx hb dX7_whose_91 (by decide) ?_
                have := q_1
                try have := i_add (a := x5_43) (b := 1) (by omega) (by omega)
                exact ih_43 x5_43 (x5_43 + 1) ls ⟨by omega, by omega, by omega⟩ (by omega) (lv_sub hl [0, 1, 2, 3] rfl) E
              · have E := E.trans (if_neg c_9)
                have fc_9 := i_nlt c_9
                rw [q_0] at fc_9
                refine lv_aload_n hx hb dX7_whose_67 rfl (lv_at hl 3 rfl) ?_
                refine lv_iload_n hx hb dX7_whose_68 rfl (lv_at hl 2 rfl) ?_
                refine lv_iload hx hb dX7_whose_69 (lv_at hl 0 rfl) ?_
                have := q_6
                have := i_mull (a := 6) (b := a1) (n := 6) q_6 (by omega) (by omega)
                have := i_add (a := 6 * a1) (b := a2) (by omega) (by omega)
                refine vp_callSi (va_Run.run (va_runV (As := [.int ((6 * a1) + a2), .int x5_43]) (rest := []) ⟨hx, hb, hml, hown, hts⟩ (kX7_spare l D cI ad w ((6 * a1) + a2) x5_43 hI (by omega) (by omega) (by omega) (by omega)) (cwV 2 hts gX7_whose_X7_spare rfl rfl rfl mdX7_spare ⟨Nat.le_of_ble_eq_true rfl, Nat.le_of_ble_eq_true rfl⟩) (r7_pre hK hP) rfl rfl hl.1 rfl (lv_room (Nat.le_of_ble_eq_true rfl)) dX7_whose_71 ⟨Nat.zero_le _, Nat.zero_le _⟩)) (fun r_10 hr_10 => ?_)
                subst hr_10
                refine lv_aload_n hx hb dX7_whose_74 rfl (lv_at hl 3 rfl) ?_
                refine lv_iload_n hx hb dX7_whose_75 rfl (lv_at hl 2 rfl) ?_
                refine lv_iload hx hb dX7_whose_76 (lv_at hl 1 rfl) ?_
                have := q_6
                have := i_mull (a := 6) (b := a1) (n := 6) q_6 (by omega) (by omega)
                have := i_add (a := 6 * a1) (b := a2) (by omega) (by omega)
                refine vp_callSi (va_Run.run (va_runV (As := [.int ((6 * a1) + a2), .int x4_43]) (rest := [.int (sX7_spare w ((6 * a1) + a2) x5_43)]) ⟨hx, hb, hml, hown, hts⟩ (kX7_spare l D cI ad w ((6 * a1) + a2) x4_43 hI (by omega) (by omega) (by omega) (by omega)) (cwV 2 hts gX7_whose_X7_spare rfl rfl rfl mdX7_spare ⟨Nat.le_of_ble_eq_true rfl, Nat.le_of_ble_eq_true rfl⟩) (r7_pre hK hP) rfl rfl hl.1 rfl (lv_room (Nat.le_of_ble_eq_true rfl)) dX7_whose_78 ⟨Nat.zero_le _, Nat.zero_le _⟩)) (fun r_11 hr_11 => ?_)
                subst hr_11
                refine lv_icmp_le (tgt := 88) hx hb dX7_whose_81 (by decide) (fun c_12 => ?_) (fun c_12 => ?_)
                · have E := E.trans (if_pos c_12)
                  have fc_12 := i_le c_12
                  refine lv_iinc (v := x5_43 + 1) (lv' := [(5, .int (x5_43 + 1)), (4, .int x4_43), (3, .int ((6 * a1) + a2)), (0, .ref (ad 0))]) hx hb dX7_whose_88 hl (k := 0) rfl rfl (by decide) rfl (fun ls hl => ?_)
                  refine lv_goto (tgt := 43) hx hb dX7_whose_91 (by decide) ?_
                  have := q_1
                  try have := i_add (a := x5_43) (b := 1) (by omega) (by omega)
                  exact ih_43 x4_43 (x5_43 + 1) ls ⟨by omega, by omega, by omega⟩ (by omega) (lv_sub hl [0, 1, 2, 3] rfl) E
                · have E := E.trans (if_neg c_12)
                  have fc_12 := i_nle c_12
                  refine lv_iload hx hb dX7_whose_84 (lv_at hl 0 rfl) ?_
                  refine lv_istore (lv' := [(4, .int x5_43), (5, .int x5_43), (3, .int ((6 * a1) + a2)), (0, .ref (ad 0))]) hx hb dX7_whose_86 hl (by decide) rfl (fun ls hl => ?_)
                  refine lv_iinc (v := x5_43 + 1) (lv' := [(5, .int (x5_43 + 1)), (4, .int x5_43), (3, .int ((6 * a1) + a2)), (0, .ref (ad 0))]) hx hb dX7_whose_88 hl (k := 1) rfl rfl (by decide) rfl (fun ls hl => ?_)
                  refine lv_goto (tgt := 43) hx hb dX7_whose_91 (by decide) ?_
                  have := q_1
                  try have := i_add (a := x5_43) (b := 1) (by omega) (by omega)
                  exact ih_43 x5_43 (x5_43 + 1) ls ⟨by omega, by omega, by omega⟩ (by omega) (lv_sub hl [0, 1, 2, 3] rfl) E
      have := q_m9
      have := q_0
      exact L_43 13 ((-9)) 0 ls ⟨by omega, by omega, by omega⟩ (by omega) (lv_sub hl [0, 1, 2, 3] rfl) E
    · have E := E.trans (if_pos c_4)
      have fc_4 := i_eq c_4
      rw [q_0] at fc_4
      refine lv_aload_n hx hb dX7_whose_30 rfl (lv_at hl 1 rfl) ?_
      refine lv_iload_n hx hb dX7_whose_31 rfl (lv_at hl 0 rfl) ?_
      have := q_6
      have := i_mull (a := 6) (b := a1) (n := 6) q_6 (by omega) (by omega)
      have := i_add (a := 6 * a1) (b := a2) (by omega) (by omega)
      refine vp_callSi (va_Run.run (va_runV (As := [.int ((6 * a1) + a2)]) (rest := []) ⟨hx, hb, hml, hown, hts⟩ (kX7_caught l D cI ad w ((6 * a1) + a2) hI (by omega) (by omega)) (cwV 1 hts gX7_whose_X7_caught rfl rfl rfl mdX7_caught ⟨Nat.le_of_ble_eq_true rfl, Nat.le_of_ble_eq_true rfl⟩) (r7_pre hK hP) rfl rfl hl.1 rfl (lv_room (Nat.le_of_ble_eq_true rfl)) dX7_whose_32 ⟨Nat.zero_le _, Nat.zero_le _⟩)) (fun r_13 hr_13 => ?_)
      subst hr_13
      exact W.iret (v := (sX7_caught w ((6 * a1) + a2))) hx hb hr (fun t ht hW => ⟨⟨_, w, rfl, E.symm, by beta_reduce; rw [ht]; exact hP⟩, hS.F ht⟩) hS.2.2 dX7_whose_35
  · have E := E.trans (if_pos c_2)
    have fc_2 := i_eq c_2
    rw [q_0] at fc_2
    refine lv_aload_n hx hb dX7_whose_9 rfl (lv_at hl 0 rfl) ?_
    refine lv_iconst (v := (-1)) hx hb dX7_whose_10 (by decide) ?_
    have := q_m1
    refine va_calli (va_runV (As := [.int (-1)]) (rest := []) ⟨hx, hb, hml, hown, hts⟩ (kX7_no l D cI ad w (-1) hd hI (by omega) (by omega)) (cwV 1 hts gX7_whose_X7_no rfl rfl rfl mdX7_no ⟨Nat.le_of_ble_eq_true rfl, Nat.le_of_ble_eq_true rfl⟩) (r7_pre hK hP) rfl rfl hl.1 rfl (lv_room (Nat.le_of_ble_eq_true rfl)) dX7_whose_11 ⟨Nat.zero_le _, Nat.zero_le _⟩) hS (fun _ _ h => h) (fun _ h => h) (fun rn_14 wn_14 t H locs ht hvm hp_14 hB hz hk hS => ?_)
    have hP : va_P D vwCl (RM cI ad wn_14) H := ht ▸ hB
    obtain ⟨hp_14, hI_14⟩ := hp_14
    have E := bnd_e E hp_14
    exact W.iret (v := rn_14) hx hb hr (fun t ht hW => ⟨⟨_, wn_14, rfl, E.symm, by beta_reduce; rw [ht]; exact hP⟩, hS.F ht⟩) hS.2.2 dX7_whose_14
abbrev rmX7_boundBy : Room := { frames := 1, cells := 0, slots := 0, locals := 23 }
set_option maxHeartbeats 4000000 in
set_option maxRecDepth 100000 in
theorem kX7_boundBy (l : Launch) (D : va_G) (cI : ClassId) (ad : Nat → Nat) (w : Nat → Nat → Int32) (a1 : Int32) (a2 : Int32) (hd : RD ad) (hI : R7I w)  : Met l yX7_boundBy wsX7_boundBy rmX7_boundBy (va_Pc [Value.ref (ad 0), Value.int a1, Value.int a2] (fun U => va_P D vwCl (RM cI ad w) U.heap ∧ va_K D vwCl [(cI, .int)] U)) (va_Qi (fun r u => (r, u) = sX7_boundBy w a1 a2) (fun u t => va_P D vwCl (RM cI ad u) t.heap) (RA ad)) 0 0 (RA ad) := by
  refine Met.ofW (cc := cX7_boundBy) (maxL := 6) (ret := (some .int)) (by decide) rfl ?_
  intro p e s m args below meth c s₁ B hml hv
  obtain ⟨rfl, hP, hK⟩ := hv
  have hx := B.exec
  have hb := B.bytes
  have hr := B.returns
  have hts := atoms_spec (ws := wsX7_boundBy) B.pre
  have hown : s.vm.findClass RX7 = some m.cls := findClass_of_methodNamed B.named
  have hlocks := B.notSynchronized
  have hin : ∀ q ∈ wsX70, q ∈ wsX7_boundBy := by decide +kernel
  have hl := lv_entry ([.ref (ad 0), .int a1, .int a2]) (n := 6) (Nat.le_of_ble_eq_true rfl)
  rw [lg_entry_eq]
  generalize (lg_sl ([.ref (ad 0), .int a1, .int a2]) ++ List.replicate (6 - (lg_sl ([.ref (ad 0), .int a1, .int a2])).length) Slot.unset).toArray = ls at hl ⊢
  have hl : lv_has ls 6 [(0, .ref (ad 0)), (1, .int a1), (2, .int a2)] := hl
  suffices hgo : ∀ (H : Heap) (locs : List Loc), va_P D vwCl (RM cI ad w) H → va_S (RA ad) s.heap H locs → W p l e (headSpec wsX7_boundBy rmX7_boundBy).room s m [Value.ref (ad 0), Value.int a1, Value.int a2].toArray below meth c H locs 0 0 (MQ below (va_Qi (fun r u => (r, u) = sX7_boundBy w a1 a2) (fun u t => va_P D vwCl (RM cI ad u) t.heap) (RA ad)) [Value.ref (ad 0), Value.int a1, Value.int a2].toArray s 0 0 (RA ad)) (F0 m 0 ls []) from hgo s.heap [] hP va_S.rf
  intro H locs hP hS
  have E := sX7_boundBy.eq_1 w a1 a2
  refine lv_iload_n hx hb dX7_boundBy_0 rfl (lv_at hl 1 rfl) ?_
  refine lv_iconst (v := 0) hx hb dX7_boundBy_1 (by decide) ?_
  refine lv_sipush (v := 999) hx hb dX7_boundBy_2 (by decide +kernel) ?_
  refine vp_callSi (va_Run.run (va_runS (As := [.int a1, .int 0, .int 999]) (rest := []) ⟨hx, hb, hml, hown, hts⟩ (kX7_bound l a1 0 999) (va_cwS 3 hts gX7_boundBy_X7_bound rfl rfl rfl mdX7_bound ⟨Nat.le_of_ble_eq_true rfl, Nat.le_of_ble_eq_true rfl⟩) s_pre rfl rfl hl.1 rfl (lv_room (Nat.le_of_ble_eq_true rfl)) dX7_boundBy_5 ⟨Nat.zero_le _, Nat.zero_le _⟩)) (fun r_1 hr_1 => ?_)
  subst hr_1
  have rf_1 := rX7_bound a1 0 999
  have := q_0
  have := q_999
  refine lv_istore_n (lv' := [(3, .int (sX7_bound a1 0 999)), (0, .ref (ad 0)), (1, .int a1), (2, .int a2)]) hx hb dX7_boundBy_8 rfl hl (by decide) rfl (fun ls hl => ?_)
  refine lv_iload_n hx hb dX7_boundBy_9 rfl (lv_at hl 0 rfl) ?_
  refine lv_if_ne (tgt := 41) hx hb dX7_boundBy_10 (by decide) (fun c_2 => ?_) (fun c_2 => ?_)
  · have E := E.trans (if_neg c_2)
    have fc_2 := i_ne c_2
    rw [q_0] at fc_2
    refine lv_iload_n hx hb dX7_boundBy_41 rfl (lv_at hl 0 rfl) ?_
    refine lv_if_eq (tgt := 51) hx hb dX7_boundBy_42 (by decide) (fun c_3 => ?_) (fun c_3 => ?_)
    · have E := E.trans (if_pos c_3)
      have fc_3 := i_eq c_3
      rw [q_0] at fc_3
      refine lv_bipush (v := (-9)) hx hb dX7_boundBy_51 (by decide +kernel) ?_
      refine lv_istore (lv' := [(4, .int (-9)), (3, .int (sX7_bound a1 0 999)), (0, .ref (ad 0)), (1, .int a1), (2, .int a2)]) hx hb dX7_boundBy_53 hl (by decide) rfl (fun ls hl => ?_)
      refine lv_iconst (v := 0) hx hb dX7_boundBy_55 (by decide) ?_
      refine lv_istore (lv' := [(5, .int 0), (4, .int (-9)), (3, .int (sX7_bound a1 0 999)), (0, .ref (ad 0)), (1, .int a1), (2, .int a2)]) hx hb dX7_boundBy_56 hl (by decide) rfl (fun ls hl => ?_)
      have L_58 : ∀ (n_58 : Nat) (x4_58 : Int32) (x5_58 : Int32) (ls : Array Slot), (0 ≤ x5_58.toInt ∧ x5_58.toInt ≤ 21) → (21 - x5_58.toInt < (n_58 : Int)) → lv_has ls 6 [(5, .int x5_58), (4, .int x4_58), (0, .ref (ad 0)), (1, .int a1), (2, .int a2)] → sX7_boundBy w a1 a2 = sX7_boundBy_58 w a1 a2 n_58 x4_58 x5_58 → W p l e (headSpec wsX7_boundBy rmX7_boundBy).room s m [Value.ref (ad 0), Value.int a1, Value.int a2].toArray below meth c H locs 0 0 (MQ below (va_Qi (fun r u => (r, u) = sX7_boundBy w a1 a2) (fun u t => va_P D vwCl (RM cI ad u) t.heap) (RA ad)) [Value.ref (ad 0), Value.int a1, Value.int a2].toArray s 0 0 (RA ad)) (F0 m 58 ls []) := by
        intro n_58
        induction n_58 with
        | zero =>
          intro x4_58 x5_58 ls hinv hm
          obtain ⟨v0_58, v1_58⟩ := hinv
          exact absurd hm (by omega)
        | succ n_58 ih_58 =>
          intro x4_58 x5_58 ls hinv hm_58 hl E
          obtain ⟨v0_58, v1_58⟩ := hinv
          have E := E.trans (sX7_boundBy_58.eq_2 ..)
          refine lv_iload hx hb dX7_boundBy_58 (lv_at hl 0 rfl) ?_
          refine lv_bipush (v := 21) hx hb dX7_boundBy_60 (by decide +kernel) ?_
          refine lv_icmp_ge (tgt := 95) hx hb dX7_boundBy_62 (by decide) (fun c_4 => ?_) (fun c_4 => ?_)
          · have E := E.trans (if_pos c_4)
            have fc_4 := i_le c_4
            rw [q_21] at fc_4
            refine lv_iload hx hb dX7_boundBy_95 (lv_at hl 1 rfl) ?_
            exact W.iret (v := x4_58) hx hb hr (fun t ht hW => ⟨⟨_, w, rfl, E.symm, by beta_reduce; rw [ht]; exact hP⟩, hS.F ht⟩) hS.2.2 dX7_boundBy_97
          · have E := E.trans (if_neg c_4)
            have fc_4 := i_nle c_4
            rw [q_21] at fc_4
            refine lv_aload_n hx hb dX7_boundBy_65 rfl (lv_at hl 2 rfl) ?_
            refine lv_iload hx hb dX7_boundBy_66 (lv_at hl 0 rfl) ?_
            refine lv_iload_n hx hb dX7_boundBy_68 rfl (lv_at hl 3 rfl) ?_
            refine vp_callSi (va_Run.run (va_runV (As := [.int x5_58, .int a1]) (rest := []) ⟨hx, hb, hml, hown, hts⟩ (kX7_isBoundBy l D cI ad w x5_58 a1 hI (by omega)) (cwV 2 hts gX7_boundBy_X7_isBoundBy rfl rfl rfl mdX7_isBoundBy ⟨Nat.le_of_ble_eq_true rfl, Nat.le_of_ble_eq_true rfl⟩) (r7_pre hK hP) rfl rfl hl.1 rfl (lv_room (Nat.le_of_ble_eq_true rfl)) dX7_boundBy_69 ⟨Nat.zero_le _, Nat.zero_le _⟩)) (fun r_5 hr_5 => ?_)
            obtain ⟨rfl, hz_5⟩ := hr_5
            refine lv_if_eq (tgt := 89) hx hb dX7_boundBy_72 (by decide) (fun c_6 => ?_) (fun c_6 => ?_)
            · have E := E.trans (if_pos c_6)
              have fc_6 := i_eq c_6
              rw [q_0] at fc_6
              refine lv_iinc (v := x5_58 + 1) (lv' := [(5, .int (x5_58 + 1)), (4, .int x4_58), (0, .ref (ad 0)), (1, .int a1), (2, .int a2)]) hx hb dX7_boundBy_89 hl (k := 0) rfl rfl (by decide) rfl (fun ls hl => ?_)
              refine lv_goto (tgt := 58) hx hb dX7_boundBy_92 (by decide) ?_
              have := q_1
              try have := i_add (a := x5_58) (b := 1) (by omega) (by omega)
              exact ih_58 x4_58 (x5_58 + 1) ls ⟨by omega, by omega⟩ (by omega) (lv_sub hl [0, 1, 2, 3, 4] rfl) E
            · have E := E.trans (if_neg c_6)
              have fc_6 := i_ne c_6
              rw [q_0] at fc_6
              refine lv_iload_n hx hb dX7_boundBy_75 rfl (lv_at hl 4 rfl) ?_
              refine lv_iconst (v := 1) hx hb dX7_boundBy_76 (by decide) ?_
              refine lv_icmp_eq (tgt := 85) hx hb dX7_boundBy_77 (by decide) (fun c_7 => ?_) (fun c_7 => ?_)
              · have E := E.trans (if_pos c_7)
                have fc_7 := i_eq c_7
                rw [q_1] at fc_7
                refine lv_iload hx hb dX7_boundBy_85 (lv_at hl 0 rfl) ?_
                refine lv_istore (lv' := [(4, .int x5_58), (5, .int x5_58), (0, .ref (ad 0)), (1, .int a1), (2, .int a2)]) hx hb dX7_boundBy_87 hl (by decide) rfl (fun ls hl => ?_)
                refine lv_iinc (v := x5_58 + 1) (lv' := [(5, .int (x5_58 + 1)), (4, .int x5_58), (0, .ref (ad 0)), (1, .int a1), (2, .int a2)]) hx hb dX7_boundBy_89 hl (k := 1) rfl rfl (by decide) rfl (fun ls hl => ?_)
                refine lv_goto (tgt := 58) hx hb dX7_boundBy_92 (by decide) ?_
                have := q_1
                try have := i_add (a := x5_58) (b := 1) (by omega) (by omega)
                exact ih_58 x5_58 (x5_58 + 1) ls ⟨by omega, by omega⟩ (by omega) (lv_sub hl [0, 1, 2, 3, 4] rfl) E
              · have E := E.trans (if_neg c_7)
                have fc_7 := i_ne c_7
                rw [q_1] at fc_7
                refine lv_iload hx hb dX7_boundBy_80 (lv_at hl 1 rfl) ?_
                refine lv_if_ge (tgt := 89) hx hb dX7_boundBy_82 (by decide) (fun c_8 => ?_) (fun c_8 => ?_)
                · have E := E.trans (if_pos c_8)
                  have fc_8 := i_le c_8
                  rw [q_0] at fc_8
                  refine lv_iinc (v := x5_58 + 1) (lv' := [(5, .int (x5_58 + 1)), (4, .int x4_58), (0, .ref (ad 0)), (1, .int a1), (2, .int a2)]) hx hb dX7_boundBy_89 hl (k := 0) rfl rfl (by decide) rfl (fun ls hl => ?_)
                  refine lv_goto (tgt := 58) hx hb dX7_boundBy_92 (by decide) ?_
                  have := q_1
                  try have := i_add (a := x5_58) (b := 1) (by omega) (by omega)
                  exact ih_58 x4_58 (x5_58 + 1) ls ⟨by omega, by omega⟩ (by omega) (lv_sub hl [0, 1, 2, 3, 4] rfl) E
                · have E := E.trans (if_neg c_8)
                  have fc_8 := i_nle c_8
                  rw [q_0] at fc_8
                  refine lv_iload hx hb dX7_boundBy_85 (lv_at hl 0 rfl) ?_
                  refine lv_istore (lv' := [(4, .int x5_58), (5, .int x5_58), (0, .ref (ad 0)), (1, .int a1), (2, .int a2)]) hx hb dX7_boundBy_87 hl (by decide) rfl (fun ls hl => ?_)
                  refine lv_iinc (v := x5_58 + 1) (lv' := [(5, .int (x5_58 + 1)), (4, .int x5_58), (0, .ref (ad 0)), (1, .int a1), (2, .int a2)]) hx hb dX7_boundBy_89 hl (k := 1) rfl rfl (by decide) rfl (fun ls hl => ?_)
                  refine lv_goto (tgt := 58) hx hb dX7_boundBy_92 (by decide) ?_
                  have := q_1
                  try have := i_add (a := x5_58) (b := 1) (by omega) (by omega)
                  exact ih_58 x5_58 (x5_58 + 1) ls ⟨by omega, by omega⟩ (by omega) (lv_sub hl [0, 1, 2, 3, 4] rfl) E
      have := q_m9
      have := q_0
      exact L_58 22 ((-9)) 0 ls ⟨by omega, by omega⟩ (by omega) (lv_sub hl [0, 1, 3, 4, 5] rfl) E
    · have E := E.trans (if_neg c_3)
      have fc_3 := i_ne c_3
      rw [q_0] at fc_3
      refine lv_aload_n hx hb dX7_boundBy_45 rfl (lv_at hl 1 rfl) ?_
      refine lv_iload_n hx hb dX7_boundBy_46 rfl (lv_at hl 0 rfl) ?_
      refine va_calli (va_runV (As := [.int (sX7_bound a1 0 999)]) (rest := []) ⟨hx, hb, hml, hown, hts⟩ (kX7_no l D cI ad w (sX7_bound a1 0 999) hd hI (by omega) (by omega)) (cwV 1 hts gX7_boundBy_X7_no rfl rfl rfl mdX7_no ⟨Nat.le_of_ble_eq_true rfl, Nat.le_of_ble_eq_true rfl⟩) (r7_pre hK hP) rfl rfl hl.1 rfl (lv_room (Nat.le_of_ble_eq_true rfl)) dX7_boundBy_47 ⟨Nat.zero_le _, Nat.zero_le _⟩) hS (fun _ _ h => h) (fun _ h => h) (fun rn_9 wn_9 t H locs ht hvm hp_9 hB hz hk hS => ?_)
      have hP : va_P D vwCl (RM cI ad wn_9) H := ht ▸ hB
      obtain ⟨hp_9, hI_9⟩ := hp_9
      have E := bnd_e E hp_9
      exact W.iret (v := rn_9) hx hb hr (fun t ht hW => ⟨⟨_, wn_9, rfl, E.symm, by beta_reduce; rw [ht]; exact hP⟩, hS.F ht⟩) hS.2.2 dX7_boundBy_50
  · have E := E.trans (if_pos c_2)
    have fc_2 := i_eq c_2
    rw [q_0] at fc_2
    refine lv_iload_n hx hb dX7_boundBy_13 rfl (lv_at hl 3 rfl) ?_
    refine lv_iconst (v := 0) hx hb dX7_boundBy_14 (by decide) ?_
    refine lv_iconst (v := 1) hx hb dX7_boundBy_15 (by decide) ?_
    refine vp_callSi (va_Run.run (va_runS (As := [.int a2, .int 0, .int 1]) (rest := []) ⟨hx, hb, hml, hown, hts⟩ (kX7_isIn l a2 0 1) (va_cwS 3 hts gX7_boundBy_X7_isIn rfl rfl rfl mdX7_isIn ⟨Nat.le_of_ble_eq_true rfl, Nat.le_of_ble_eq_true rfl⟩) s_pre rfl rfl hl.1 rfl (lv_room (Nat.le_of_ble_eq_true rfl)) dX7_boundBy_16 ⟨Nat.zero_le _, Nat.zero_le _⟩)) (fun r_10 hr_10 => ?_)
    obtain ⟨rfl, hz_10⟩ := hr_10
    refine lv_if_ne (tgt := 27) hx hb dX7_boundBy_19 (by decide) (fun c_11 => ?_) (fun c_11 => ?_)
    · have E := E.trans (if_neg c_11)
      have fc_11 := i_ne c_11
      rw [q_0] at fc_11
      have gc_11 := fX7_isIn c_11
      have := q_0
      have := q_1
      refine lv_aload_n hx hb dX7_boundBy_27 rfl (lv_at hl 1 rfl) ?_
      refine vp_callSi (va_Run.run (va_runV (As := []) (rest := []) ⟨hx, hb, hml, hown, hts⟩ (kX7_areTwos l D cI ad w hI) (cwV 0 hts gX7_boundBy_X7_areTwos rfl rfl rfl mdX7_areTwos ⟨Nat.le_of_ble_eq_true rfl, Nat.le_of_ble_eq_true rfl⟩) (r7_pre hK hP) rfl rfl hl.1 rfl (lv_room (Nat.le_of_ble_eq_true rfl)) dX7_boundBy_28 ⟨Nat.zero_le _, Nat.zero_le _⟩)) (fun r_12 hr_12 => ?_)
      obtain ⟨rfl, hz_12⟩ := hr_12
      refine lv_if_ne (tgt := 39) hx hb dX7_boundBy_31 (by decide) (fun c_13 => ?_) (fun c_13 => ?_)
      · have E := E.trans (if_neg c_13)
        have fc_13 := i_ne c_13
        rw [q_0] at fc_13
        have gc_13 := fX7_areTwos c_13
        refine lv_iconst (v := 0) hx hb dX7_boundBy_39 (by decide) ?_
        refine lv_istore_n (lv' := [(3, .int 0), (0, .ref (ad 0)), (1, .int a1), (2, .int a2)]) hx hb dX7_boundBy_40 rfl hl (by decide) rfl (fun ls hl => ?_)
        refine lv_iload_n hx hb dX7_boundBy_41 rfl (lv_at hl 0 rfl) ?_
        refine lv_if_eq (tgt := 51) hx hb dX7_boundBy_42 (by decide) (fun _ => ?_) (fun z => absurd z (by decide))
        refine lv_bipush (v := (-9)) hx hb dX7_boundBy_51 (by decide +kernel) ?_
        refine lv_istore (lv' := [(4, .int (-9)), (3, .int 0), (0, .ref (ad 0)), (1, .int a1), (2, .int a2)]) hx hb dX7_boundBy_53 hl (by decide) rfl (fun ls hl => ?_)
        refine lv_iconst (v := 0) hx hb dX7_boundBy_55 (by decide) ?_
        refine lv_istore (lv' := [(5, .int 0), (4, .int (-9)), (3, .int 0), (0, .ref (ad 0)), (1, .int a1), (2, .int a2)]) hx hb dX7_boundBy_56 hl (by decide) rfl (fun ls hl => ?_)
        have L_58 : ∀ (n_58 : Nat) (x4_58 : Int32) (x5_58 : Int32) (ls : Array Slot), (0 ≤ x5_58.toInt ∧ x5_58.toInt ≤ 21) → (21 - x5_58.toInt < (n_58 : Int)) → lv_has ls 6 [(5, .int x5_58), (4, .int x4_58), (0, .ref (ad 0)), (1, .int a1), (2, .int a2)] → sX7_boundBy w a1 a2 = sX7_boundBy_58 w a1 a2 n_58 x4_58 x5_58 → W p l e (headSpec wsX7_boundBy rmX7_boundBy).room s m [Value.ref (ad 0), Value.int a1, Value.int a2].toArray below meth c H locs 0 0 (MQ below (va_Qi (fun r u => (r, u) = sX7_boundBy w a1 a2) (fun u t => va_P D vwCl (RM cI ad u) t.heap) (RA ad)) [Value.ref (ad 0), Value.int a1, Value.int a2].toArray s 0 0 (RA ad)) (F0 m 58 ls []) := by
          intro n_58
          induction n_58 with
          | zero =>
            intro x4_58 x5_58 ls hinv hm
            obtain ⟨v0_58, v1_58⟩ := hinv
            exact absurd hm (by omega)
          | succ n_58 ih_58 =>
            intro x4_58 x5_58 ls hinv hm_58 hl E
            obtain ⟨v0_58, v1_58⟩ := hinv
            have E := E.trans (sX7_boundBy_58.eq_2 ..)
            refine lv_iload hx hb dX7_boundBy_58 (lv_at hl 0 rfl) ?_
            refine lv_bipush (v := 21) hx hb dX7_boundBy_60 (by decide +kernel) ?_
            refine lv_icmp_ge (tgt := 95) hx hb dX7_boundBy_62 (by decide) (fun c_14 => ?_) (fun c_14 => ?_)
            · have E := E.trans (if_pos c_14)
              have fc_14 := i_le c_14
              rw [q_21] at fc_14
              refine lv_iload hx hb dX7_boundBy_95 (lv_at hl 1 rfl) ?_
              exact W.iret (v := x4_58) hx hb hr (fun t ht hW => ⟨⟨_, w, rfl, E.symm, by beta_reduce; rw [ht]; exact hP⟩, hS.F ht⟩) hS.2.2 dX7_boundBy_97
            · have E := E.trans (if_neg c_14)
              have fc_14 := i_nle c_14
              rw [q_21] at fc_14
              refine lv_aload_n hx hb dX7_boundBy_65 rfl (lv_at hl 2 rfl) ?_
              refine lv_iload hx hb dX7_boundBy_66 (lv_at hl 0 rfl) ?_
              refine lv_iload_n hx hb dX7_boundBy_68 rfl (lv_at hl 3 rfl) ?_
              refine vp_callSi (va_Run.run (va_runV (As := [.int x5_58, .int a1]) (rest := []) ⟨hx, hb, hml, hown, hts⟩ (kX7_isBoundBy l D cI ad w x5_58 a1 hI (by omega)) (cwV 2 hts gX7_boundBy_X7_isBoundBy rfl rfl rfl mdX7_isBoundBy ⟨Nat.le_of_ble_eq_true rfl, Nat.le_of_ble_eq_true rfl⟩) (r7_pre hK hP) rfl rfl hl.1 rfl (lv_room (Nat.le_of_ble_eq_true rfl)) dX7_boundBy_69 ⟨Nat.zero_le _, Nat.zero_le _⟩)) (fun r_15 hr_15 => ?_)
              obtain ⟨rfl, hz_15⟩ := hr_15
              refine lv_if_eq (tgt := 89) hx hb dX7_boundBy_72 (by decide) (fun c_16 => ?_) (fun c_16 => ?_)
              · have E := E.trans (if_pos c_16)
                have fc_16 := i_eq c_16
                rw [q_0] at fc_16
                refine lv_iinc (v := x5_58 + 1) (lv' := [(5, .int (x5_58 + 1)), (4, .int x4_58), (0, .ref (ad 0)), (1, .int a1), (2, .int a2)]) hx hb dX7_boundBy_89 hl (k := 0) rfl rfl (by decide) rfl (fun ls hl => ?_)
                refine lv_goto (tgt := 58) hx hb dX7_boundBy_92 (by decide) ?_
                have := q_1
                try have := i_add (a := x5_58) (b := 1) (by omega) (by omega)
                exact ih_58 x4_58 (x5_58 + 1) ls ⟨by omega, by omega⟩ (by omega) (lv_sub hl [0, 1, 2, 3, 4] rfl) E
              · have E := E.trans (if_neg c_16)
                have fc_16 := i_ne c_16
                rw [q_0] at fc_16
                refine lv_iload_n hx hb dX7_boundBy_75 rfl (lv_at hl 4 rfl) ?_
                refine lv_iconst (v := 1) hx hb dX7_boundBy_76 (by decide) ?_
                refine lv_icmp_eq (tgt := 85) hx hb dX7_boundBy_77 (by decide) (fun c_17 => ?_) (fun c_17 => ?_)
                · have E := E.trans (if_pos c_17)
                  have fc_17 := i_eq c_17
                  rw [q_1] at fc_17
                  refine lv_iload hx hb dX7_boundBy_85 (lv_at hl 0 rfl) ?_
                  refine lv_istore (lv' := [(4, .int x5_58), (5, .int x5_58), (0, .ref (ad 0)), (1, .int a1), (2, .int a2)]) hx hb dX7_boundBy_87 hl (by decide) rfl (fun ls hl => ?_)
                  refine lv_iinc (v := x5_58 + 1) (lv' := [(5, .int (x5_58 + 1)), (4, .int x5_58), (0, .ref (ad 0)), (1, .int a1), (2, .int a2)]) hx hb dX7_boundBy_89 hl (k := 1) rfl rfl (by decide) rfl (fun ls hl => ?_)
                  refine lv_goto (tgt := 58) hx hb dX7_boundBy_92 (by decide) ?_
                  have := q_1
                  try have := i_add (a := x5_58) (b := 1) (by omega) (by omega)
                  exact ih_58 x5_58 (x5_58 + 1) ls ⟨by omega, by omega⟩ (by omega) (lv_sub hl [0, 1, 2, 3, 4] rfl) E
                · have E := E.trans (if_neg c_17)
                  have fc_17 := i_ne c_17
                  rw [q_1] at fc_17
                  refine lv_iload hx hb dX7_boundBy_80 (lv_at hl 1 rfl) ?_
                  refine lv_if_ge (tgt := 89) hx hb dX7_boundBy_82 (by decide) (fun c_18 => ?_) (fun c_18 => ?_)
                  · have E := E.trans (if_pos c_18)
                    have fc_18 := i_le c_18
                    rw [q_0] at fc_18
                    refine lv_iinc (v := x5_58 + 1) (lv' := [(5, .int (x5_58 + 1)), (4, .int x4_58), (0, .ref (ad 0)), (1, .int a1), (2, .int a2)]) hx hb dX7_boundBy_89 hl (k := 0) rfl rfl (by decide) rfl (fun ls hl => ?_)
                    refine lv_goto (tgt := 58) hx hb dX7_boundBy_92 (by decide) ?_
                    have := q_1
                    try have := i_add (a := x5_58) (b := 1) (by omega) (by omega)
                    exact ih_58 x4_58 (x5_58 + 1) ls ⟨by omega, by omega⟩ (by omega) (lv_sub hl [0, 1, 2, 3, 4] rfl) E
                  · have E := E.trans (if_neg c_18)
                    have fc_18 := i_nle c_18
                    rw [q_0] at fc_18
                    refine lv_iload hx hb dX7_boundBy_85 (lv_at hl 0 rfl) ?_
                    refine lv_istore (lv' := [(4, .int x5_58), (5, .int x5_58), (0, .ref (ad 0)), (1, .int a1), (2, .int a2)]) hx hb dX7_boundBy_87 hl (by decide) rfl (fun ls hl => ?_)
                    refine lv_iinc (v := x5_58 + 1) (lv' := [(5, .int (x5_58 + 1)), (4, .int x5_58), (0, .ref (ad 0)), (1, .int a1), (2, .int a2)]) hx hb dX7_boundBy_89 hl (k := 1) rfl rfl (by decide) rfl (fun ls hl => ?_)
                    refine lv_goto (tgt := 58) hx hb dX7_boundBy_92 (by decide) ?_
                    have := q_1
                    try have := i_add (a := x5_58) (b := 1) (by omega) (by omega)
                    exact ih_58 x5_58 (x5_58 + 1) ls ⟨by omega, by omega⟩ (by omega) (lv_sub hl [0, 1, 2, 3, 4] rfl) E
        have := q_m9
        have := q_0
        exact L_58 22 ((-9)) 0 ls ⟨by omega, by omega⟩ (by omega) (lv_sub hl [0, 1, 3, 4, 5] rfl) E
      · have E := E.trans (if_pos c_13)
        have fc_13 := i_eq c_13
        rw [q_0] at fc_13
        refine lv_bipush (v := (-3)) hx hb dX7_boundBy_34 (by decide +kernel) ?_
        refine lv_goto (tgt := 40) hx hb dX7_boundBy_36 (by decide) ?_
        refine lv_istore_n (lv' := [(3, .int (-3)), (0, .ref (ad 0)), (1, .int a1), (2, .int a2)]) hx hb dX7_boundBy_40 rfl hl (by decide) rfl (fun ls hl => ?_)
        refine lv_iload_n hx hb dX7_boundBy_41 rfl (lv_at hl 0 rfl) ?_
        refine lv_if_eq (tgt := 51) hx hb dX7_boundBy_42 (by decide) (fun z => absurd z (by decide)) (fun _ => ?_)
        refine lv_aload_n hx hb dX7_boundBy_45 rfl (lv_at hl 1 rfl) ?_
        refine lv_iload_n hx hb dX7_boundBy_46 rfl (lv_at hl 0 rfl) ?_
        have := q_m3
        refine va_calli (va_runV (As := [.int (-3)]) (rest := []) ⟨hx, hb, hml, hown, hts⟩ (kX7_no l D cI ad w (-3) hd hI (by omega) (by omega)) (cwV 1 hts gX7_boundBy_X7_no rfl rfl rfl mdX7_no ⟨Nat.le_of_ble_eq_true rfl, Nat.le_of_ble_eq_true rfl⟩) (r7_pre hK hP) rfl rfl hl.1 rfl (lv_room (Nat.le_of_ble_eq_true rfl)) dX7_boundBy_47 ⟨Nat.zero_le _, Nat.zero_le _⟩) hS (fun _ _ h => h) (fun _ h => h) (fun rn_19 wn_19 t H locs ht hvm hp_19 hB hz hk hS => ?_)
        have hP : va_P D vwCl (RM cI ad wn_19) H := ht ▸ hB
        obtain ⟨hp_19, hI_19⟩ := hp_19
        have E := bnd_e E hp_19
        exact W.iret (v := rn_19) hx hb hr (fun t ht hW => ⟨⟨_, wn_19, rfl, E.symm, by beta_reduce; rw [ht]; exact hP⟩, hS.F ht⟩) hS.2.2 dX7_boundBy_50
    · have E := E.trans (if_pos c_11)
      have fc_11 := i_eq c_11
      rw [q_0] at fc_11
      refine lv_bipush (v := (-2)) hx hb dX7_boundBy_22 (by decide +kernel) ?_
      refine lv_goto (tgt := 40) hx hb dX7_boundBy_24 (by decide) ?_
      refine lv_istore_n (lv' := [(3, .int (-2)), (0, .ref (ad 0)), (1, .int a1), (2, .int a2)]) hx hb dX7_boundBy_40 rfl hl (by decide) rfl (fun ls hl => ?_)
      refine lv_iload_n hx hb dX7_boundBy_41 rfl (lv_at hl 0 rfl) ?_
      refine lv_if_eq (tgt := 51) hx hb dX7_boundBy_42 (by decide) (fun z => absurd z (by decide)) (fun _ => ?_)
      refine lv_aload_n hx hb dX7_boundBy_45 rfl (lv_at hl 1 rfl) ?_
      refine lv_iload_n hx hb dX7_boundBy_46 rfl (lv_at hl 0 rfl) ?_
      have := q_m2
      refine va_calli (va_runV (As := [.int (-2)]) (rest := []) ⟨hx, hb, hml, hown, hts⟩ (kX7_no l D cI ad w (-2) hd hI (by omega) (by omega)) (cwV 1 hts gX7_boundBy_X7_no rfl rfl rfl mdX7_no ⟨Nat.le_of_ble_eq_true rfl, Nat.le_of_ble_eq_true rfl⟩) (r7_pre hK hP) rfl rfl hl.1 rfl (lv_room (Nat.le_of_ble_eq_true rfl)) dX7_boundBy_47 ⟨Nat.zero_le _, Nat.zero_le _⟩) hS (fun _ _ h => h) (fun _ h => h) (fun rn_20 wn_20 t H locs ht hvm hp_20 hB hz hk hS => ?_)
      have hP : va_P D vwCl (RM cI ad wn_20) H := ht ▸ hB
      obtain ⟨hp_20, hI_20⟩ := hp_20
      have E := bnd_e E hp_20
      exact W.iret (v := rn_20) hx hb hr (fun t ht hW => ⟨⟨_, wn_20, rfl, E.symm, by beta_reduce; rw [ht]; exact hP⟩, hS.F ht⟩) hS.2.2 dX7_boundBy_50
abbrev rmX7_row : Room := { frames := 1, cells := 0, slots := 0, locals := 22 }
set_option maxHeartbeats 4000000 in
set_option maxRecDepth 100000 in
theorem kX7_row (l : Launch) (D : va_G) (cI : ClassId) (ad : Nat → Nat) (w : Nat → Nat → Int32) (a1 : Int32) (hd : RD ad) (hI : R7I w)  : Met l yX7_row wsX7_row rmX7_row (va_Pc [Value.ref (ad 0), Value.int a1] (fun U => va_P D vwCl (RM cI ad w) U.heap ∧ va_K D vwCl [(cI, .int)] U)) (va_Qi (fun r u => (r, u) = sX7_row w a1 ∧ R7I u) (fun u t => va_P D vwCl (RM cI ad u) t.heap) (RA ad)) 0 0 (RA ad) := by
  refine Met.ofW (cc := cX7_row) (maxL := 3) (ret := (some .int)) (by decide) rfl ?_
  intro p e s m args below meth c s₁ B hml hv
  obtain ⟨rfl, hP, hK⟩ := hv
  have hx := B.exec
  have hb := B.bytes
  have hr := B.returns
  have hts := atoms_spec (ws := wsX7_row) B.pre
  have hown : s.vm.findClass RX7 = some m.cls := findClass_of_methodNamed B.named
  have hlocks := B.notSynchronized
  have hin : ∀ q ∈ wsX70, q ∈ wsX7_row := by decide +kernel
  have hl := lv_entry ([.ref (ad 0), .int a1]) (n := 3) (Nat.le_of_ble_eq_true rfl)
  rw [lg_entry_eq]
  generalize (lg_sl ([.ref (ad 0), .int a1]) ++ List.replicate (3 - (lg_sl ([.ref (ad 0), .int a1])).length) Slot.unset).toArray = ls at hl ⊢
  have hl : lv_has ls 3 [(0, .ref (ad 0)), (1, .int a1)] := hl
  suffices hgo : ∀ (H : Heap) (locs : List Loc), va_P D vwCl (RM cI ad w) H → va_S (RA ad) s.heap H locs → W p l e (headSpec wsX7_row rmX7_row).room s m [Value.ref (ad 0), Value.int a1].toArray below meth c H locs 0 0 (MQ below (va_Qi (fun r u => (r, u) = sX7_row w a1 ∧ R7I u) (fun u t => va_P D vwCl (RM cI ad u) t.heap) (RA ad)) [Value.ref (ad 0), Value.int a1].toArray s 0 0 (RA ad)) (F0 m 0 ls []) from hgo s.heap [] hP va_S.rf
  intro H locs hP hS
  have E := sX7_row.eq_1 w a1
  refine lv_iload_n hx hb dX7_row_0 rfl (lv_at hl 1 rfl) ?_
  refine lv_iconst (v := 0) hx hb dX7_row_1 (by decide) ?_
  refine lv_bipush (v := 99) hx hb dX7_row_2 (by decide +kernel) ?_
  refine vp_callSi (va_Run.run (va_runS (As := [.int a1, .int 0, .int 99]) (rest := []) ⟨hx, hb, hml, hown, hts⟩ (kX7_bound l a1 0 99) (va_cwS 3 hts gX7_row_X7_bound rfl rfl rfl mdX7_bound ⟨Nat.le_of_ble_eq_true rfl, Nat.le_of_ble_eq_true rfl⟩) s_pre rfl rfl hl.1 rfl (lv_room (Nat.le_of_ble_eq_true rfl)) dX7_row_4 ⟨Nat.zero_le _, Nat.zero_le _⟩)) (fun r_1 hr_1 => ?_)
  subst hr_1
  have rf_1 := rX7_bound a1 0 99
  have := q_0
  have := q_99
  refine lv_istore_n (lv' := [(2, .int (sX7_bound a1 0 99)), (0, .ref (ad 0)), (1, .int a1)]) hx hb dX7_row_7 rfl hl (by decide) rfl (fun ls hl => ?_)
  refine lv_iload_n hx hb dX7_row_8 rfl (lv_at hl 0 rfl) ?_
  refine lv_if_ne (tgt := 24) hx hb dX7_row_9 (by decide) (fun c_2 => ?_) (fun c_2 => ?_)
  · have E := E.trans (if_neg c_2)
    have fc_2 := i_ne c_2
    rw [q_0] at fc_2
    refine lv_iload_n hx hb dX7_row_24 rfl (lv_at hl 0 rfl) ?_
    refine lv_if_eq (tgt := 34) hx hb dX7_row_25 (by decide) (fun c_3 => ?_) (fun c_3 => ?_)
    · have E := E.trans (if_pos c_3)
      have fc_3 := i_eq c_3
      rw [q_0] at fc_3
      refine lv_aload_n hx hb dX7_row_34 rfl (lv_at hl 1 rfl) ?_
      refine g7_row hx hb hts hin hown hK hP (hts (.fieldLink RX7 61 "LoadedForTheLaneModel" "row" "[I") (by decide +kernel)) dX7_row_35 ?_
      refine lv_aload_n hx hb dX7_row_38 rfl (lv_at hl 1 rfl) ?_
      refine g7_rowMany hx hb hts hin hown hK hP (hts (.fieldLink RX7 262 "LoadedForTheLaneModel" "rowMany" "I") (by decide +kernel)) dX7_row_39 ?_
      have f_4 := R7I_rowMany hI
      refine lv_iload_n hx hb dX7_row_42 rfl (lv_at hl 2 rfl) ?_
      have ix_5 : vp_in (w 27 0) 12 := ix_of (by omega) (by omega)
      refine a7_row (j := (w 27 0).toNatClampNeg) hx hb hK hP hd hS ix_5 rfl dX7_row_43 (fun H locs hP hS => ?_)
      obtain ⟨wn_5, hwn_5⟩ : ∃ x, x = st w 26 ((w 27 0).toNatClampNeg) a1 := ⟨_, rfl⟩
      rw [← hwn_5] at hP
      have E := bns_e E hwn_5
      have hI_5 : R7I wn_5 := by rw [hwn_5]; exact R7I_put_row hI
      refine lv_aload_n hx hb dX7_row_44 rfl (lv_at hl 1 rfl) ?_
      refine lv_dup hx hb dX7_row_45 rfl ?_
      refine g7_rowMany hx hb hts hin hown hK hP (hts (.fieldLink RX7 262 "LoadedForTheLaneModel" "rowMany" "I") (by decide +kernel)) dX7_row_46 ?_
      have f_6 := R7I_rowMany hI_5
      refine lv_iconst (v := 1) hx hb dX7_row_49 (by decide) ?_
      refine lv_iadd hx hb dX7_row_50 ?_
      refine p7_rowMany hx hb hts hin hown hK hP hd hS (hts (.fieldLink RX7 262 "LoadedForTheLaneModel" "rowMany" "I") (by decide +kernel)) dX7_row_51 (fun H locs hP hS => ?_)
      obtain ⟨wn_7, hwn_7⟩ : ∃ x, x = st wn_5 27 0 ((wn_5 27 0) + 1) := ⟨_, rfl⟩
      rw [← hwn_7] at hP
      have E := bns_e E hwn_7
      have := q_1
      have := i_add (a := wn_5 27 0) (b := 1) (by omega) (by omega)
      have hI_7 : R7I wn_7 := by rw [hwn_7]; exact R7I_put_rowMany hI_5 (by omega) (by omega)
      refine lv_aload_n hx hb dX7_row_54 rfl (lv_at hl 1 rfl) ?_
      refine g7_rowMany hx hb hts hin hown hK hP (hts (.fieldLink RX7 262 "LoadedForTheLaneModel" "rowMany" "I") (by decide +kernel)) dX7_row_55 ?_
      have f_8 := R7I_rowMany hI_7
      exact W.iret (v := wn_7 27 0) hx hb hr (fun t ht hW => ⟨⟨_, wn_7, rfl, ⟨E.symm, hI_7⟩, by beta_reduce; rw [ht]; exact hP⟩, hS.F ht⟩) hS.2.2 dX7_row_58
    · have E := E.trans (if_neg c_3)
      have fc_3 := i_ne c_3
      rw [q_0] at fc_3
      refine lv_aload_n hx hb dX7_row_28 rfl (lv_at hl 1 rfl) ?_
      refine lv_iload_n hx hb dX7_row_29 rfl (lv_at hl 0 rfl) ?_
      refine va_calli (va_runV (As := [.int (sX7_bound a1 0 99)]) (rest := []) ⟨hx, hb, hml, hown, hts⟩ (kX7_no l D cI ad w (sX7_bound a1 0 99) hd hI (by omega) (by omega)) (cwV 1 hts gX7_row_X7_no rfl rfl rfl mdX7_no ⟨Nat.le_of_ble_eq_true rfl, Nat.le_of_ble_eq_true rfl⟩) (r7_pre hK hP) rfl rfl hl.1 rfl (lv_room (Nat.le_of_ble_eq_true rfl)) dX7_row_30 ⟨Nat.zero_le _, Nat.zero_le _⟩) hS (fun _ _ h => h) (fun _ h => h) (fun rn_9 wn_9 t H locs ht hvm hp_9 hB hz hk hS => ?_)
      have hP : va_P D vwCl (RM cI ad wn_9) H := ht ▸ hB
      obtain ⟨hp_9, hI_9⟩ := hp_9
      have E := bnd_e E hp_9
      exact W.iret (v := rn_9) hx hb hr (fun t ht hW => ⟨⟨_, wn_9, rfl, ⟨E.symm, hI_9⟩, by beta_reduce; rw [ht]; exact hP⟩, hS.F ht⟩) hS.2.2 dX7_row_33
  · have E := E.trans (if_pos c_2)
    have fc_2 := i_eq c_2
    rw [q_0] at fc_2
    refine lv_aload_n hx hb dX7_row_12 rfl (lv_at hl 1 rfl) ?_
    refine g7_rowMany hx hb hts hin hown hK hP (hts (.fieldLink RX7 262 "LoadedForTheLaneModel" "rowMany" "I") (by decide +kernel)) dX7_row_13 ?_
    have f_10 := R7I_rowMany hI
    refine lv_bipush (v := 12) hx hb dX7_row_16 (by decide +kernel) ?_
    refine lv_icmp_ne (tgt := 24) hx hb dX7_row_18 (by decide) (fun c_11 => ?_) (fun c_11 => ?_)
    · have E := E.trans (if_neg c_11)
      have fc_11 := i_ne c_11
      rw [q_12] at fc_11
      refine lv_iload_n hx hb dX7_row_24 rfl (lv_at hl 0 rfl) ?_
      refine lv_if_eq (tgt := 34) hx hb dX7_row_25 (by decide) (fun c_12 => ?_) (fun c_12 => ?_)
      · have E := E.trans (if_pos c_12)
        have fc_12 := i_eq c_12
        rw [q_0] at fc_12
        refine lv_aload_n hx hb dX7_row_34 rfl (lv_at hl 1 rfl) ?_
        refine g7_row hx hb hts hin hown hK hP (hts (.fieldLink RX7 61 "LoadedForTheLaneModel" "row" "[I") (by decide +kernel)) dX7_row_35 ?_
        refine lv_aload_n hx hb dX7_row_38 rfl (lv_at hl 1 rfl) ?_
        refine g7_rowMany hx hb hts hin hown hK hP (hts (.fieldLink RX7 262 "LoadedForTheLaneModel" "rowMany" "I") (by decide +kernel)) dX7_row_39 ?_
        have f_13 := R7I_rowMany hI
        refine lv_iload_n hx hb dX7_row_42 rfl (lv_at hl 2 rfl) ?_
        have ix_14 : vp_in (w 27 0) 12 := ix_of (by omega) (by omega)
        refine a7_row (j := (w 27 0).toNatClampNeg) hx hb hK hP hd hS ix_14 rfl dX7_row_43 (fun H locs hP hS => ?_)
        obtain ⟨wn_14, hwn_14⟩ : ∃ x, x = st w 26 ((w 27 0).toNatClampNeg) a1 := ⟨_, rfl⟩
        rw [← hwn_14] at hP
        have E := bns_e E hwn_14
        have hI_14 : R7I wn_14 := by rw [hwn_14]; exact R7I_put_row hI
        refine lv_aload_n hx hb dX7_row_44 rfl (lv_at hl 1 rfl) ?_
        refine lv_dup hx hb dX7_row_45 rfl ?_
        refine g7_rowMany hx hb hts hin hown hK hP (hts (.fieldLink RX7 262 "LoadedForTheLaneModel" "rowMany" "I") (by decide +kernel)) dX7_row_46 ?_
        have f_15 := R7I_rowMany hI_14
        refine lv_iconst (v := 1) hx hb dX7_row_49 (by decide) ?_
        refine lv_iadd hx hb dX7_row_50 ?_
        refine p7_rowMany hx hb hts hin hown hK hP hd hS (hts (.fieldLink RX7 262 "LoadedForTheLaneModel" "rowMany" "I") (by decide +kernel)) dX7_row_51 (fun H locs hP hS => ?_)
        obtain ⟨wn_16, hwn_16⟩ : ∃ x, x = st wn_14 27 0 ((wn_14 27 0) + 1) := ⟨_, rfl⟩
        rw [← hwn_16] at hP
        have E := bns_e E hwn_16
        have := q_1
        have := i_add (a := wn_14 27 0) (b := 1) (by omega) (by omega)
        have hI_16 : R7I wn_16 := by rw [hwn_16]; exact R7I_put_rowMany hI_14 (by omega) (by omega)
        refine lv_aload_n hx hb dX7_row_54 rfl (lv_at hl 1 rfl) ?_
        refine g7_rowMany hx hb hts hin hown hK hP (hts (.fieldLink RX7 262 "LoadedForTheLaneModel" "rowMany" "I") (by decide +kernel)) dX7_row_55 ?_
        have f_17 := R7I_rowMany hI_16
        exact W.iret (v := wn_16 27 0) hx hb hr (fun t ht hW => ⟨⟨_, wn_16, rfl, ⟨E.symm, hI_16⟩, by beta_reduce; rw [ht]; exact hP⟩, hS.F ht⟩) hS.2.2 dX7_row_58
      · have E := E.trans (if_neg c_12)
        have fc_12 := i_ne c_12
        rw [q_0] at fc_12
        refine lv_aload_n hx hb dX7_row_28 rfl (lv_at hl 1 rfl) ?_
        refine lv_iload_n hx hb dX7_row_29 rfl (lv_at hl 0 rfl) ?_
        refine va_calli (va_runV (As := [.int (sX7_bound a1 0 99)]) (rest := []) ⟨hx, hb, hml, hown, hts⟩ (kX7_no l D cI ad w (sX7_bound a1 0 99) hd hI (by omega) (by omega)) (cwV 1 hts gX7_row_X7_no rfl rfl rfl mdX7_no ⟨Nat.le_of_ble_eq_true rfl, Nat.le_of_ble_eq_true rfl⟩) (r7_pre hK hP) rfl rfl hl.1 rfl (lv_room (Nat.le_of_ble_eq_true rfl)) dX7_row_30 ⟨Nat.zero_le _, Nat.zero_le _⟩) hS (fun _ _ h => h) (fun _ h => h) (fun rn_18 wn_18 t H locs ht hvm hp_18 hB hz hk hS => ?_)
        have hP : va_P D vwCl (RM cI ad wn_18) H := ht ▸ hB
        obtain ⟨hp_18, hI_18⟩ := hp_18
        have E := bnd_e E hp_18
        exact W.iret (v := rn_18) hx hb hr (fun t ht hW => ⟨⟨_, wn_18, rfl, ⟨E.symm, hI_18⟩, by beta_reduce; rw [ht]; exact hP⟩, hS.F ht⟩) hS.2.2 dX7_row_33
    · have E := E.trans (if_pos c_11)
      have fc_11 := i_eq c_11
      rw [q_12] at fc_11
      refine lv_bipush (v := (-6)) hx hb dX7_row_21 (by decide +kernel) ?_
      refine lv_istore_n (lv' := [(2, .int (-6)), (0, .ref (ad 0)), (1, .int a1)]) hx hb dX7_row_23 rfl hl (by decide) rfl (fun ls hl => ?_)
      refine lv_iload_n hx hb dX7_row_24 rfl (lv_at hl 0 rfl) ?_
      refine lv_if_eq (tgt := 34) hx hb dX7_row_25 (by decide) (fun z => absurd z (by decide)) (fun _ => ?_)
      refine lv_aload_n hx hb dX7_row_28 rfl (lv_at hl 1 rfl) ?_
      refine lv_iload_n hx hb dX7_row_29 rfl (lv_at hl 0 rfl) ?_
      have := q_m6
      refine va_calli (va_runV (As := [.int (-6)]) (rest := []) ⟨hx, hb, hml, hown, hts⟩ (kX7_no l D cI ad w (-6) hd hI (by omega) (by omega)) (cwV 1 hts gX7_row_X7_no rfl rfl rfl mdX7_no ⟨Nat.le_of_ble_eq_true rfl, Nat.le_of_ble_eq_true rfl⟩) (r7_pre hK hP) rfl rfl hl.1 rfl (lv_room (Nat.le_of_ble_eq_true rfl)) dX7_row_30 ⟨Nat.zero_le _, Nat.zero_le _⟩) hS (fun _ _ h => h) (fun _ h => h) (fun rn_19 wn_19 t H locs ht hvm hp_19 hB hz hk hS => ?_)
      have hP : va_P D vwCl (RM cI ad wn_19) H := ht ▸ hB
      obtain ⟨hp_19, hI_19⟩ := hp_19
      have E := bnd_e E hp_19
      exact W.iret (v := rn_19) hx hb hr (fun t ht hW => ⟨⟨_, wn_19, rfl, ⟨E.symm, hI_19⟩, by beta_reduce; rw [ht]; exact hP⟩, hS.F ht⟩) hS.2.2 dX7_row_33
abbrev rmX7_judge : Room := { frames := 6, cells := 0, slots := 0, locals := 138 }
set_option maxHeartbeats 4000000 in
set_option maxRecDepth 100000 in
theorem kX7_judge (l : Launch) (D : va_G) (cI : ClassId) (ad : Nat → Nat) (w : Nat → Nat → Int32) (a1 : Int32) (hd : RD ad) (hI : R7I w)  : Met l yX7_judge wsX7_judge rmX7_judge (va_Pc [Value.ref (ad 0), Value.int a1] (fun U => va_P D vwCl (RM cI ad w) U.heap ∧ va_K D vwCl [(cI, .int)] U)) (va_Qi (fun r u => (r, u) = sX7_judge w a1 ∧ R7I u) (fun u t => va_P D vwCl (RM cI ad u) t.heap) (RA ad)) 0 0 (RA ad) := by
  refine Met.ofW (cc := cX7_judge) (maxL := 6) (ret := (some .int)) (by decide) rfl ?_
  intro p e s m args below meth c s₁ B hml hv
  obtain ⟨rfl, hP, hK⟩ := hv
  have hx := B.exec
  have hb := B.bytes
  have hr := B.returns
  have hts := atoms_spec (ws := wsX7_judge) B.pre
  have hown : s.vm.findClass RX7 = some m.cls := findClass_of_methodNamed B.named
  have hlocks := B.notSynchronized
  have hin : ∀ q ∈ wsX70, q ∈ wsX7_judge := by decide +kernel
  have hl := lv_entry ([.ref (ad 0), .int a1]) (n := 6) (Nat.le_of_ble_eq_true rfl)
  rw [lg_entry_eq]
  generalize (lg_sl ([.ref (ad 0), .int a1]) ++ List.replicate (6 - (lg_sl ([.ref (ad 0), .int a1])).length) Slot.unset).toArray = ls at hl ⊢
  have hl : lv_has ls 6 [(0, .ref (ad 0)), (1, .int a1)] := hl
  suffices hgo : ∀ (H : Heap) (locs : List Loc), va_P D vwCl (RM cI ad w) H → va_S (RA ad) s.heap H locs → W p l e (headSpec wsX7_judge rmX7_judge).room s m [Value.ref (ad 0), Value.int a1].toArray below meth c H locs 0 0 (MQ below (va_Qi (fun r u => (r, u) = sX7_judge w a1 ∧ R7I u) (fun u t => va_P D vwCl (RM cI ad u) t.heap) (RA ad)) [Value.ref (ad 0), Value.int a1].toArray s 0 0 (RA ad)) (F0 m 0 ls []) from hgo s.heap [] hP va_S.rf
  intro H locs hP hS
  have E := sX7_judge.eq_1 w a1
  refine lv_iload_n hx hb dX7_judge_0 rfl (lv_at hl 1 rfl) ?_
  refine vp_callSi (va_Run.run (va_runS (As := [.int a1]) (rest := []) ⟨hx, hb, hml, hown, hts⟩ (kX7_isWay l a1) (va_cwS 1 hts gX7_judge_X7_isWay rfl rfl rfl mdX7_isWay ⟨Nat.le_of_ble_eq_true rfl, Nat.le_of_ble_eq_true rfl⟩) s_pre rfl rfl hl.1 rfl (lv_room (Nat.le_of_ble_eq_true rfl)) dX7_judge_1 ⟨Nat.zero_le _, Nat.zero_le _⟩)) (fun r_1 hr_1 => ?_)
  obtain ⟨rfl, hz_1⟩ := hr_1
  refine lv_if_ne (tgt := 13) hx hb dX7_judge_4 (by decide) (fun c_2 => ?_) (fun c_2 => ?_)
  · have E := E.trans (if_neg c_2)
    have fc_2 := i_ne c_2
    rw [q_0] at fc_2
    have gc_2 := fX7_isWay c_2
    refine lv_aload_n hx hb dX7_judge_13 rfl (lv_at hl 0 rfl) ?_
    refine g7_rowMany hx hb hts hin hown hK hP (hts (.fieldLink RX7 262 "LoadedForTheLaneModel" "rowMany" "I") (by decide +kernel)) dX7_judge_14 ?_
    have f_3 := R7I_rowMany hI
    refine lv_istore_n (lv' := [(2, .int (w 27 0)), (0, .ref (ad 0)), (1, .int a1)]) hx hb dX7_judge_17 rfl hl (by decide) rfl (fun ls hl => ?_)
    refine lv_aload_n hx hb dX7_judge_18 rfl (lv_at hl 1 rfl) ?_
    refine lv_iconst (v := 0) hx hb dX7_judge_19 (by decide) ?_
    refine p7_rowMany hx hb hts hin hown hK hP hd hS (hts (.fieldLink RX7 262 "LoadedForTheLaneModel" "rowMany" "I") (by decide +kernel)) dX7_judge_20 (fun H locs hP hS => ?_)
    obtain ⟨wn_4, hwn_4⟩ : ∃ x, x = st w 27 0 0 := ⟨_, rfl⟩
    rw [← hwn_4] at hP
    have E := bns_e E hwn_4
    have := q_0
    have hI_4 : R7I wn_4 := by rw [hwn_4]; exact R7I_put_rowMany hI (by omega) (by omega)
    refine lv_aload_n hx hb dX7_judge_23 rfl (lv_at hl 1 rfl) ?_
    refine g7_setting hx hb hts hin hown hK hP (hts (.fieldLink RX7 13 "LoadedForTheLaneModel" "setting" "[I") (by decide +kernel)) dX7_judge_24 ?_
    refine lv_iconst (v := 0) hx hb dX7_judge_27 (by decide) ?_
    have ix_5 : vp_in 0 4 := by unfold vp_in; decide
    refine l7_setting (j := 0) hx hb hK hP ix_5 (by decide) dX7_judge_28 ?_
    refine lv_istore_n (lv' := [(3, .int (wn_4 1 0)), (2, .int (w 27 0)), (0, .ref (ad 0)), (1, .int a1)]) hx hb dX7_judge_29 rfl hl (by decide) rfl (fun ls hl => ?_)
    refine lv_bipush (v := (-9)) hx hb dX7_judge_30 (by decide +kernel) ?_
    refine lv_istore (lv' := [(4, .int (-9)), (3, .int (wn_4 1 0)), (2, .int (w 27 0)), (0, .ref (ad 0)), (1, .int a1)]) hx hb dX7_judge_32 hl (by decide) rfl (fun ls hl => ?_)
    refine lv_iconst (v := 0) hx hb dX7_judge_34 (by decide) ?_
    refine lv_istore (lv' := [(5, .int 0), (4, .int (-9)), (3, .int (wn_4 1 0)), (2, .int (w 27 0)), (0, .ref (ad 0)), (1, .int a1)]) hx hb dX7_judge_35 hl (by decide) rfl (fun ls hl => ?_)
    have L_37 : ∀ (n_37 : Nat) (x4_37 : Int32) (x5_37 : Int32) (w_37 : Nat → Nat → Int32) (H : Heap) (locs : List Loc) (ls : Array Slot), (0 ≤ x5_37.toInt ∧ x5_37.toInt ≤ 12) → (12 - x5_37.toInt < (n_37 : Int)) → R7I w_37 → va_P D vwCl (RM cI ad w_37) H → va_S (RA ad) s.heap H locs → lv_has ls 6 [(5, .int x5_37), (4, .int x4_37), (3, .int (wn_4 1 0)), (2, .int (w 27 0)), (0, .ref (ad 0)), (1, .int a1)] → sX7_judge w a1 = sX7_judge_37 w a1 wn_4 n_37 x4_37 x5_37 w_37 → W p l e (headSpec wsX7_judge rmX7_judge).room s m [Value.ref (ad 0), Value.int a1].toArray below meth c H locs 0 0 (MQ below (va_Qi (fun r u => (r, u) = sX7_judge w a1 ∧ R7I u) (fun u t => va_P D vwCl (RM cI ad u) t.heap) (RA ad)) [Value.ref (ad 0), Value.int a1].toArray s 0 0 (RA ad)) (F0 m 37 ls []) := by
      intro n_37
      induction n_37 with
      | zero =>
        intro x4_37 x5_37 w_37 H locs ls hinv hm
        obtain ⟨v0_37, v1_37⟩ := hinv
        exact absurd hm (by omega)
      | succ n_37 ih_37 =>
        intro x4_37 x5_37 w_37 H locs ls hinv hm_37 hI_37 hP hS hl E
        obtain ⟨v0_37, v1_37⟩ := hinv
        have E := E.trans (sX7_judge_37.eq_2 ..)
        refine lv_iload hx hb dX7_judge_37 (lv_at hl 0 rfl) ?_
        refine lv_iload_n hx hb dX7_judge_39 rfl (lv_at hl 3 rfl) ?_
        refine lv_icmp_ge (tgt := 102) hx hb dX7_judge_40 (by decide) (fun c_6 => ?_) (fun c_6 => ?_)
        · have E := E.trans (if_pos c_6)
          have fc_6 := i_le c_6
          refine lv_aload_n hx hb dX7_judge_102 rfl (lv_at hl 4 rfl) ?_
          refine g7_setting hx hb hts hin hown hK hP (hts (.fieldLink RX7 13 "LoadedForTheLaneModel" "setting" "[I") (by decide +kernel)) dX7_judge_103 ?_
          refine lv_iconst (v := 0) hx hb dX7_judge_106 (by decide) ?_
          refine lv_iload_n hx hb dX7_judge_107 rfl (lv_at hl 2 rfl) ?_
          have ix_7 : vp_in 0 4 := by unfold vp_in; decide
          refine a7_setting (j := 0) hx hb hK hP hd hS ix_7 (by decide) dX7_judge_108 (fun H locs hP hS => ?_)
          obtain ⟨wn_7, hwn_7⟩ : ∃ x, x = st w_37 1 0 (wn_4 1 0) := ⟨_, rfl⟩
          rw [← hwn_7] at hP
          have E := bns_e E hwn_7
          have hI_7 : R7I wn_7 := by rw [hwn_7]; exact R7I_put_setting hI_37
          refine lv_iload hx hb dX7_judge_109 (lv_at hl 1 rfl) ?_
          exact W.iret (v := x4_37) hx hb hr (fun t ht hW => ⟨⟨_, wn_7, rfl, ⟨E.symm, hI_7⟩, by beta_reduce; rw [ht]; exact hP⟩, hS.F ht⟩) hS.2.2 dX7_judge_111
        · have E := E.trans (if_neg c_6)
          have fc_6 := i_nle c_6
          refine lv_iload hx hb dX7_judge_43 (lv_at hl 1 rfl) ?_
          refine lv_if_ge (tgt := 102) hx hb dX7_judge_45 (by decide) (fun c_8 => ?_) (fun c_8 => ?_)
          · have E := E.trans (if_pos c_8)
            have fc_8 := i_le c_8
            rw [q_0] at fc_8
            refine lv_aload_n hx hb dX7_judge_102 rfl (lv_at hl 4 rfl) ?_
            refine g7_setting hx hb hts hin hown hK hP (hts (.fieldLink RX7 13 "LoadedForTheLaneModel" "setting" "[I") (by decide +kernel)) dX7_judge_103 ?_
            refine lv_iconst (v := 0) hx hb dX7_judge_106 (by decide) ?_
            refine lv_iload_n hx hb dX7_judge_107 rfl (lv_at hl 2 rfl) ?_
            have ix_9 : vp_in 0 4 := by unfold vp_in; decide
            refine a7_setting (j := 0) hx hb hK hP hd hS ix_9 (by decide) dX7_judge_108 (fun H locs hP hS => ?_)
            obtain ⟨wn_9, hwn_9⟩ : ∃ x, x = st w_37 1 0 (wn_4 1 0) := ⟨_, rfl⟩
            rw [← hwn_9] at hP
            have E := bns_e E hwn_9
            have hI_9 : R7I wn_9 := by rw [hwn_9]; exact R7I_put_setting hI_37
            refine lv_iload hx hb dX7_judge_109 (lv_at hl 1 rfl) ?_
            exact W.iret (v := x4_37) hx hb hr (fun t ht hW => ⟨⟨_, wn_9, rfl, ⟨E.symm, hI_9⟩, by beta_reduce; rw [ht]; exact hP⟩, hS.F ht⟩) hS.2.2 dX7_judge_111
          · have E := E.trans (if_neg c_8)
            have fc_8 := i_nle c_8
            rw [q_0] at fc_8
            refine lv_aload_n hx hb dX7_judge_48 rfl (lv_at hl 4 rfl) ?_
            refine g7_setting hx hb hts hin hown hK hP (hts (.fieldLink RX7 13 "LoadedForTheLaneModel" "setting" "[I") (by decide +kernel)) dX7_judge_49 ?_
            refine lv_iconst (v := 0) hx hb dX7_judge_52 (by decide) ?_
            refine lv_iload hx hb dX7_judge_53 (lv_at hl 0 rfl) ?_
            have ix_10 : vp_in 0 4 := by unfold vp_in; decide
            refine a7_setting (j := 0) hx hb hK hP hd hS ix_10 (by decide) dX7_judge_55 (fun H locs hP hS => ?_)
            obtain ⟨wn_10, hwn_10⟩ : ∃ x, x = st w_37 1 0 x5_37 := ⟨_, rfl⟩
            rw [← hwn_10] at hP
            have E := bns_e E hwn_10
            have hI_10 : R7I wn_10 := by rw [hwn_10]; exact R7I_put_setting hI_37
            refine lv_aload_n hx hb dX7_judge_56 rfl (lv_at hl 4 rfl) ?_
            refine lv_iload_n hx hb dX7_judge_57 rfl (lv_at hl 5 rfl) ?_
            refine va_callv (va_runV (As := [.int a1]) (rest := []) ⟨hx, hb, hml, hown, hts⟩ (kX7_findSlip l D cI ad wn_10 a1 hd hI_10 (by omega) (by omega)) (cwV 1 hts gX7_judge_X7_findSlip rfl rfl rfl mdX7_findSlip ⟨Nat.le_of_ble_eq_true rfl, Nat.le_of_ble_eq_true rfl⟩) (r7_pre hK hP) rfl rfl hl.1 rfl (lv_room (Nat.le_of_ble_eq_true rfl)) dX7_judge_58 ⟨Nat.zero_le _, Nat.zero_le _⟩) hS (fun _ _ h => h) (fun _ h => h) (fun wn_11 t H locs ht hvm hp_11 hB hz hk hS => ?_)
            have hP : va_P D vwCl (RM cI ad wn_11) H := ht ▸ hB
            obtain ⟨hp_11, hI_11, hq0_11⟩ := hp_11
            have E := bns_e E hp_11
            refine lv_aload_n hx hb dX7_judge_61 rfl (lv_at hl 4 rfl) ?_
            refine g7_slipLayer hx hb hts hin hown hK hP (hts (.fieldLink RX7 208 "LoadedForTheLaneModel" "slipLayer" "I") (by decide +kernel)) dX7_judge_62 ?_
            refine lv_if_ge (tgt := 73) hx hb dX7_judge_65 (by decide) (fun c_12 => ?_) (fun c_12 => ?_)
            · have E := E.trans (if_pos c_12)
              have fc_12 := i_le c_12
              rw [q_0] at fc_12
              refine lv_aload_n hx hb dX7_judge_73 rfl (lv_at hl 4 rfl) ?_
              refine g7_slipLayer hx hb hts hin hown hK hP (hts (.fieldLink RX7 208 "LoadedForTheLaneModel" "slipLayer" "I") (by decide +kernel)) dX7_judge_74 ?_
              refine lv_aload_n hx hb dX7_judge_77 rfl (lv_at hl 4 rfl) ?_
              refine g7_row hx hb hts hin hown hK hP (hts (.fieldLink RX7 61 "LoadedForTheLaneModel" "row" "[I") (by decide +kernel)) dX7_judge_78 ?_
              refine lv_iload hx hb dX7_judge_81 (lv_at hl 0 rfl) ?_
              have ix_13 : vp_in x5_37 12 := ix_of (by omega) (by omega)
              refine l7_row (j := x5_37.toNatClampNeg) hx hb hK hP ix_13 rfl dX7_judge_83 ?_
              refine lv_icmp_ne (tgt := 92) hx hb dX7_judge_84 (by decide) (fun c_14 => ?_) (fun c_14 => ?_)
              · have E := E.trans (if_neg c_14)
                have fc_14 := i_ne c_14
                refine lv_iload hx hb dX7_judge_92 (lv_at hl 0 rfl) ?_
                refine lv_istore (lv' := [(4, .int x5_37), (5, .int x5_37), (3, .int (wn_4 1 0)), (2, .int (w 27 0)), (0, .ref (ad 0)), (1, .int a1)]) hx hb dX7_judge_94 hl (by decide) rfl (fun ls hl => ?_)
                refine lv_iinc (v := x5_37 + 1) (lv' := [(5, .int (x5_37 + 1)), (4, .int x5_37), (3, .int (wn_4 1 0)), (2, .int (w 27 0)), (0, .ref (ad 0)), (1, .int a1)]) hx hb dX7_judge_96 hl (k := 1) rfl rfl (by decide) rfl (fun ls hl => ?_)
                refine lv_goto (tgt := 37) hx hb dX7_judge_99 (by decide) ?_
                have := q_1
                try have := i_add (a := x5_37) (b := 1) (by omega) (by omega)
                exact ih_37 x5_37 (x5_37 + 1) wn_11 H locs ls ⟨by omega, by omega⟩ (by omega) hI_11 hP hS (lv_sub hl [0, 1, 2, 3, 4, 5] rfl) E
              · have E := E.trans (if_pos c_14)
                have fc_14 := i_eq c_14
                refine lv_bipush (v := (-9)) hx hb dX7_judge_87 (by decide +kernel) ?_
                refine lv_goto (tgt := 94) hx hb dX7_judge_89 (by decide) ?_
                refine lv_istore (lv' := [(4, .int (-9)), (5, .int x5_37), (3, .int (wn_4 1 0)), (2, .int (w 27 0)), (0, .ref (ad 0)), (1, .int a1)]) hx hb dX7_judge_94 hl (by decide) rfl (fun ls hl => ?_)
                refine lv_iinc (v := x5_37 + 1) (lv' := [(5, .int (x5_37 + 1)), (4, .int (-9)), (3, .int (wn_4 1 0)), (2, .int (w 27 0)), (0, .ref (ad 0)), (1, .int a1)]) hx hb dX7_judge_96 hl (k := 1) rfl rfl (by decide) rfl (fun ls hl => ?_)
                refine lv_goto (tgt := 37) hx hb dX7_judge_99 (by decide) ?_
                have := q_m9
                have := q_1
                try have := i_add (a := x5_37) (b := 1) (by omega) (by omega)
                exact ih_37 ((-9)) (x5_37 + 1) wn_11 H locs ls ⟨by omega, by omega⟩ (by omega) hI_11 hP hS (lv_sub hl [0, 1, 2, 3, 4, 5] rfl) E
            · have E := E.trans (if_neg c_12)
              have fc_12 := i_nle c_12
              rw [q_0] at fc_12
              refine lv_bipush (v := 99) hx hb dX7_judge_68 (by decide +kernel) ?_
              refine lv_goto (tgt := 77) hx hb dX7_judge_70 (by decide) ?_
              refine lv_aload_n hx hb dX7_judge_77 rfl (lv_at hl 4 rfl) ?_
              refine g7_row hx hb hts hin hown hK hP (hts (.fieldLink RX7 61 "LoadedForTheLaneModel" "row" "[I") (by decide +kernel)) dX7_judge_78 ?_
              refine lv_iload hx hb dX7_judge_81 (lv_at hl 0 rfl) ?_
              have ix_15 : vp_in x5_37 12 := ix_of (by omega) (by omega)
              refine l7_row (j := x5_37.toNatClampNeg) hx hb hK hP ix_15 rfl dX7_judge_83 ?_
              refine lv_icmp_ne (tgt := 92) hx hb dX7_judge_84 (by decide) (fun c_16 => ?_) (fun c_16 => ?_)
              · have E := E.trans (if_neg c_16)
                have fc_16 := i_ne c_16
                rw [q_99] at fc_16
                refine lv_iload hx hb dX7_judge_92 (lv_at hl 0 rfl) ?_
                refine lv_istore (lv' := [(4, .int x5_37), (5, .int x5_37), (3, .int (wn_4 1 0)), (2, .int (w 27 0)), (0, .ref (ad 0)), (1, .int a1)]) hx hb dX7_judge_94 hl (by decide) rfl (fun ls hl => ?_)
                refine lv_iinc (v := x5_37 + 1) (lv' := [(5, .int (x5_37 + 1)), (4, .int x5_37), (3, .int (wn_4 1 0)), (2, .int (w 27 0)), (0, .ref (ad 0)), (1, .int a1)]) hx hb dX7_judge_96 hl (k := 1) rfl rfl (by decide) rfl (fun ls hl => ?_)
                refine lv_goto (tgt := 37) hx hb dX7_judge_99 (by decide) ?_
                have := q_1
                try have := i_add (a := x5_37) (b := 1) (by omega) (by omega)
                exact ih_37 x5_37 (x5_37 + 1) wn_11 H locs ls ⟨by omega, by omega⟩ (by omega) hI_11 hP hS (lv_sub hl [0, 1, 2, 3, 4, 5] rfl) E
              · have E := E.trans (if_pos c_16)
                have fc_16 := i_eq c_16
                rw [q_99] at fc_16
                refine lv_bipush (v := (-9)) hx hb dX7_judge_87 (by decide +kernel) ?_
                refine lv_goto (tgt := 94) hx hb dX7_judge_89 (by decide) ?_
                refine lv_istore (lv' := [(4, .int (-9)), (5, .int x5_37), (3, .int (wn_4 1 0)), (2, .int (w 27 0)), (0, .ref (ad 0)), (1, .int a1)]) hx hb dX7_judge_94 hl (by decide) rfl (fun ls hl => ?_)
                refine lv_iinc (v := x5_37 + 1) (lv' := [(5, .int (x5_37 + 1)), (4, .int (-9)), (3, .int (wn_4 1 0)), (2, .int (w 27 0)), (0, .ref (ad 0)), (1, .int a1)]) hx hb dX7_judge_96 hl (k := 1) rfl rfl (by decide) rfl (fun ls hl => ?_)
                refine lv_goto (tgt := 37) hx hb dX7_judge_99 (by decide) ?_
                have := q_m9
                have := q_1
                try have := i_add (a := x5_37) (b := 1) (by omega) (by omega)
                exact ih_37 ((-9)) (x5_37 + 1) wn_11 H locs ls ⟨by omega, by omega⟩ (by omega) hI_11 hP hS (lv_sub hl [0, 1, 2, 3, 4, 5] rfl) E
    have := q_m9
    have := q_0
    exact L_37 13 ((-9)) 0 wn_4 H locs ls ⟨by omega, by omega⟩ (by omega) hI_4 hP hS (lv_sub hl [0, 1, 2, 3, 4, 5] rfl) E
  · have E := E.trans (if_pos c_2)
    have fc_2 := i_eq c_2
    rw [q_0] at fc_2
    refine lv_aload_n hx hb dX7_judge_7 rfl (lv_at hl 0 rfl) ?_
    refine lv_iconst (v := (-1)) hx hb dX7_judge_8 (by decide) ?_
    have := q_m1
    refine va_calli (va_runV (As := [.int (-1)]) (rest := []) ⟨hx, hb, hml, hown, hts⟩ (kX7_no l D cI ad w (-1) hd hI (by omega) (by omega)) (cwV 1 hts gX7_judge_X7_no rfl rfl rfl mdX7_no ⟨Nat.le_of_ble_eq_true rfl, Nat.le_of_ble_eq_true rfl⟩) (r7_pre hK hP) rfl rfl hl.1 rfl (lv_room (Nat.le_of_ble_eq_true rfl)) dX7_judge_9 ⟨Nat.zero_le _, Nat.zero_le _⟩) hS (fun _ _ h => h) (fun _ h => h) (fun rn_17 wn_17 t H locs ht hvm hp_17 hB hz hk hS => ?_)
    have hP : va_P D vwCl (RM cI ad wn_17) H := ht ▸ hB
    obtain ⟨hp_17, hI_17⟩ := hp_17
    have E := bnd_e E hp_17
    exact W.iret (v := rn_17) hx hb hr (fun t ht hW => ⟨⟨_, wn_17, rfl, ⟨E.symm, hI_17⟩, by beta_reduce; rw [ht]; exact hP⟩, hS.F ht⟩) hS.2.2 dX7_judge_12
abbrev rmX7_draw : Room := { frames := 0, cells := 0, slots := 0, locals := 0 }
set_option maxHeartbeats 4000000 in
set_option maxRecDepth 100000 in
theorem kX7_draw (l : Launch) (D : va_G) (cI : ClassId) (ad : Nat → Nat) (w : Nat → Nat → Int32) (a1 : Int32) (hd : RD ad) (hI : R7I w) (h1 : a1.toInt ≠ 0) : Met l yX7_draw wsX7_draw rmX7_draw (va_Pc [Value.ref (ad 0), Value.int a1] (fun U => va_P D vwCl (RM cI ad w) U.heap ∧ va_K D vwCl [(cI, .int)] U)) (va_Qi (fun r u => (r, u) = sX7_draw w a1 ∧ R7I u) (fun u t => va_P D vwCl (RM cI ad u) t.heap) (RA ad)) 0 0 (RA ad) := by
  refine Met.ofW (cc := cX7_draw) (maxL := 2) (ret := (some .int)) (by decide) rfl ?_
  intro p e s m args below meth c s₁ B hml hv
  obtain ⟨rfl, hP, hK⟩ := hv
  have hx := B.exec
  have hb := B.bytes
  have hr := B.returns
  have hts := atoms_spec (ws := wsX7_draw) B.pre
  have hown : s.vm.findClass RX7 = some m.cls := findClass_of_methodNamed B.named
  have hlocks := B.notSynchronized
  have hin : ∀ q ∈ wsX70, q ∈ wsX7_draw := by decide +kernel
  have hl := lv_entry ([.ref (ad 0), .int a1]) (n := 2) (Nat.le_of_ble_eq_true rfl)
  rw [lg_entry_eq]
  generalize (lg_sl ([.ref (ad 0), .int a1]) ++ List.replicate (2 - (lg_sl ([.ref (ad 0), .int a1])).length) Slot.unset).toArray = ls at hl ⊢
  have hl : lv_has ls 2 [(0, .ref (ad 0)), (1, .int a1)] := hl
  suffices hgo : ∀ (H : Heap) (locs : List Loc), va_P D vwCl (RM cI ad w) H → va_S (RA ad) s.heap H locs → W p l e (headSpec wsX7_draw rmX7_draw).room s m [Value.ref (ad 0), Value.int a1].toArray below meth c H locs 0 0 (MQ below (va_Qi (fun r u => (r, u) = sX7_draw w a1 ∧ R7I u) (fun u t => va_P D vwCl (RM cI ad u) t.heap) (RA ad)) [Value.ref (ad 0), Value.int a1].toArray s 0 0 (RA ad)) (F0 m 0 ls []) from hgo s.heap [] hP va_S.rf
  intro H locs hP hS
  have E := sX7_draw.eq_1 w a1
  refine lv_aload_n hx hb dX7_draw_0 rfl (lv_at hl 0 rfl) ?_
  refine lv_aload_n hx hb dX7_draw_1 rfl (lv_at hl 0 rfl) ?_
  refine g7_lots hx hb hts hin hown hK hP (hts (.fieldLink RX7 271 "LoadedForTheLaneModel" "lots" "I") (by decide +kernel)) dX7_draw_2 ?_
  refine lv_ldcw (own := RX7) (v := 1664525) hx hb hown (hts (.constant RX7 274 (1664525)) (by decide +kernel)) dX7_draw_5 ?_
  refine lv_imul hx hb dX7_draw_8 ?_
  refine lv_ldcw (own := RX7) (v := 1013904223) hx hb hown (hts (.constant RX7 275 (1013904223)) (by decide +kernel)) dX7_draw_9 ?_
  refine lv_iadd hx hb dX7_draw_12 ?_
  refine p7_lots hx hb hts hin hown hK hP hd hS (hts (.fieldLink RX7 271 "LoadedForTheLaneModel" "lots" "I") (by decide +kernel)) dX7_draw_13 (fun H locs hP hS => ?_)
  obtain ⟨wn_1, hwn_1⟩ : ∃ x, x = st w 28 0 (((w 28 0) * 1664525) + 1013904223) := ⟨_, rfl⟩
  rw [← hwn_1] at hP
  have E := bns_e E hwn_1
  have hI_1 : R7I wn_1 := by rw [hwn_1]; exact R7I_put_lots hI
  refine lv_aload_n hx hb dX7_draw_16 rfl (lv_at hl 0 rfl) ?_
  refine g7_lots hx hb hts hin hown hK hP (hts (.fieldLink RX7 271 "LoadedForTheLaneModel" "lots" "I") (by decide +kernel)) dX7_draw_17 ?_
  refine lv_ldcw (own := RX7) (v := 2147483647) hx hb hown (hts (.constant RX7 276 (2147483647)) (by decide +kernel)) dX7_draw_20 ?_
  refine lv_iand hx hb dX7_draw_23 ?_
  refine lv_sipush (v := 256) hx hb dX7_draw_24 (by decide +kernel) ?_
  refine lv_idiv hx hb dX7_draw_27 (by decide) ?_
  refine lv_iload_n hx hb dX7_draw_28 rfl (lv_at hl 1 rfl) ?_
  refine lv_irem hx hb dX7_draw_29 (i_ne0 (by omega)) ?_
  exact W.iret (v := (((wn_1 28 0) &&& 2147483647) / 256) - (((wn_1 28 0) &&& 2147483647) / 256) / a1 * a1) hx hb hr (fun t ht hW => ⟨⟨_, wn_1, rfl, ⟨E.symm, hI_1⟩, by beta_reduce; rw [ht]; exact hP⟩, hS.F ht⟩) hS.2.2 dX7_draw_30
abbrev rmX7_lots : Room := { frames := 7, cells := 0, slots := 0, locals := 159 }
set_option maxHeartbeats 4000000 in
set_option maxRecDepth 100000 in
theorem kX7_lots (l : Launch) (D : va_G) (cI : ClassId) (ad : Nat → Nat) (w : Nat → Nat → Int32) (a1 : Int32) (a2 : Int32) (a3 : Int32) (hd : RD ad) (hI : R7I w)  : Met l yX7_lots wsX7_lots rmX7_lots (va_Pc [Value.ref (ad 0), Value.int a1, Value.int a2, Value.int a3] (fun U => va_P D vwCl (RM cI ad w) U.heap ∧ va_K D vwCl [(cI, .int)] U)) (va_Qi (fun r u => (r, u) = sX7_lots w a1 a2 a3) (fun u t => va_P D vwCl (RM cI ad u) t.heap) (RA ad)) 0 0 (RA ad) := by
  refine Met.ofW (cc := cX7_lots) (maxL := 8) (ret := (some .int)) (by decide) rfl ?_
  intro p e s m args below meth c s₁ B hml hv
  obtain ⟨rfl, hP, hK⟩ := hv
  have hx := B.exec
  have hb := B.bytes
  have hr := B.returns
  have hts := atoms_spec (ws := wsX7_lots) B.pre
  have hown : s.vm.findClass RX7 = some m.cls := findClass_of_methodNamed B.named
  have hlocks := B.notSynchronized
  have hin : ∀ q ∈ wsX70, q ∈ wsX7_lots := by decide +kernel
  have hl := lv_entry ([.ref (ad 0), .int a1, .int a2, .int a3]) (n := 8) (Nat.le_of_ble_eq_true rfl)
  rw [lg_entry_eq]
  generalize (lg_sl ([.ref (ad 0), .int a1, .int a2, .int a3]) ++ List.replicate (8 - (lg_sl ([.ref (ad 0), .int a1, .int a2, .int a3])).length) Slot.unset).toArray = ls at hl ⊢
  have hl : lv_has ls 8 [(0, .ref (ad 0)), (1, .int a1), (2, .int a2), (3, .int a3)] := hl
  suffices hgo : ∀ (H : Heap) (locs : List Loc), va_P D vwCl (RM cI ad w) H → va_S (RA ad) s.heap H locs → W p l e (headSpec wsX7_lots rmX7_lots).room s m [Value.ref (ad 0), Value.int a1, Value.int a2, Value.int a3].toArray below meth c H locs 0 0 (MQ below (va_Qi (fun r u => (r, u) = sX7_lots w a1 a2 a3) (fun u t => va_P D vwCl (RM cI ad u) t.heap) (RA ad)) [Value.ref (ad 0), Value.int a1, Value.int a2, Value.int a3].toArray s 0 0 (RA ad)) (F0 m 0 ls []) from hgo s.heap [] hP va_S.rf
  intro H locs hP hS
  have E := sX7_lots.eq_1 w a1 a2 a3
  refine lv_iload_n hx hb dX7_lots_0 rfl (lv_at hl 1 rfl) ?_
  refine vp_callSi (va_Run.run (va_runS (As := [.int a1]) (rest := []) ⟨hx, hb, hml, hown, hts⟩ (kX7_isWay l a1) (va_cwS 1 hts gX7_lots_X7_isWay rfl rfl rfl mdX7_isWay ⟨Nat.le_of_ble_eq_true rfl, Nat.le_of_ble_eq_true rfl⟩) s_pre rfl rfl hl.1 rfl (lv_room (Nat.le_of_ble_eq_true rfl)) dX7_lots_1 ⟨Nat.zero_le _, Nat.zero_le _⟩)) (fun r_1 hr_1 => ?_)
  obtain ⟨rfl, hz_1⟩ := hr_1
  refine lv_if_ne (tgt := 11) hx hb dX7_lots_4 (by decide) (fun c_2 => ?_) (fun c_2 => ?_)
  · have E := E.trans (if_neg c_2)
    have fc_2 := i_ne c_2
    rw [q_0] at fc_2
    have gc_2 := fX7_isWay c_2
    refine lv_iload_n hx hb dX7_lots_11 rfl (lv_at hl 2 rfl) ?_
    refine lv_iconst (v := 1) hx hb dX7_lots_12 (by decide) ?_
    refine lv_bipush (v := 30) hx hb dX7_lots_13 (by decide +kernel) ?_
    refine vp_callSi (va_Run.run (va_runS (As := [.int a2, .int 1, .int 30]) (rest := []) ⟨hx, hb, hml, hown, hts⟩ (kX7_bound l a2 1 30) (va_cwS 3 hts gX7_lots_X7_bound rfl rfl rfl mdX7_bound ⟨Nat.le_of_ble_eq_true rfl, Nat.le_of_ble_eq_true rfl⟩) s_pre rfl rfl hl.1 rfl (lv_room (Nat.le_of_ble_eq_true rfl)) dX7_lots_15 ⟨Nat.zero_le _, Nat.zero_le _⟩)) (fun r_3 hr_3 => ?_)
    subst hr_3
    have rf_3 := rX7_bound a2 1 30
    have := q_1
    have := q_30
    refine lv_istore (lv' := [(4, .int (sX7_bound a2 1 30)), (0, .ref (ad 0)), (1, .int a1), (2, .int a2), (3, .int a3)]) hx hb dX7_lots_18 hl (by decide) rfl (fun ls hl => ?_)
    refine lv_iload hx hb dX7_lots_20 (lv_at hl 0 rfl) ?_
    refine lv_if_eq (tgt := 32) hx hb dX7_lots_22 (by decide) (fun c_4 => ?_) (fun c_4 => ?_)
    · have E := E.trans (if_pos c_4)
      have fc_4 := i_eq c_4
      rw [q_0] at fc_4
      refine lv_aload_n hx hb dX7_lots_32 rfl (lv_at hl 1 rfl) ?_
      refine lv_iconst (v := 1) hx hb dX7_lots_33 (by decide) ?_
      refine lv_iconst (v := 1) hx hb dX7_lots_34 (by decide) ?_
      have := q_1
      refine va_callv (va_runV (As := [.int 1, .int 1]) (rest := []) ⟨hx, hb, hml, hown, hts⟩ (kX7_passesAll l D cI ad w 1 1 hd (by omega) (by omega) (Or.inr rfl)) (cwV 2 hts gX7_lots_X7_passesAll rfl rfl rfl mdX7_passesAll ⟨Nat.le_of_ble_eq_true rfl, Nat.le_of_ble_eq_true rfl⟩) (r7_pre hK hP) rfl rfl hl.1 rfl (lv_room (Nat.le_of_ble_eq_true rfl)) dX7_lots_35 ⟨Nat.zero_le _, Nat.zero_le _⟩) hS (fun _ _ h => h) (fun _ h => h) (fun wn_5 t H locs ht hvm hp_5 hB hz hk hS => ?_)
      have hP : va_P D vwCl (RM cI ad wn_5) H := ht ▸ hB
      have E := bns_e E hp_5
      have e_5 := fun k h1 h2 h3 => (congrFun hp_5 k).trans (iX7_save (w := w) (a := 1) k h1 h2 h3)
      have hI_5 : R7I wn_5 := R7I_eq hI (e_5 10 (by decide) (by decide) (by decide)) (e_5 11 (by decide) (by decide) (by decide)) (e_5 16 (by decide) (by decide) (by decide)) (e_5 17 (by decide) (by decide) (by decide)) (e_5 18 (by decide) (by decide) (by decide)) (e_5 27 (by decide) (by decide) (by decide))
      have el_5 : (wn_5 11 0).toInt = (w 11 0).toInt := by rw [e_5 11 (by decide) (by decide) (by decide)]
      have es_5 : (wn_5 18 0).toInt = (w 18 0).toInt := by rw [e_5 18 (by decide) (by decide) (by decide)]
      refine lv_aload_n hx hb dX7_lots_38 rfl (lv_at hl 1 rfl) ?_
      refine lv_iload_n hx hb dX7_lots_39 rfl (lv_at hl 4 rfl) ?_
      refine p7_lots hx hb hts hin hown hK hP hd hS (hts (.fieldLink RX7 271 "LoadedForTheLaneModel" "lots" "I") (by decide +kernel)) dX7_lots_40 (fun H locs hP hS => ?_)
      obtain ⟨wn_6, hwn_6⟩ : ∃ x, x = st wn_5 28 0 a3 := ⟨_, rfl⟩
      rw [← hwn_6] at hP
      have E := bns_e E hwn_6
      have hI_6 : R7I wn_6 := by rw [hwn_6]; exact R7I_put_lots hI_5
      refine lv_iconst (v := 0) hx hb dX7_lots_43 (by decide) ?_
      refine lv_istore (lv' := [(5, .int 0), (4, .int (sX7_bound a2 1 30)), (0, .ref (ad 0)), (1, .int a1), (2, .int a2), (3, .int a3)]) hx hb dX7_lots_44 hl (by decide) rfl (fun ls hl => ?_)
      refine lv_iconst (v := 0) hx hb dX7_lots_46 (by decide) ?_
      refine lv_istore (lv' := [(6, .int 0), (5, .int 0), (4, .int (sX7_bound a2 1 30)), (0, .ref (ad 0)), (1, .int a1), (2, .int a2), (3, .int a3)]) hx hb dX7_lots_47 hl (by decide) rfl (fun ls hl => ?_)
      have L_49 : ∀ (n_49 : Nat) (x5_49 : Int32) (x6_49 : Int32) (w_49 : Nat → Nat → Int32) (H : Heap) (locs : List Loc) (ls : Array Slot), (0 ≤ x6_49.toInt ∧ x6_49.toInt ≤ 30) → (30 - x6_49.toInt < (n_49 : Int)) → R7I w_49 → va_P D vwCl (RM cI ad w_49) H → va_S (RA ad) s.heap H locs → lv_has ls 8 [(6, .int x6_49), (5, .int x5_49), (0, .ref (ad 0)), (1, .int a1), (2, .int a2)] → sX7_lots w a1 a2 a3 = sX7_lots_49 a1 a2 n_49 x5_49 x6_49 w_49 → W p l e (headSpec wsX7_lots rmX7_lots).room s m [Value.ref (ad 0), Value.int a1, Value.int a2, Value.int a3].toArray below meth c H locs 0 0 (MQ below (va_Qi (fun r u => (r, u) = sX7_lots w a1 a2 a3) (fun u t => va_P D vwCl (RM cI ad u) t.heap) (RA ad)) [Value.ref (ad 0), Value.int a1, Value.int a2, Value.int a3].toArray s 0 0 (RA ad)) (F0 m 49 ls []) := by
        intro n_49
        induction n_49 with
        | zero =>
          intro x5_49 x6_49 w_49 H locs ls hinv hm
          obtain ⟨v0_49, v1_49⟩ := hinv
          exact absurd hm (by omega)
        | succ n_49 ih_49 =>
          intro x5_49 x6_49 w_49 H locs ls hinv hm_49 hI_49 hP hS hl E
          obtain ⟨v0_49, v1_49⟩ := hinv
          have E := E.trans (sX7_lots_49.eq_2 ..)
          refine lv_iload hx hb dX7_lots_49 (lv_at hl 0 rfl) ?_
          refine lv_iload_n hx hb dX7_lots_51 rfl (lv_at hl 4 rfl) ?_
          refine lv_icmp_ge (tgt := 125) hx hb dX7_lots_52 (by decide) (fun c_7 => ?_) (fun c_7 => ?_)
          · have E := E.trans (if_pos c_7)
            have fc_7 := i_le c_7
            refine lv_aload_n hx hb dX7_lots_125 rfl (lv_at hl 2 rfl) ?_
            refine lv_iconst (v := 1) hx hb dX7_lots_126 (by decide) ?_
            refine lv_iconst (v := 0) hx hb dX7_lots_127 (by decide) ?_
            have := q_1
            have := q_0
            refine va_callv (va_runV (As := [.int 1, .int 0]) (rest := []) ⟨hx, hb, hml, hown, hts⟩ (kX7_passesAll l D cI ad w_49 1 0 hd (by omega) (by omega) (Or.inl rfl)) (cwV 2 hts gX7_lots_X7_passesAll rfl rfl rfl mdX7_passesAll ⟨Nat.le_of_ble_eq_true rfl, Nat.le_of_ble_eq_true rfl⟩) (r7_pre hK hP) rfl rfl hl.1 rfl (lv_room (Nat.le_of_ble_eq_true rfl)) dX7_lots_128 ⟨Nat.zero_le _, Nat.zero_le _⟩) hS (fun _ _ h => h) (fun _ h => h) (fun wn_8 t H locs ht hvm hp_8 hB hz hk hS => ?_)
            have hP : va_P D vwCl (RM cI ad wn_8) H := ht ▸ hB
            have E := bns_e E hp_8
            refine lv_iload hx hb dX7_lots_131 (lv_at hl 1 rfl) ?_
            exact W.iret (v := x5_49) hx hb hr (fun t ht hW => ⟨⟨_, wn_8, rfl, E.symm, by beta_reduce; rw [ht]; exact hP⟩, hS.F ht⟩) hS.2.2 dX7_lots_133
          · have E := E.trans (if_neg c_7)
            have fc_7 := i_nle c_7
            refine lv_iconst (v := 0) hx hb dX7_lots_55 (by decide) ?_
            refine lv_istore (lv' := [(7, .int 0), (6, .int x6_49), (5, .int x5_49), (0, .ref (ad 0)), (1, .int a1), (2, .int a2)]) hx hb dX7_lots_56 hl (by decide) rfl (fun ls hl => ?_)
            have L_58 : ∀ (n_58 : Nat) (x7_58 : Int32) (w_58 : Nat → Nat → Int32) (H : Heap) (locs : List Loc) (ls : Array Slot), (0 ≤ x7_58.toInt ∧ x7_58.toInt ≤ 12) → (12 - x7_58.toInt < (n_58 : Int)) → R7I w_58 → va_P D vwCl (RM cI ad w_58) H → va_S (RA ad) s.heap H locs → lv_has ls 8 [(7, .int x7_58), (6, .int x6_49), (5, .int x5_49), (0, .ref (ad 0)), (1, .int a1), (2, .int a2)] → sX7_lots w a1 a2 a3 = sX7_lots_58 a1 x5_49 x6_49 (sX7_lots_49 a1 a2 n_49) n_58 x7_58 w_58 → W p l e (headSpec wsX7_lots rmX7_lots).room s m [Value.ref (ad 0), Value.int a1, Value.int a2, Value.int a3].toArray below meth c H locs 0 0 (MQ below (va_Qi (fun r u => (r, u) = sX7_lots w a1 a2 a3) (fun u t => va_P D vwCl (RM cI ad u) t.heap) (RA ad)) [Value.ref (ad 0), Value.int a1, Value.int a2, Value.int a3].toArray s 0 0 (RA ad)) (F0 m 58 ls []) := by
              intro n_58
              induction n_58 with
              | zero =>
                intro x7_58 w_58 H locs ls hinv hm
                obtain ⟨v0_58, v1_58⟩ := hinv
                exact absurd hm (by omega)
              | succ n_58 ih_58 =>
                intro x7_58 w_58 H locs ls hinv hm_58 hI_58 hP hS hl E
                obtain ⟨v0_58, v1_58⟩ := hinv
                have E := E.trans (sX7_lots_58.eq_2 ..)
                refine lv_iload hx hb dX7_lots_58 (lv_at hl 0 rfl) ?_
                refine lv_aload_n hx hb dX7_lots_60 rfl (lv_at hl 3 rfl) ?_
                refine g7_layers hx hb hts hin hown hK hP (hts (.fieldLink RX7 67 "LoadedForTheLaneModel" "layers" "I") (by decide +kernel)) dX7_lots_61 ?_
                have f_9 := R7I_layers hI_58
                refine lv_icmp_ge (tgt := 101) hx hb dX7_lots_64 (by decide) (fun c_10 => ?_) (fun c_10 => ?_)
                · have E := E.trans (if_pos c_10)
                  have fc_10 := i_le c_10
                  refine lv_iload hx hb dX7_lots_101 (lv_at hl 2 rfl) ?_
                  refine lv_aload_n hx hb dX7_lots_103 rfl (lv_at hl 3 rfl) ?_
                  refine lv_iload_n hx hb dX7_lots_104 rfl (lv_at hl 4 rfl) ?_
                  refine va_calli (va_runV (As := [.int a1]) (rest := [.int x5_49]) ⟨hx, hb, hml, hown, hts⟩ (kX7_doesHold l D cI ad w_58 a1 hd hI_58 (by omega) (by omega)) (cwV 1 hts gX7_lots_X7_doesHold rfl rfl rfl mdX7_doesHold ⟨Nat.le_of_ble_eq_true rfl, Nat.le_of_ble_eq_true rfl⟩) (r7_pre hK hP) rfl rfl hl.1 rfl (lv_room (Nat.le_of_ble_eq_true rfl)) dX7_lots_105 ⟨Nat.zero_le _, Nat.zero_le _⟩) hS (fun _ _ h => h) (fun _ h => h) (fun rn_11 wn_11 t H locs ht hvm hp_11 hB hz hk hS => ?_)
                  have hP : va_P D vwCl (RM cI ad wn_11) H := ht ▸ hB
                  obtain ⟨hp_11, hz_11, hI_11, hq0_11⟩ := hp_11
                  have E := bnd_e E hp_11
                  have hzi_11 := z_int hz_11
                  refine lv_if_eq (tgt := 115) hx hb dX7_lots_108 (by decide) (fun c_12 => ?_) (fun c_12 => ?_)
                  · have E := E.trans (if_pos c_12)
                    have fc_12 := i_eq c_12
                    rw [q_0] at fc_12
                    refine lv_iconst (v := 0) hx hb dX7_lots_115 (by decide) ?_
                    refine lv_iadd hx hb dX7_lots_116 ?_
                    refine lv_istore (lv' := [(5, .int (x5_49 + 0)), (7, .int x7_58), (6, .int x6_49), (0, .ref (ad 0)), (1, .int a1), (2, .int a2)]) hx hb dX7_lots_117 hl (by decide) rfl (fun ls hl => ?_)
                    refine lv_iinc (v := x6_49 + 1) (lv' := [(6, .int (x6_49 + 1)), (5, .int (x5_49 + 0)), (7, .int x7_58), (0, .ref (ad 0)), (1, .int a1), (2, .int a2)]) hx hb dX7_lots_119 hl (k := 2) rfl rfl (by decide) rfl (fun ls hl => ?_)
                    refine lv_goto (tgt := 49) hx hb dX7_lots_122 (by decide) ?_
                    have := q_0
                    try have := i_add (a := x5_49) (b := 0) (by omega) (by omega)
                    have := q_1
                    try have := i_add (a := x6_49) (b := 1) (by omega) (by omega)
                    exact ih_49 (x5_49 + 0) (x6_49 + 1) wn_11 H locs ls ⟨by omega, by omega⟩ (by omega) hI_11 hP hS (lv_sub hl [0, 1, 3, 4, 5] rfl) E
                  · have E := E.trans (if_neg c_12)
                    have fc_12 := i_ne c_12
                    rw [q_0] at fc_12
                    refine lv_iconst (v := 1) hx hb dX7_lots_111 (by decide) ?_
                    refine lv_goto (tgt := 116) hx hb dX7_lots_112 (by decide) ?_
                    refine lv_iadd hx hb dX7_lots_116 ?_
                    refine lv_istore (lv' := [(5, .int (x5_49 + 1)), (7, .int x7_58), (6, .int x6_49), (0, .ref (ad 0)), (1, .int a1), (2, .int a2)]) hx hb dX7_lots_117 hl (by decide) rfl (fun ls hl => ?_)
                    refine lv_iinc (v := x6_49 + 1) (lv' := [(6, .int (x6_49 + 1)), (5, .int (x5_49 + 1)), (7, .int x7_58), (0, .ref (ad 0)), (1, .int a1), (2, .int a2)]) hx hb dX7_lots_119 hl (k := 2) rfl rfl (by decide) rfl (fun ls hl => ?_)
                    refine lv_goto (tgt := 49) hx hb dX7_lots_122 (by decide) ?_
                    have := q_1
                    try have := i_add (a := x5_49) (b := 1) (by omega) (by omega)
                    try have := i_add (a := x6_49) (b := 1) (by omega) (by omega)
                    exact ih_49 (x5_49 + 1) (x6_49 + 1) wn_11 H locs ls ⟨by omega, by omega⟩ (by omega) hI_11 hP hS (lv_sub hl [0, 1, 3, 4, 5] rfl) E
                · have E := E.trans (if_neg c_10)
                  have fc_10 := i_nle c_10
                  refine lv_aload_n hx hb dX7_lots_67 rfl (lv_at hl 3 rfl) ?_
                  refine g7_out hx hb hts hin hown hK hP (hts (.fieldLink RX7 22 "LoadedForTheLaneModel" "out" "[I") (by decide +kernel)) dX7_lots_68 ?_
                  refine lv_iload hx hb dX7_lots_71 (lv_at hl 0 rfl) ?_
                  refine lv_aload_n hx hb dX7_lots_73 rfl (lv_at hl 3 rfl) ?_
                  refine lv_bipush (v := 10) hx hb dX7_lots_74 (by decide +kernel) ?_
                  have := q_10
                  refine va_calli (va_runV (As := [.int 10]) (rest := [.int x7_58, .ref (ad 5)]) ⟨hx, hb, hml, hown, hts⟩ (kX7_draw l D cI ad w_58 10 hd hI_58 (by omega)) (cwV 1 hts gX7_lots_X7_draw rfl rfl rfl mdX7_draw ⟨Nat.le_of_ble_eq_true rfl, Nat.le_of_ble_eq_true rfl⟩) (r7_pre hK hP) rfl rfl hl.1 rfl (lv_room (Nat.le_of_ble_eq_true rfl)) dX7_lots_76 ⟨Nat.zero_le _, Nat.zero_le _⟩) hS (fun _ _ h => h) (fun _ h => h) (fun rn_13 wn_13 t H locs ht hvm hp_13 hB hz hk hS => ?_)
                  have hP : va_P D vwCl (RM cI ad wn_13) H := ht ▸ hB
                  obtain ⟨hp_13, hI_13⟩ := hp_13
                  have E := bnd_e E hp_13
                  have ix_14 : vp_in x7_58 12 := ix_of (by omega) (by omega)
                  refine a7_out (j := x7_58.toNatClampNeg) hx hb hK hP hd hS ix_14 rfl dX7_lots_79 (fun H locs hP hS => ?_)
                  obtain ⟨wn_14, hwn_14⟩ : ∃ x, x = st wn_13 4 (x7_58.toNatClampNeg) rn_13 := ⟨_, rfl⟩
                  rw [← hwn_14] at hP
                  have E := bns_e E hwn_14
                  have hI_14 : R7I wn_14 := by rw [hwn_14]; exact R7I_put_out hI_13
                  refine lv_aload_n hx hb dX7_lots_80 rfl (lv_at hl 3 rfl) ?_
                  refine g7_lean hx hb hts hin hown hK hP (hts (.fieldLink RX7 25 "LoadedForTheLaneModel" "lean" "[I") (by decide +kernel)) dX7_lots_81 ?_
                  refine lv_iload hx hb dX7_lots_84 (lv_at hl 0 rfl) ?_
                  refine lv_aload_n hx hb dX7_lots_86 rfl (lv_at hl 3 rfl) ?_
                  refine lv_bipush (v := 11) hx hb dX7_lots_87 (by decide +kernel) ?_
                  have := q_11
                  refine va_calli (va_runV (As := [.int 11]) (rest := [.int x7_58, .ref (ad 6)]) ⟨hx, hb, hml, hown, hts⟩ (kX7_draw l D cI ad wn_14 11 hd hI_14 (by omega)) (cwV 1 hts gX7_lots_X7_draw rfl rfl rfl mdX7_draw ⟨Nat.le_of_ble_eq_true rfl, Nat.le_of_ble_eq_true rfl⟩) (r7_pre hK hP) rfl rfl hl.1 rfl (lv_room (Nat.le_of_ble_eq_true rfl)) dX7_lots_89 ⟨Nat.zero_le _, Nat.zero_le _⟩) hS (fun _ _ h => h) (fun _ h => h) (fun rn_15 wn_15 t H locs ht hvm hp_15 hB hz hk hS => ?_)
                  have hP : va_P D vwCl (RM cI ad wn_15) H := ht ▸ hB
                  obtain ⟨hp_15, hI_15⟩ := hp_15
                  have E := bnd_e E hp_15
                  refine lv_iconst (v := 5) hx hb dX7_lots_92 (by decide) ?_
                  refine lv_isub hx hb dX7_lots_93 ?_
                  have ix_16 : vp_in x7_58 12 := ix_of (by omega) (by omega)
                  refine a7_lean (j := x7_58.toNatClampNeg) hx hb hK hP hd hS ix_16 rfl dX7_lots_94 (fun H locs hP hS => ?_)
                  obtain ⟨wn_16, hwn_16⟩ : ∃ x, x = st wn_15 5 (x7_58.toNatClampNeg) (rn_15 - 5) := ⟨_, rfl⟩
                  rw [← hwn_16] at hP
                  have E := bns_e E hwn_16
                  have hI_16 : R7I wn_16 := by rw [hwn_16]; exact R7I_put_lean hI_15
                  refine lv_iinc (v := x7_58 + 1) (lv' := [(7, .int (x7_58 + 1)), (6, .int x6_49), (5, .int x5_49), (0, .ref (ad 0)), (1, .int a1), (2, .int a2)]) hx hb dX7_lots_95 hl (k := 0) rfl rfl (by decide) rfl (fun ls hl => ?_)
                  refine lv_goto (tgt := 58) hx hb dX7_lots_98 (by decide) ?_
                  have := q_1
                  try have := i_add (a := x7_58) (b := 1) (by omega) (by omega)
                  exact ih_58 (x7_58 + 1) wn_16 H locs ls ⟨by omega, by omega⟩ (by omega) hI_16 hP hS (lv_sub hl [0, 1, 2, 3, 4, 5] rfl) E
            have := q_0
            exact L_58 13 0 w_49 H locs ls ⟨by omega, by omega⟩ (by omega) hI_49 hP hS (lv_sub hl [0, 1, 2, 3, 4, 5] rfl) E
      have := q_0
      exact L_49 31 0 0 wn_6 H locs ls ⟨by omega, by omega⟩ (by omega) hI_6 hP hS (lv_sub hl [0, 1, 3, 4, 5] rfl) E
    · have E := E.trans (if_neg c_4)
      have fc_4 := i_ne c_4
      rw [q_0] at fc_4
      refine lv_aload_n hx hb dX7_lots_25 rfl (lv_at hl 1 rfl) ?_
      refine lv_iload hx hb dX7_lots_26 (lv_at hl 0 rfl) ?_
      refine va_calli (va_runV (As := [.int (sX7_bound a2 1 30)]) (rest := []) ⟨hx, hb, hml, hown, hts⟩ (kX7_no l D cI ad w (sX7_bound a2 1 30) hd hI (by omega) (by omega)) (cwV 1 hts gX7_lots_X7_no rfl rfl rfl mdX7_no ⟨Nat.le_of_ble_eq_true rfl, Nat.le_of_ble_eq_true rfl⟩) (r7_pre hK hP) rfl rfl hl.1 rfl (lv_room (Nat.le_of_ble_eq_true rfl)) dX7_lots_28 ⟨Nat.zero_le _, Nat.zero_le _⟩) hS (fun _ _ h => h) (fun _ h => h) (fun rn_17 wn_17 t H locs ht hvm hp_17 hB hz hk hS => ?_)
      have hP : va_P D vwCl (RM cI ad wn_17) H := ht ▸ hB
      obtain ⟨hp_17, hI_17⟩ := hp_17
      have E := bnd_e E hp_17
      exact W.iret (v := rn_17) hx hb hr (fun t ht hW => ⟨⟨_, wn_17, rfl, E.symm, by beta_reduce; rw [ht]; exact hP⟩, hS.F ht⟩) hS.2.2 dX7_lots_31
  · have E := E.trans (if_pos c_2)
    have fc_2 := i_eq c_2
    rw [q_0] at fc_2
    refine lv_iconst (v := (-1)) hx hb dX7_lots_7 (by decide) ?_
    refine lv_goto (tgt := 18) hx hb dX7_lots_8 (by decide) ?_
    refine lv_istore (lv' := [(4, .int (-1)), (0, .ref (ad 0)), (1, .int a1), (2, .int a2), (3, .int a3)]) hx hb dX7_lots_18 hl (by decide) rfl (fun ls hl => ?_)
    refine lv_iload hx hb dX7_lots_20 (lv_at hl 0 rfl) ?_
    refine lv_if_eq (tgt := 32) hx hb dX7_lots_22 (by decide) (fun z => absurd z (by decide)) (fun _ => ?_)
    refine lv_aload_n hx hb dX7_lots_25 rfl (lv_at hl 1 rfl) ?_
    refine lv_iload hx hb dX7_lots_26 (lv_at hl 0 rfl) ?_
    have := q_m1
    refine va_calli (va_runV (As := [.int (-1)]) (rest := []) ⟨hx, hb, hml, hown, hts⟩ (kX7_no l D cI ad w (-1) hd hI (by omega) (by omega)) (cwV 1 hts gX7_lots_X7_no rfl rfl rfl mdX7_no ⟨Nat.le_of_ble_eq_true rfl, Nat.le_of_ble_eq_true rfl⟩) (r7_pre hK hP) rfl rfl hl.1 rfl (lv_room (Nat.le_of_ble_eq_true rfl)) dX7_lots_28 ⟨Nat.zero_le _, Nat.zero_le _⟩) hS (fun _ _ h => h) (fun _ h => h) (fun rn_18 wn_18 t H locs ht hvm hp_18 hB hz hk hS => ?_)
    have hP : va_P D vwCl (RM cI ad wn_18) H := ht ▸ hB
    obtain ⟨hp_18, hI_18⟩ := hp_18
    have E := bnd_e E hp_18
    exact W.iret (v := rn_18) hx hb hr (fun t ht hW => ⟨⟨_, wn_18, rfl, E.symm, by beta_reduce; rw [ht]; exact hP⟩, hS.F ht⟩) hS.2.2 dX7_lots_31
