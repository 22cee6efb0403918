abbrev rmX7_readsPiece : Room := { frames := 2, cells := 0, slots := 0, locals := 47 }
set_option maxHeartbeats 4000000 in
set_option maxRecDepth 100000 in
theorem kX7_readsPiece (l : Launch) (D : va_G) (cI : ClassId) (ad : Nat → Nat) (w : Nat → Nat → Int32) (a1 : Int32) (hd : RD ad) (hI : R7I w) (h1 : 0 ≤ a1.toInt) (h2 : a1.toInt ≤ 188) : Met l yX7_readsPiece wsX7_readsPiece rmX7_readsPiece (va_Pc [Value.ref (ad 0), Value.int a1] (fun U => va_P D vwCl (RM cI ad w) U.heap ∧ va_K D vwCl [(cI, .int)] U)) (va_Qi (fun r u => (r, u) = sX7_readsPiece w a1 ∧ (r = 0 ∨ r = 1) ∧ R7I u ∧ ((w 17 0).toInt ≤ (u 17 0).toInt) ∧ ((u 16 0).toInt = (w 16 0).toInt) ∧ ((u 18 0).toInt = (w 18 0).toInt) ∧ ((u 11 0).toInt = (w 11 0).toInt)) (fun u t => va_P D vwCl (RM cI ad u) t.heap) (RA ad)) 0 0 (RA ad) := by
  refine Met.ofW (cc := cX7_readsPiece) (maxL := 2) (ret := (some .boolean)) (by decide) rfl ?_
  intro p e s m args below meth c s₁ B hml hv
  obtain ⟨rfl, hP, hK⟩ := hv
  have hx := B.exec
  have hb := B.bytes
  have hr := B.returns
  have hts := atoms_spec (ws := wsX7_readsPiece) B.pre
  have hown : s.vm.findClass RX7 = some m.cls := findClass_of_methodNamed B.named
  have hlocks := B.notSynchronized
  have hin : ∀ q ∈ wsX70, q ∈ wsX7_readsPiece := by decide +kernel
  have hl := lv_entry ([.ref (ad 0), .int a1]) (n := 2) (Nat.le_of_ble_eq_true rfl)
  rw [lg_entry_eq]
  generalize (lg_sl ([.ref (ad 0), .int a1]) ++ List.replicate (2 - (lg_sl ([.ref (ad 0), .int a1])).length) Slot.unset).toArray = ls at hl ⊢
  have hl : lv_has ls 2 [(0, .ref (ad 0)), (1, .int a1)] := hl
  suffices hgo : ∀ (H : Heap) (locs : List Loc), va_P D vwCl (RM cI ad w) H → va_S (RA ad) s.heap H locs → W p l e (headSpec wsX7_readsPiece rmX7_readsPiece).room s m [Value.ref (ad 0), Value.int a1].toArray below meth c H locs 0 0 (MQ below (va_Qi (fun r u => (r, u) = sX7_readsPiece w a1 ∧ (r = 0 ∨ r = 1) ∧ R7I u ∧ ((w 17 0).toInt ≤ (u 17 0).toInt) ∧ ((u 16 0).toInt = (w 16 0).toInt) ∧ ((u 18 0).toInt = (w 18 0).toInt) ∧ ((u 11 0).toInt = (w 11 0).toInt)) (fun u t => va_P D vwCl (RM cI ad u) t.heap) (RA ad)) [Value.ref (ad 0), Value.int a1].toArray s 0 0 (RA ad)) (F0 m 0 ls []) from hgo s.heap [] hP va_S.rf
  intro H locs hP hS
  have E := sX7_readsPiece.eq_1 w a1
  refine lv_aload_n hx hb dX7_readsPiece_0 rfl (lv_at hl 0 rfl) ?_
  refine lv_iload_n hx hb dX7_readsPiece_1 rfl (lv_at hl 1 rfl) ?_
  refine lv_iconst (v := 1) hx hb dX7_readsPiece_2 (by decide) ?_
  refine lv_iconst (v := 1) hx hb dX7_readsPiece_3 (by decide) ?_
  have := q_1
  refine va_calli (va_runV (As := [.int a1, .int 1, .int 1]) (rest := []) ⟨hx, hb, hml, hown, hts⟩ (kX7_readsNumber l D cI ad w a1 1 1 hd hI (by omega) (by omega)) (cwV 3 hts gX7_readsPiece_X7_readsNumber rfl rfl rfl mdX7_readsNumber ⟨Nat.le_of_ble_eq_true rfl, Nat.le_of_ble_eq_true rfl⟩) (r7_pre hK hP) rfl rfl hl.1 rfl (lv_room (Nat.le_of_ble_eq_true rfl)) dX7_readsPiece_4 ⟨Nat.zero_le _, Nat.zero_le _⟩) hS (fun _ _ h => h) (fun _ h => h) (fun rn_1 wn_1 t H locs ht hvm hp_1 hB hz hfr hS => ?_)
  have hP : va_P D vwCl (RM cI ad wn_1) H := ht ▸ hB
  obtain ⟨hp_1, hz_1, hI_1, hq0_1, hq1_1, hq2_1, hq3_1⟩ := hp_1
  have E := bnd_e E hp_1
  have hzi_1 := z_int hz_1
  refine lv_if_ne (tgt := 12) hx hb dX7_readsPiece_7 (by decide) (fun c_2 => ?_) (fun c_2 => ?_)
  · have E := E.trans (if_neg c_2)
    have fc_2 := i_ne c_2
    rw [q_0] at fc_2
    refine lv_aload_n hx hb dX7_readsPiece_12 rfl (lv_at hl 0 rfl) ?_
    refine g7_told hx hb hts hin hown hK hP (hts (.fieldLink RX7 52 "LoadedForTheLaneModel" "told" "[I") (by decide +kernel)) dX7_readsPiece_13 ?_
    refine lv_iload_n hx hb dX7_readsPiece_16 rfl (lv_at hl 1 rfl) ?_
    refine lv_iconst (v := 1) hx hb dX7_readsPiece_17 (by decide) ?_
    refine lv_iadd hx hb dX7_readsPiece_18 ?_
    refine lv_aload_n hx hb dX7_readsPiece_19 rfl (lv_at hl 0 rfl) ?_
    refine vp_callSi (va_Run.run (va_runV (As := []) (rest := [.int (a1 + 1), .ref (ad 15)]) ⟨hx, hb, hml, hown, hts⟩ (kX7_next l D cI ad wn_1 hI_1) (cwV 0 hts gX7_readsPiece_X7_next rfl rfl rfl mdX7_next ⟨Nat.le_of_ble_eq_true rfl, Nat.le_of_ble_eq_true rfl⟩) (r7_pre hK hP) rfl rfl hl.1 rfl (lv_room (Nat.le_of_ble_eq_true rfl)) dX7_readsPiece_20 ⟨Nat.zero_le _, Nat.zero_le _⟩)) (fun r_3 hr_3 => ?_)
    subst hr_3
    have rf_3 := rX7_next wn_1
    have rt_3 := R7I_taped hI_1
    refine vp_callSi (va_Run.run (va_runS (As := [.int (sX7_next wn_1)]) (rest := [.int (a1 + 1), .ref (ad 15)]) ⟨hx, hb, hml, hown, hts⟩ (kX7_pieceOf l (sX7_next wn_1)) (va_cwS 1 hts gX7_readsPiece_X7_pieceOf rfl rfl rfl mdX7_pieceOf ⟨Nat.le_of_ble_eq_true rfl, Nat.le_of_ble_eq_true rfl⟩) s_pre rfl rfl hl.1 rfl (lv_room (Nat.le_of_ble_eq_true rfl)) dX7_readsPiece_23 ⟨Nat.zero_le _, Nat.zero_le _⟩)) (fun r_4 hr_4 => ?_)
    subst hr_4
    have rf_4 := rX7_pieceOf (sX7_next wn_1)
    have := i_addr (a := a1) (b := 1) (n := 1) q_1 (by omega) (by omega)
    have ix_5 : vp_in (a1 + 1) 192 := ix_of (by omega) (by omega)
    refine a7_told (j := (a1 + 1).toNatClampNeg) hx hb hK hP hd hS ix_5 rfl dX7_readsPiece_26 (fun H locs hP hS => ?_)
    obtain ⟨wn_5, hwn_5⟩ : ∃ x, x = st wn_1 15 ((a1 + 1).toNatClampNeg) (sX7_pieceOf (sX7_next wn_1)) := ⟨_, rfl⟩
    rw [← hwn_5] at hP
    have E := bns_e E hwn_5
    have ft5_taped : (wn_5 16 0).toInt = (wn_1 16 0).toInt := by rw [hwn_5]; rfl
    have ft5_at : (wn_5 17 0).toInt = (wn_1 17 0).toInt := by rw [hwn_5]; rfl
    have ft5_statements : (wn_5 18 0).toInt = (wn_1 18 0).toInt := by rw [hwn_5]; rfl
    have ft5_layers : (wn_5 11 0).toInt = (wn_1 11 0).toInt := by rw [hwn_5]; rfl
    have fv_5 : (wn_5 15 ((a1 + 1).toNatClampNeg)).toInt = ((sX7_pieceOf (sX7_next wn_1)) : Int32).toInt := by rw [hwn_5, st_rd]
    have hI_5 : R7I wn_5 := by rw [hwn_5]; exact R7I_put_told hI_1
    refine lv_aload_n hx hb dX7_readsPiece_27 rfl (lv_at hl 0 rfl) ?_
    refine g7_told hx hb hts hin hown hK hP (hts (.fieldLink RX7 52 "LoadedForTheLaneModel" "told" "[I") (by decide +kernel)) dX7_readsPiece_28 ?_
    refine lv_iload_n hx hb dX7_readsPiece_31 rfl (lv_at hl 1 rfl) ?_
    refine lv_iconst (v := 1) hx hb dX7_readsPiece_32 (by decide) ?_
    refine lv_iadd hx hb dX7_readsPiece_33 ?_
    have := i_addr (a := a1) (b := 1) (n := 1) q_1 (by omega) (by omega)
    have ix_6 : vp_in (a1 + 1) 192 := ix_of (by omega) (by omega)
    refine l7_told (j := (a1 + 1).toNatClampNeg) hx hb hK hP ix_6 rfl dX7_readsPiece_34 ?_
    refine lv_if_ge (tgt := 40) hx hb dX7_readsPiece_35 (by decide) (fun c_7 => ?_) (fun c_7 => ?_)
    · have E := E.trans (if_pos c_7)
      have fc_7 := i_le c_7
      rw [q_0] at fc_7
      refine lv_aload_n hx hb dX7_readsPiece_40 rfl (lv_at hl 0 rfl) ?_
      refine lv_dup hx hb dX7_readsPiece_41 rfl ?_
      refine g7_at hx hb hts hin hown hK hP (hts (.fieldLink RX7 86 "LoadedForTheLaneModel" "at" "I") (by decide +kernel)) dX7_readsPiece_42 ?_
      have f_8 := R7I_at hI_5
      refine lv_iconst (v := 1) hx hb dX7_readsPiece_45 (by decide) ?_
      refine lv_iadd hx hb dX7_readsPiece_46 ?_
      refine p7_at hx hb hts hin hown hK hP hd hS (hts (.fieldLink RX7 86 "LoadedForTheLaneModel" "at" "I") (by decide +kernel)) dX7_readsPiece_47 (fun H locs hP hS => ?_)
      obtain ⟨wn_9, hwn_9⟩ : ∃ x, x = st wn_5 17 0 ((wn_5 17 0) + 1) := ⟨_, rfl⟩
      rw [← hwn_9] at hP
      have E := bns_e E hwn_9
      have ft9_taped : (wn_9 16 0).toInt = (wn_5 16 0).toInt := by rw [hwn_9]; rfl
      have ft9_at : (wn_9 17 0).toInt = ((wn_5 17 0) + 1 : Int32).toInt := by rw [hwn_9]; rfl
      have := i_addr (a := wn_5 17 0) (b := 1) (n := 1) q_1 (by omega) (by omega)
      have ft9_statements : (wn_9 18 0).toInt = (wn_5 18 0).toInt := by rw [hwn_9]; rfl
      have ft9_layers : (wn_9 11 0).toInt = (wn_5 11 0).toInt := by rw [hwn_9]; rfl
      have := i_addr (a := wn_5 17 0) (b := 1) (n := 1) q_1 (by omega) (by omega)
      have hI_9 : R7I wn_9 := by rw [hwn_9]; exact R7I_put_at hI_5 (by omega) (by omega)
      refine lv_aload_n hx hb dX7_readsPiece_50 rfl (lv_at hl 0 rfl) ?_
      refine lv_iload_n hx hb dX7_readsPiece_51 rfl (lv_at hl 1 rfl) ?_
      refine lv_iconst (v := 2) hx hb dX7_readsPiece_52 (by decide) ?_
      refine lv_iadd hx hb dX7_readsPiece_53 ?_
      refine lv_iconst (v := 2) hx hb dX7_readsPiece_54 (by decide) ?_
      refine lv_iconst (v := 2) hx hb dX7_readsPiece_55 (by decide) ?_
      have := i_addr (a := a1) (b := 2) (n := 2) q_2 (by omega) (by omega)
      have := q_2
      refine va_calli (va_runV (As := [.int (a1 + 2), .int 2, .int 2]) (rest := []) ⟨hx, hb, hml, hown, hts⟩ (kX7_readsNumber l D cI ad wn_9 (a1 + 2) 2 2 hd hI_9 (by omega) (by omega)) (cwV 3 hts gX7_readsPiece_X7_readsNumber rfl rfl rfl mdX7_readsNumber ⟨Nat.le_of_ble_eq_true rfl, Nat.le_of_ble_eq_true rfl⟩) (r7_pre hK hP) rfl rfl hl.1 rfl (lv_room (Nat.le_of_ble_eq_true rfl)) dX7_readsPiece_56 ⟨Nat.zero_le _, Nat.zero_le _⟩) hS (fun _ _ h => h) (fun _ h => h) (fun rn_10 wn_10 t H locs ht hvm hp_10 hB hz hfr hS => ?_)
      have hP : va_P D vwCl (RM cI ad wn_10) H := ht ▸ hB
      obtain ⟨hp_10, hz_10, hI_10, hq0_10, hq1_10, hq2_10, hq3_10⟩ := hp_10
      have E := bnd_e E hp_10
      have hzi_10 := z_int hz_10
      refine lv_if_eq (tgt := 78) hx hb dX7_readsPiece_59 (by decide) (fun c_11 => ?_) (fun c_11 => ?_)
      · have E := E.trans (if_pos c_11)
        have fc_11 := i_eq c_11
        rw [q_0] at fc_11
        refine lv_iconst (v := 0) hx hb dX7_readsPiece_78 (by decide) ?_
        have := q_0
        exact W.zret (ty := .boolean) (v := 0) hx hb hr (z_nar (Or.inl rfl)) (fun t ht hW => ⟨⟨_, wn_10, rfl, ⟨E.symm, (Or.inl rfl), hI_10, by omega, by omega, by omega, by omega⟩, by show va_P _ _ _ t.heap; rw [ht]; exact hP⟩, hS.F ht⟩) hS.2.2 dX7_readsPiece_79
      · have E := E.trans (if_neg c_11)
        have fc_11 := i_ne c_11
        rw [q_0] at fc_11
        refine lv_aload_n hx hb dX7_readsPiece_62 rfl (lv_at hl 0 rfl) ?_
        refine lv_iload_n hx hb dX7_readsPiece_63 rfl (lv_at hl 1 rfl) ?_
        refine lv_iconst (v := 3) hx hb dX7_readsPiece_64 (by decide) ?_
        refine lv_iadd hx hb dX7_readsPiece_65 ?_
        refine lv_iconst (v := 1) hx hb dX7_readsPiece_66 (by decide) ?_
        refine lv_iconst (v := 1) hx hb dX7_readsPiece_67 (by decide) ?_
        have := i_addr (a := a1) (b := 3) (n := 3) q_3 (by omega) (by omega)
        have := q_1
        refine va_calli (va_runV (As := [.int (a1 + 3), .int 1, .int 1]) (rest := []) ⟨hx, hb, hml, hown, hts⟩ (kX7_readsNumber l D cI ad wn_10 (a1 + 3) 1 1 hd hI_10 (by omega) (by omega)) (cwV 3 hts gX7_readsPiece_X7_readsNumber rfl rfl rfl mdX7_readsNumber ⟨Nat.le_of_ble_eq_true rfl, Nat.le_of_ble_eq_true rfl⟩) (r7_pre hK hP) rfl rfl hl.1 rfl (lv_room (Nat.le_of_ble_eq_true rfl)) dX7_readsPiece_68 ⟨Nat.zero_le _, Nat.zero_le _⟩) hS (fun _ _ h => h) (fun _ h => h) (fun rn_12 wn_12 t H locs ht hvm hp_12 hB hz hfr hS => ?_)
        have hP : va_P D vwCl (RM cI ad wn_12) H := ht ▸ hB
        obtain ⟨hp_12, hz_12, hI_12, hq0_12, hq1_12, hq2_12, hq3_12⟩ := hp_12
        have E := bnd_e E hp_12
        have hzi_12 := z_int hz_12
        refine lv_if_eq (tgt := 78) hx hb dX7_readsPiece_71 (by decide) (fun c_13 => ?_) (fun c_13 => ?_)
        · have E := E.trans (if_pos c_13)
          have fc_13 := i_eq c_13
          rw [q_0] at fc_13
          refine lv_iconst (v := 0) hx hb dX7_readsPiece_78 (by decide) ?_
          have := q_0
          exact W.zret (ty := .boolean) (v := 0) hx hb hr (z_nar (Or.inl rfl)) (fun t ht hW => ⟨⟨_, wn_12, rfl, ⟨E.symm, (Or.inl rfl), hI_12, by omega, by omega, by omega, by omega⟩, by show va_P _ _ _ t.heap; rw [ht]; exact hP⟩, hS.F ht⟩) hS.2.2 dX7_readsPiece_79
        · have E := E.trans (if_neg c_13)
          have fc_13 := i_ne c_13
          rw [q_0] at fc_13
          refine lv_iconst (v := 1) hx hb dX7_readsPiece_74 (by decide) ?_
          refine lv_goto (tgt := 79) hx hb dX7_readsPiece_75 (by decide) ?_
          have := q_1
          exact W.zret (ty := .boolean) (v := 1) hx hb hr (z_nar (Or.inr rfl)) (fun t ht hW => ⟨⟨_, wn_12, rfl, ⟨E.symm, (Or.inr rfl), hI_12, by omega, by omega, by omega, by omega⟩, by show va_P _ _ _ t.heap; rw [ht]; exact hP⟩, hS.F ht⟩) hS.2.2 dX7_readsPiece_79
    · have E := E.trans (if_neg c_7)
      have fc_7 := i_nle c_7
      rw [q_0] at fc_7
      refine lv_iconst (v := 0) hx hb dX7_readsPiece_38 (by decide) ?_
      have := q_0
      exact W.zret (ty := .boolean) (v := 0) hx hb hr (z_nar (Or.inl rfl)) (fun t ht hW => ⟨⟨_, wn_5, rfl, ⟨E.symm, (Or.inl rfl), hI_5, by omega, by omega, by omega, by omega⟩, by show va_P _ _ _ t.heap; rw [ht]; exact hP⟩, hS.F ht⟩) hS.2.2 dX7_readsPiece_39
  · have E := E.trans (if_pos c_2)
    have fc_2 := i_eq c_2
    rw [q_0] at fc_2
    refine lv_iconst (v := 0) hx hb dX7_readsPiece_10 (by decide) ?_
    have := q_0
    exact W.zret (ty := .boolean) (v := 0) hx hb hr (z_nar (Or.inl rfl)) (fun t ht hW => ⟨⟨_, wn_1, rfl, ⟨E.symm, (Or.inl rfl), hI_1, by omega, by omega, by omega, by omega⟩, by show va_P _ _ _ t.heap; rw [ht]; exact hP⟩, hS.F ht⟩) hS.2.2 dX7_readsPiece_11
abbrev rmX7_readsAll : Room := { frames := 3, cells := 0, slots := 0, locals := 69 }
set_option maxHeartbeats 4000000 in
set_option maxRecDepth 100000 in
theorem kX7_readsAll (l : Launch) (D : va_G) (cI : ClassId) (ad : Nat → Nat) (w : Nat → Nat → Int32) (a1 : Int32) (a2 : Int32) (hd : RD ad) (hI : R7I w) (h1 : 0 ≤ a2.toInt) (h2 : a2.toInt ≤ 188) : Met l yX7_readsAll wsX7_readsAll rmX7_readsAll (va_Pc [Value.ref (ad 0), Value.int a1, Value.int a2] (fun U => va_P D vwCl (RM cI ad w) U.heap ∧ va_K D vwCl [(cI, .int)] U)) (va_Qi (fun r u => (r, u) = sX7_readsAll w a1 a2 ∧ (r = 0 ∨ r = 1) ∧ R7I u ∧ ((w 17 0).toInt ≤ (u 17 0).toInt) ∧ ((u 16 0).toInt = (w 16 0).toInt) ∧ ((u 18 0).toInt = (w 18 0).toInt) ∧ ((u 11 0).toInt = (w 11 0).toInt)) (fun u t => va_P D vwCl (RM cI ad u) t.heap) (RA ad)) 0 0 (RA ad) := by
  refine Met.ofW (cc := cX7_readsAll) (maxL := 3) (ret := (some .boolean)) (by decide) rfl ?_
  intro p e s m args below meth c s₁ B hml hv
  obtain ⟨rfl, hP, hK⟩ := hv
  have hx := B.exec
  have hb := B.bytes
  have hr := B.returns
  have hts := atoms_spec (ws := wsX7_readsAll) B.pre
  have hown : s.vm.findClass RX7 = some m.cls := findClass_of_methodNamed B.named
  have hlocks := B.notSynchronized
  have hin : ∀ q ∈ wsX70, q ∈ wsX7_readsAll := by decide +kernel
  have hl := lv_entry ([.ref (ad 0), .int a1, .int a2]) (n := 3) (Nat.le_of_ble_eq_true rfl)
  rw [lg_entry_eq]
  generalize (lg_sl ([.ref (ad 0), .int a1, .int a2]) ++ List.replicate (3 - (lg_sl ([.ref (ad 0), .int a1, .int a2])).length) Slot.unset).toArray = ls at hl ⊢
  have hl : lv_has ls 3 [(0, .ref (ad 0)), (1, .int a1), (2, .int a2)] := hl
  suffices hgo : ∀ (H : Heap) (locs : List Loc), va_P D vwCl (RM cI ad w) H → va_S (RA ad) s.heap H locs → W p l e (headSpec wsX7_readsAll rmX7_readsAll).room s m [Value.ref (ad 0), Value.int a1, Value.int a2].toArray below meth c H locs 0 0 (MQ below (va_Qi (fun r u => (r, u) = sX7_readsAll w a1 a2 ∧ (r = 0 ∨ r = 1) ∧ R7I u ∧ ((w 17 0).toInt ≤ (u 17 0).toInt) ∧ ((u 16 0).toInt = (w 16 0).toInt) ∧ ((u 18 0).toInt = (w 18 0).toInt) ∧ ((u 11 0).toInt = (w 11 0).toInt)) (fun u t => va_P D vwCl (RM cI ad u) t.heap) (RA ad)) [Value.ref (ad 0), Value.int a1, Value.int a2].toArray s 0 0 (RA ad)) (F0 m 0 ls []) from hgo s.heap [] hP va_S.rf
  intro H locs hP hS
  have E := sX7_readsAll.eq_1 w a1 a2
  refine lv_iload_n hx hb dX7_readsAll_0 rfl (lv_at hl 1 rfl) ?_
  by_cases c_1 : a1 = 102
  · have E := E.trans (if_pos c_1)
    refine lv_lookup (off := 99) (tgt := 100) hx hb dX7_readsAll_1 (by decide) (by rw [c_1]; decide) (by decide) ?_
    have fc_1 := i_eq c_1
    rw [q_102] at fc_1
    refine lv_aload_n hx hb dX7_readsAll_100 rfl (lv_at hl 0 rfl) ?_
    refine lv_iload_n hx hb dX7_readsAll_101 rfl (lv_at hl 2 rfl) ?_
    refine lv_iconst (v := 1) hx hb dX7_readsAll_102 (by decide) ?_
    refine lv_iconst (v := 3) hx hb dX7_readsAll_103 (by decide) ?_
    have := q_1
    have := q_3
    refine va_calli (va_runV (As := [.int a2, .int 1, .int 3]) (rest := []) ⟨hx, hb, hml, hown, hts⟩ (kX7_readsNumber l D cI ad w a2 1 3 hd hI (by omega) (by omega)) (cwV 3 hts gX7_readsAll_X7_readsNumber rfl rfl rfl mdX7_readsNumber ⟨Nat.le_of_ble_eq_true rfl, Nat.le_of_ble_eq_true rfl⟩) (r7_pre hK hP) rfl rfl hl.1 rfl (lv_room (Nat.le_of_ble_eq_true rfl)) dX7_readsAll_104 ⟨Nat.zero_le _, Nat.zero_le _⟩) hS (fun _ _ h => h) (fun _ h => h) (fun rn_2 wn_2 t H locs ht hvm hp_2 hB hz hfr hS => ?_)
    have hP : va_P D vwCl (RM cI ad wn_2) H := ht ▸ hB
    obtain ⟨hp_2, hz_2, hI_2, hq0_2, hq1_2, hq2_2, hq3_2⟩ := hp_2
    have E := bnd_e E hp_2
    have hzi_2 := z_int hz_2
    exact W.zret (ty := .boolean) (v := rn_2) hx hb hr (z_nar hz_2) (fun t ht hW => ⟨⟨_, wn_2, rfl, ⟨E.symm, hz_2, hI_2, by omega, by omega, by omega, by omega⟩, by show va_P _ _ _ t.heap; rw [ht]; exact hP⟩, hS.F ht⟩) hS.2.2 dX7_readsAll_107
  have E := E.trans (if_neg c_1)
  have fc_1 := i_ne c_1
  rw [q_102] at fc_1
  by_cases c_3 : a1 = 107
  · have E := E.trans (if_pos c_3)
    refine lv_lookup (off := 71) (tgt := 72) hx hb dX7_readsAll_1 (by decide) (by rw [c_3]; decide) (by decide) ?_
    have fc_3 := i_eq c_3
    rw [q_107] at fc_3
    refine lv_aload_n hx hb dX7_readsAll_72 rfl (lv_at hl 0 rfl) ?_
    refine lv_iload_n hx hb dX7_readsAll_73 rfl (lv_at hl 2 rfl) ?_
    refine lv_iconst (v := 1) hx hb dX7_readsAll_74 (by decide) ?_
    refine lv_iconst (v := 1) hx hb dX7_readsAll_75 (by decide) ?_
    have := q_1
    refine va_calli (va_runV (As := [.int a2, .int 1, .int 1]) (rest := []) ⟨hx, hb, hml, hown, hts⟩ (kX7_readsNumber l D cI ad w a2 1 1 hd hI (by omega) (by omega)) (cwV 3 hts gX7_readsAll_X7_readsNumber rfl rfl rfl mdX7_readsNumber ⟨Nat.le_of_ble_eq_true rfl, Nat.le_of_ble_eq_true rfl⟩) (r7_pre hK hP) rfl rfl hl.1 rfl (lv_room (Nat.le_of_ble_eq_true rfl)) dX7_readsAll_76 ⟨Nat.zero_le _, Nat.zero_le _⟩) hS (fun _ _ h => h) (fun _ h => h) (fun rn_4 wn_4 t H locs ht hvm hp_4 hB hz hfr hS => ?_)
    have hP : va_P D vwCl (RM cI ad wn_4) H := ht ▸ hB
    obtain ⟨hp_4, hz_4, hI_4, hq0_4, hq1_4, hq2_4, hq3_4⟩ := hp_4
    have E := bnd_e E hp_4
    have hzi_4 := z_int hz_4
    refine lv_if_eq (tgt := 98) hx hb dX7_readsAll_79 (by decide) (fun c_5 => ?_) (fun c_5 => ?_)
    · have E := E.trans (if_pos c_5)
      have fc_5 := i_eq c_5
      rw [q_0] at fc_5
      refine lv_iconst (v := 0) hx hb dX7_readsAll_98 (by decide) ?_
      have := q_0
      exact W.zret (ty := .boolean) (v := 0) hx hb hr (z_nar (Or.inl rfl)) (fun t ht hW => ⟨⟨_, wn_4, rfl, ⟨E.symm, (Or.inl rfl), hI_4, by omega, by omega, by omega, by omega⟩, by show va_P _ _ _ t.heap; rw [ht]; exact hP⟩, hS.F ht⟩) hS.2.2 dX7_readsAll_99
    · have E := E.trans (if_neg c_5)
      have fc_5 := i_ne c_5
      rw [q_0] at fc_5
      refine lv_aload_n hx hb dX7_readsAll_82 rfl (lv_at hl 0 rfl) ?_
      refine lv_iload_n hx hb dX7_readsAll_83 rfl (lv_at hl 2 rfl) ?_
      refine lv_iconst (v := 1) hx hb dX7_readsAll_84 (by decide) ?_
      refine lv_iadd hx hb dX7_readsAll_85 ?_
      refine lv_iconst (v := 1) hx hb dX7_readsAll_86 (by decide) ?_
      refine lv_iconst (v := 1) hx hb dX7_readsAll_87 (by decide) ?_
      have := i_addr (a := a2) (b := 1) (n := 1) q_1 (by omega) (by omega)
      have := q_1
      refine va_calli (va_runV (As := [.int (a2 + 1), .int 1, .int 1]) (rest := []) ⟨hx, hb, hml, hown, hts⟩ (kX7_readsNumber l D cI ad wn_4 (a2 + 1) 1 1 hd hI_4 (by omega) (by omega)) (cwV 3 hts gX7_readsAll_X7_readsNumber rfl rfl rfl mdX7_readsNumber ⟨Nat.le_of_ble_eq_true rfl, Nat.le_of_ble_eq_true rfl⟩) (r7_pre hK hP) rfl rfl hl.1 rfl (lv_room (Nat.le_of_ble_eq_true rfl)) dX7_readsAll_88 ⟨Nat.zero_le _, Nat.zero_le _⟩) hS (fun _ _ h => h) (fun _ h => h) (fun rn_6 wn_6 t H locs ht hvm hp_6 hB hz hfr hS => ?_)
      have hP : va_P D vwCl (RM cI ad wn_6) H := ht ▸ hB
      obtain ⟨hp_6, hz_6, hI_6, hq0_6, hq1_6, hq2_6, hq3_6⟩ := hp_6
      have E := bnd_e E hp_6
      have hzi_6 := z_int hz_6
      refine lv_if_eq (tgt := 98) hx hb dX7_readsAll_91 (by decide) (fun c_7 => ?_) (fun c_7 => ?_)
      · have E := E.trans (if_pos c_7)
        have fc_7 := i_eq c_7
        rw [q_0] at fc_7
        refine lv_iconst (v := 0) hx hb dX7_readsAll_98 (by decide) ?_
        have := q_0
        exact W.zret (ty := .boolean) (v := 0) hx hb hr (z_nar (Or.inl rfl)) (fun t ht hW => ⟨⟨_, wn_6, rfl, ⟨E.symm, (Or.inl rfl), hI_6, by omega, by omega, by omega, by omega⟩, by show va_P _ _ _ t.heap; rw [ht]; exact hP⟩, hS.F ht⟩) hS.2.2 dX7_readsAll_99
      · have E := E.trans (if_neg c_7)
        have fc_7 := i_ne c_7
        rw [q_0] at fc_7
        refine lv_iconst (v := 1) hx hb dX7_readsAll_94 (by decide) ?_
        refine lv_goto (tgt := 99) hx hb dX7_readsAll_95 (by decide) ?_
        have := q_1
        exact W.zret (ty := .boolean) (v := 1) hx hb hr (z_nar (Or.inr rfl)) (fun t ht hW => ⟨⟨_, wn_6, rfl, ⟨E.symm, (Or.inr rfl), hI_6, by omega, by omega, by omega, by omega⟩, by show va_P _ _ _ t.heap; rw [ht]; exact hP⟩, hS.F ht⟩) hS.2.2 dX7_readsAll_99
  have E := E.trans (if_neg c_3)
  have fc_3 := i_ne c_3
  rw [q_107] at fc_3
  by_cases c_8 : a1 = 114
  · have E := E.trans (if_pos c_8)
    refine lv_lookup (off := 63) (tgt := 64) hx hb dX7_readsAll_1 (by decide) (by rw [c_8]; decide) (by decide) ?_
    have fc_8 := i_eq c_8
    rw [q_114] at fc_8
    refine lv_aload_n hx hb dX7_readsAll_64 rfl (lv_at hl 0 rfl) ?_
    refine lv_iload_n hx hb dX7_readsAll_65 rfl (lv_at hl 2 rfl) ?_
    refine lv_iconst (v := 1) hx hb dX7_readsAll_66 (by decide) ?_
    refine lv_iconst (v := 1) hx hb dX7_readsAll_67 (by decide) ?_
    have := q_1
    refine va_calli (va_runV (As := [.int a2, .int 1, .int 1]) (rest := []) ⟨hx, hb, hml, hown, hts⟩ (kX7_readsNumber l D cI ad w a2 1 1 hd hI (by omega) (by omega)) (cwV 3 hts gX7_readsAll_X7_readsNumber rfl rfl rfl mdX7_readsNumber ⟨Nat.le_of_ble_eq_true rfl, Nat.le_of_ble_eq_true rfl⟩) (r7_pre hK hP) rfl rfl hl.1 rfl (lv_room (Nat.le_of_ble_eq_true rfl)) dX7_readsAll_68 ⟨Nat.zero_le _, Nat.zero_le _⟩) hS (fun _ _ h => h) (fun _ h => h) (fun rn_9 wn_9 t H locs ht hvm hp_9 hB hz hfr hS => ?_)
    have hP : va_P D vwCl (RM cI ad wn_9) H := ht ▸ hB
    obtain ⟨hp_9, hz_9, hI_9, hq0_9, hq1_9, hq2_9, hq3_9⟩ := hp_9
    have E := bnd_e E hp_9
    have hzi_9 := z_int hz_9
    exact W.zret (ty := .boolean) (v := rn_9) hx hb hr (z_nar hz_9) (fun t ht hW => ⟨⟨_, wn_9, rfl, ⟨E.symm, hz_9, hI_9, by omega, by omega, by omega, by omega⟩, by show va_P _ _ _ t.heap; rw [ht]; exact hP⟩, hS.F ht⟩) hS.2.2 dX7_readsAll_71
  have E := E.trans (if_neg c_8)
  have fc_8 := i_ne c_8
  rw [q_114] at fc_8
  by_cases c_10 : a1 = 119
  · have E := E.trans (if_pos c_10)
    refine lv_lookup (off := 57) (tgt := 58) hx hb dX7_readsAll_1 (by decide) (by rw [c_10]; decide) (by decide) ?_
    have fc_10 := i_eq c_10
    rw [q_119] at fc_10
    refine lv_aload_n hx hb dX7_readsAll_58 rfl (lv_at hl 0 rfl) ?_
    refine lv_iload_n hx hb dX7_readsAll_59 rfl (lv_at hl 2 rfl) ?_
    refine va_calli (va_runV (As := [.int a2]) (rest := []) ⟨hx, hb, hml, hown, hts⟩ (kX7_readsPiece l D cI ad w a2 hd hI (by omega) (by omega)) (cwV 1 hts gX7_readsAll_X7_readsPiece rfl rfl rfl mdX7_readsPiece ⟨Nat.le_of_ble_eq_true rfl, Nat.le_of_ble_eq_true rfl⟩) (r7_pre hK hP) rfl rfl hl.1 rfl (lv_room (Nat.le_of_ble_eq_true rfl)) dX7_readsAll_60 ⟨Nat.zero_le _, Nat.zero_le _⟩) hS (fun _ _ h => h) (fun _ h => h) (fun rn_11 wn_11 t H locs ht hvm hp_11 hB hz hfr hS => ?_)
    have hP : va_P D vwCl (RM cI ad wn_11) H := ht ▸ hB
    obtain ⟨hp_11, hz_11, hI_11, hq0_11, hq1_11, hq2_11, hq3_11⟩ := hp_11
    have E := bnd_e E hp_11
    have hzi_11 := z_int hz_11
    exact W.zret (ty := .boolean) (v := rn_11) hx hb hr (z_nar hz_11) (fun t ht hW => ⟨⟨_, wn_11, rfl, ⟨E.symm, hz_11, hI_11, by omega, by omega, by omega, by omega⟩, by show va_P _ _ _ t.heap; rw [ht]; exact hP⟩, hS.F ht⟩) hS.2.2 dX7_readsAll_63
  have E := E.trans (if_neg c_10)
  have fc_10 := i_ne c_10
  rw [q_119] at fc_10
  by_cases c_12 : a1 = 121
  · have E := E.trans (if_pos c_12)
    refine lv_lookup (off := 51) (tgt := 52) hx hb dX7_readsAll_1 (by decide) (by rw [c_12]; decide) (by decide) ?_
    have fc_12 := i_eq c_12
    rw [q_121] at fc_12
    refine lv_aload_n hx hb dX7_readsAll_52 rfl (lv_at hl 0 rfl) ?_
    refine lv_iload_n hx hb dX7_readsAll_53 rfl (lv_at hl 2 rfl) ?_
    refine va_calli (va_runV (As := [.int a2]) (rest := []) ⟨hx, hb, hml, hown, hts⟩ (kX7_readsLayer l D cI ad w a2 hd hI (by omega) (by omega)) (cwV 1 hts gX7_readsAll_X7_readsLayer rfl rfl rfl mdX7_readsLayer ⟨Nat.le_of_ble_eq_true rfl, Nat.le_of_ble_eq_true rfl⟩) (r7_pre hK hP) rfl rfl hl.1 rfl (lv_room (Nat.le_of_ble_eq_true rfl)) dX7_readsAll_54 ⟨Nat.zero_le _, Nat.zero_le _⟩) hS (fun _ _ h => h) (fun _ h => h) (fun rn_13 wn_13 t H locs ht hvm hp_13 hB hz hfr hS => ?_)
    have hP : va_P D vwCl (RM cI ad wn_13) H := ht ▸ hB
    obtain ⟨hp_13, hz_13, hI_13, hq0_13, hq1_13, hq2_13, hq3_13⟩ := hp_13
    have E := bnd_e E hp_13
    have hzi_13 := z_int hz_13
    exact W.zret (ty := .boolean) (v := rn_13) hx hb hr (z_nar hz_13) (fun t ht hW => ⟨⟨_, wn_13, rfl, ⟨E.symm, hz_13, hI_13, by omega, by omega, by omega, by omega⟩, by show va_P _ _ _ t.heap; rw [ht]; exact hP⟩, hS.F ht⟩) hS.2.2 dX7_readsAll_57
  have E := E.trans (if_neg c_12)
  have fc_12 := i_ne c_12
  rw [q_121] at fc_12
  refine lv_lookup (off := 107) (tgt := 108) hx hb dX7_readsAll_1 (by decide) ((lv_osw c_1 rfl).trans ((lv_osw c_3 rfl).trans ((lv_osw c_8 rfl).trans ((lv_osw c_10 rfl).trans ((lv_osw c_12 rfl).trans rfl))))) (by decide) ?_
  refine lv_iconst (v := 1) hx hb dX7_readsAll_108 (by decide) ?_
  have := q_1
  exact W.zret (ty := .boolean) (v := 1) hx hb hr (z_nar (Or.inr rfl)) (fun t ht hW => ⟨⟨_, w, rfl, ⟨E.symm, (Or.inr rfl), hI, by omega, by omega, by omega, by omega⟩, by show va_P _ _ _ t.heap; rw [ht]; exact hP⟩, hS.F ht⟩) hS.2.2 dX7_readsAll_109
abbrev rmX7_statement : Room := { frames := 4, cells := 0, slots := 0, locals := 91 }
set_option maxHeartbeats 4000000 in
set_option maxRecDepth 100000 in
theorem kX7_statement (l : Launch) (D : va_G) (cI : ClassId) (ad : Nat → Nat) (w : Nat → Nat → Int32) (hd : RD ad) (hI : R7I w) (h1 : (w 18 0).toInt < 48) : Met l yX7_statement wsX7_statement rmX7_statement (va_Pc [Value.ref (ad 0)] (fun U => va_P D vwCl (RM cI ad w) U.heap ∧ va_K D vwCl [(cI, .int)] U)) (va_Qi (fun r u => (r, u) = sX7_statement w ∧ (r = 0 ∨ r = 1) ∧ R7I u ∧ ((w 17 0).toInt ≤ (u 17 0).toInt) ∧ ((u 16 0).toInt = (w 16 0).toInt) ∧ ((u 18 0).toInt = (w 18 0).toInt) ∧ ((u 11 0).toInt = (w 11 0).toInt) ∧ (r.toInt = 0 ∨ (w 17 0).toInt + 2 ≤ (u 17 0).toInt)) (fun u t => va_P D vwCl (RM cI ad u) t.heap) (RA ad)) 0 0 (RA ad) := by
  refine Met.ofW (cc := cX7_statement) (maxL := 2) (ret := (some .boolean)) (by decide) rfl ?_
  intro p e s m args below meth c s₁ B hml hv
  obtain ⟨rfl, hP, hK⟩ := hv
  have hx := B.exec
  have hb := B.bytes
  have hr := B.returns
  have hts := atoms_spec (ws := wsX7_statement) B.pre
  have hown : s.vm.findClass RX7 = some m.cls := findClass_of_methodNamed B.named
  have hlocks := B.notSynchronized
  have hin : ∀ q ∈ wsX70, q ∈ wsX7_statement := by decide +kernel
  have hl := lv_entry ([.ref (ad 0)]) (n := 2) (Nat.le_of_ble_eq_true rfl)
  rw [lg_entry_eq]
  generalize (lg_sl ([.ref (ad 0)]) ++ List.replicate (2 - (lg_sl ([.ref (ad 0)])).length) Slot.unset).toArray = ls at hl ⊢
  have hl : lv_has ls 2 [(0, .ref (ad 0))] := hl
  suffices hgo : ∀ (H : Heap) (locs : List Loc), va_P D vwCl (RM cI ad w) H → va_S (RA ad) s.heap H locs → W p l e (headSpec wsX7_statement rmX7_statement).room s m [Value.ref (ad 0)].toArray below meth c H locs 0 0 (MQ below (va_Qi (fun r u => (r, u) = sX7_statement w ∧ (r = 0 ∨ r = 1) ∧ R7I u ∧ ((w 17 0).toInt ≤ (u 17 0).toInt) ∧ ((u 16 0).toInt = (w 16 0).toInt) ∧ ((u 18 0).toInt = (w 18 0).toInt) ∧ ((u 11 0).toInt = (w 11 0).toInt) ∧ (r.toInt = 0 ∨ (w 17 0).toInt + 2 ≤ (u 17 0).toInt)) (fun u t => va_P D vwCl (RM cI ad u) t.heap) (RA ad)) [Value.ref (ad 0)].toArray s 0 0 (RA ad)) (F0 m 0 ls []) from hgo s.heap [] hP va_S.rf
  intro H locs hP hS
  have E := sX7_statement.eq_1 w
  refine lv_aload_n hx hb dX7_statement_0 rfl (lv_at hl 0 rfl) ?_
  refine vp_callSi (va_Run.run (va_runV (As := []) (rest := []) ⟨hx, hb, hml, hown, hts⟩ (kX7_next l D cI ad w hI) (cwV 0 hts gX7_statement_X7_next rfl rfl rfl mdX7_next ⟨Nat.le_of_ble_eq_true rfl, Nat.le_of_ble_eq_true rfl⟩) (r7_pre hK hP) rfl rfl hl.1 rfl (lv_room (Nat.le_of_ble_eq_true rfl)) dX7_statement_1 ⟨Nat.zero_le _, Nat.zero_le _⟩)) (fun r_1 hr_1 => ?_)
  subst hr_1
  have rf_1 := rX7_next w
  have rt_1 := R7I_taped hI
  refine lv_istore_n (lv' := [(1, .int (sX7_next w)), (0, .ref (ad 0))]) hx hb dX7_statement_4 rfl hl (by decide) rfl (fun ls hl => ?_)
  refine lv_iload_n hx hb dX7_statement_5 rfl (lv_at hl 0 rfl) ?_
  refine lv_bipush (v := 121) hx hb dX7_statement_6 (by decide +kernel) ?_
  refine lv_icmp_eq (tgt := 43) hx hb dX7_statement_8 (by decide) (fun c_2 => ?_) (fun c_2 => ?_)
  · have E := E.trans (if_pos c_2)
    have fc_2 := i_eq c_2
    rw [q_121] at fc_2
    refine lv_aload_n hx hb dX7_statement_43 rfl (lv_at hl 1 rfl) ?_
    refine g7_letter hx hb hts hin hown hK hP (hts (.fieldLink RX7 46 "LoadedForTheLaneModel" "letter" "[I") (by decide +kernel)) dX7_statement_44 ?_
    refine lv_aload_n hx hb dX7_statement_47 rfl (lv_at hl 1 rfl) ?_
    refine g7_statements hx hb hts hin hown hK hP (hts (.fieldLink RX7 112 "LoadedForTheLaneModel" "statements" "I") (by decide +kernel)) dX7_statement_48 ?_
    have f_3 := R7I_statements hI
    refine lv_iload_n hx hb dX7_statement_51 rfl (lv_at hl 0 rfl) ?_
    have ix_4 : vp_in (w 18 0) 48 := ix_of (by omega) (by omega)
    refine a7_letter (j := (w 18 0).toNatClampNeg) hx hb hK hP hd hS ix_4 rfl dX7_statement_52 (fun H locs hP hS => ?_)
    obtain ⟨wn_4, hwn_4⟩ : ∃ x, x = st w 13 ((w 18 0).toNatClampNeg) (sX7_next w) := ⟨_, rfl⟩
    rw [← hwn_4] at hP
    have E := bns_e E hwn_4
    have ft4_taped : (wn_4 16 0).toInt = (w 16 0).toInt := by rw [hwn_4]; rfl
    have ft4_at : (wn_4 17 0).toInt = (w 17 0).toInt := by rw [hwn_4]; rfl
    have ft4_statements : (wn_4 18 0).toInt = (w 18 0).toInt := by rw [hwn_4]; rfl
    have ft4_layers : (wn_4 11 0).toInt = (w 11 0).toInt := by rw [hwn_4]; rfl
    have fv_4 : (wn_4 13 ((w 18 0).toNatClampNeg)).toInt = ((sX7_next w) : Int32).toInt := by rw [hwn_4, st_rd]
    have hI_4 : R7I wn_4 := by rw [hwn_4]; exact R7I_put_letter hI
    refine lv_aload_n hx hb dX7_statement_53 rfl (lv_at hl 1 rfl) ?_
    refine g7_letterAt hx hb hts hin hown hK hP (hts (.fieldLink RX7 49 "LoadedForTheLaneModel" "letterAt" "[I") (by decide +kernel)) dX7_statement_54 ?_
    refine lv_aload_n hx hb dX7_statement_57 rfl (lv_at hl 1 rfl) ?_
    refine g7_statements hx hb hts hin hown hK hP (hts (.fieldLink RX7 112 "LoadedForTheLaneModel" "statements" "I") (by decide +kernel)) dX7_statement_58 ?_
    have f_5 := R7I_statements hI_4
    refine lv_aload_n hx hb dX7_statement_61 rfl (lv_at hl 1 rfl) ?_
    refine g7_at hx hb hts hin hown hK hP (hts (.fieldLink RX7 86 "LoadedForTheLaneModel" "at" "I") (by decide +kernel)) dX7_statement_62 ?_
    have f_6 := R7I_at hI_4
    have ix_7 : vp_in (wn_4 18 0) 48 := ix_of (by omega) (by omega)
    refine a7_letterAt (j := (wn_4 18 0).toNatClampNeg) hx hb hK hP hd hS ix_7 rfl dX7_statement_65 (fun H locs hP hS => ?_)
    obtain ⟨wn_7, hwn_7⟩ : ∃ x, x = st wn_4 14 ((wn_4 18 0).toNatClampNeg) (wn_4 17 0) := ⟨_, rfl⟩
    rw [← hwn_7] at hP
    have E := bns_e E hwn_7
    have ft7_taped : (wn_7 16 0).toInt = (wn_4 16 0).toInt := by rw [hwn_7]; rfl
    have ft7_at : (wn_7 17 0).toInt = (wn_4 17 0).toInt := by rw [hwn_7]; rfl
    have ft7_statements : (wn_7 18 0).toInt = (wn_4 18 0).toInt := by rw [hwn_7]; rfl
    have ft7_layers : (wn_7 11 0).toInt = (wn_4 11 0).toInt := by rw [hwn_7]; rfl
    have fv_7 : (wn_7 14 ((wn_4 18 0).toNatClampNeg)).toInt = (wn_4 17 0 : Int32).toInt := by rw [hwn_7, st_rd]
    have hI_7 : R7I wn_7 := by rw [hwn_7]; exact R7I_put_letterAt hI_4
    refine lv_aload_n hx hb dX7_statement_66 rfl (lv_at hl 1 rfl) ?_
    refine lv_dup hx hb dX7_statement_67 rfl ?_
    refine g7_at hx hb hts hin hown hK hP (hts (.fieldLink RX7 86 "LoadedForTheLaneModel" "at" "I") (by decide +kernel)) dX7_statement_68 ?_
    have f_8 := R7I_at hI_7
    refine lv_iconst (v := 1) hx hb dX7_statement_71 (by decide) ?_
    refine lv_iadd hx hb dX7_statement_72 ?_
    refine p7_at hx hb hts hin hown hK hP hd hS (hts (.fieldLink RX7 86 "LoadedForTheLaneModel" "at" "I") (by decide +kernel)) dX7_statement_73 (fun H locs hP hS => ?_)
    obtain ⟨wn_9, hwn_9⟩ : ∃ x, x = st wn_7 17 0 ((wn_7 17 0) + 1) := ⟨_, rfl⟩
    rw [← hwn_9] at hP
    have E := bns_e E hwn_9
    have ft9_taped : (wn_9 16 0).toInt = (wn_7 16 0).toInt := by rw [hwn_9]; rfl
    have ft9_at : (wn_9 17 0).toInt = ((wn_7 17 0) + 1 : Int32).toInt := by rw [hwn_9]; rfl
    have := i_addr (a := wn_7 17 0) (b := 1) (n := 1) q_1 (by omega) (by omega)
    have ft9_statements : (wn_9 18 0).toInt = (wn_7 18 0).toInt := by rw [hwn_9]; rfl
    have ft9_layers : (wn_9 11 0).toInt = (wn_7 11 0).toInt := by rw [hwn_9]; rfl
    have := i_addr (a := wn_7 17 0) (b := 1) (n := 1) q_1 (by omega) (by omega)
    have hI_9 : R7I wn_9 := by rw [hwn_9]; exact R7I_put_at hI_7 (by omega) (by omega)
    refine lv_aload_n hx hb dX7_statement_76 rfl (lv_at hl 1 rfl) ?_
    refine lv_iload_n hx hb dX7_statement_77 rfl (lv_at hl 0 rfl) ?_
    refine lv_iconst (v := 4) hx hb dX7_statement_78 (by decide) ?_
    refine lv_aload_n hx hb dX7_statement_79 rfl (lv_at hl 1 rfl) ?_
    refine g7_statements hx hb hts hin hown hK hP (hts (.fieldLink RX7 112 "LoadedForTheLaneModel" "statements" "I") (by decide +kernel)) dX7_statement_80 ?_
    have f_10 := R7I_statements hI_9
    refine lv_imul hx hb dX7_statement_83 ?_
    have := i_mull (a := 4) (b := wn_9 18 0) (n := 4) q_4 (by omega) (by omega)
    refine va_calli (va_runV (As := [.int (sX7_next w), .int (4 * (wn_9 18 0))]) (rest := []) ⟨hx, hb, hml, hown, hts⟩ (kX7_readsAll l D cI ad wn_9 (sX7_next w) (4 * (wn_9 18 0)) hd hI_9 (by omega) (by omega)) (cwV 2 hts gX7_statement_X7_readsAll rfl rfl rfl mdX7_readsAll ⟨Nat.le_of_ble_eq_true rfl, Nat.le_of_ble_eq_true rfl⟩) (r7_pre hK hP) rfl rfl hl.1 rfl (lv_room (Nat.le_of_ble_eq_true rfl)) dX7_statement_84 ⟨Nat.zero_le _, Nat.zero_le _⟩) hS (fun _ _ h => h) (fun _ h => h) (fun rn_11 wn_11 t H locs ht hvm hp_11 hB hz hfr hS => ?_)
    have hP : va_P D vwCl (RM cI ad wn_11) H := ht ▸ hB
    obtain ⟨hp_11, hz_11, hI_11, hq0_11, hq1_11, hq2_11, hq3_11⟩ := hp_11
    have E := bnd_e E hp_11
    have hzi_11 := z_int hz_11
    refine lv_if_eq (tgt := 99) hx hb dX7_statement_87 (by decide) (fun c_12 => ?_) (fun c_12 => ?_)
    · have E := E.trans (if_pos c_12)
      have fc_12 := i_eq c_12
      rw [q_0] at fc_12
      refine lv_iconst (v := 0) hx hb dX7_statement_99 (by decide) ?_
      have := q_0
      exact W.zret (ty := .boolean) (v := 0) hx hb hr (z_nar (Or.inl rfl)) (fun t ht hW => ⟨⟨_, wn_11, rfl, ⟨E.symm, (Or.inl rfl), hI_11, by omega, by omega, by omega, by omega, by omega⟩, by show va_P _ _ _ t.heap; rw [ht]; exact hP⟩, hS.F ht⟩) hS.2.2 dX7_statement_100
    · have E := E.trans (if_neg c_12)
      have fc_12 := i_ne c_12
      rw [q_0] at fc_12
      refine lv_aload_n hx hb dX7_statement_90 rfl (lv_at hl 1 rfl) ?_
      refine vp_callSi (va_Run.run (va_runV (As := []) (rest := []) ⟨hx, hb, hml, hown, hts⟩ (kX7_next l D cI ad wn_11 hI_11) (cwV 0 hts gX7_statement_X7_next rfl rfl rfl mdX7_next ⟨Nat.le_of_ble_eq_true rfl, Nat.le_of_ble_eq_true rfl⟩) (r7_pre hK hP) rfl rfl hl.1 rfl (lv_room (Nat.le_of_ble_eq_true rfl)) dX7_statement_91 ⟨Nat.zero_le _, Nat.zero_le _⟩)) (fun r_13 hr_13 => ?_)
      subst hr_13
      have rf_13 := rX7_next wn_11
      have rt_13 := R7I_taped hI_11
      refine lv_bipush (v := 59) hx hb dX7_statement_94 (by decide +kernel) ?_
      refine lv_icmp_eq (tgt := 101) hx hb dX7_statement_96 (by decide) (fun c_14 => ?_) (fun c_14 => ?_)
      · have E := E.trans (if_pos c_14)
        have fc_14 := i_eq c_14
        rw [q_59] at fc_14
        refine lv_aload_n hx hb dX7_statement_101 rfl (lv_at hl 1 rfl) ?_
        refine lv_dup hx hb dX7_statement_102 rfl ?_
        refine g7_at hx hb hts hin hown hK hP (hts (.fieldLink RX7 86 "LoadedForTheLaneModel" "at" "I") (by decide +kernel)) dX7_statement_103 ?_
        have f_15 := R7I_at hI_11
        refine lv_iconst (v := 1) hx hb dX7_statement_106 (by decide) ?_
        refine lv_iadd hx hb dX7_statement_107 ?_
        refine p7_at hx hb hts hin hown hK hP hd hS (hts (.fieldLink RX7 86 "LoadedForTheLaneModel" "at" "I") (by decide +kernel)) dX7_statement_108 (fun H locs hP hS => ?_)
        obtain ⟨wn_16, hwn_16⟩ : ∃ x, x = st wn_11 17 0 ((wn_11 17 0) + 1) := ⟨_, rfl⟩
        rw [← hwn_16] at hP
        have E := bns_e E hwn_16
        have ft16_taped : (wn_16 16 0).toInt = (wn_11 16 0).toInt := by rw [hwn_16]; rfl
        have ft16_at : (wn_16 17 0).toInt = ((wn_11 17 0) + 1 : Int32).toInt := by rw [hwn_16]; rfl
        have := i_addr (a := wn_11 17 0) (b := 1) (n := 1) q_1 (by omega) (by omega)
        have ft16_statements : (wn_16 18 0).toInt = (wn_11 18 0).toInt := by rw [hwn_16]; rfl
        have ft16_layers : (wn_16 11 0).toInt = (wn_11 11 0).toInt := by rw [hwn_16]; rfl
        have := i_addr (a := wn_11 17 0) (b := 1) (n := 1) q_1 (by omega) (by omega)
        have hI_16 : R7I wn_16 := by rw [hwn_16]; exact R7I_put_at hI_11 (by omega) (by omega)
        refine lv_iconst (v := 1) hx hb dX7_statement_111 (by decide) ?_
        have := q_1
        exact W.zret (ty := .boolean) (v := 1) hx hb hr (z_nar (Or.inr rfl)) (fun t ht hW => ⟨⟨_, wn_16, rfl, ⟨E.symm, (Or.inr rfl), hI_16, by omega, by omega, by omega, by omega, by omega⟩, by show va_P _ _ _ t.heap; rw [ht]; exact hP⟩, hS.F ht⟩) hS.2.2 dX7_statement_112
      · have E := E.trans (if_neg c_14)
        have fc_14 := i_ne c_14
        rw [q_59] at fc_14
        refine lv_iconst (v := 0) hx hb dX7_statement_99 (by decide) ?_
        have := q_0
        exact W.zret (ty := .boolean) (v := 0) hx hb hr (z_nar (Or.inl rfl)) (fun t ht hW => ⟨⟨_, wn_11, rfl, ⟨E.symm, (Or.inl rfl), hI_11, by omega, by omega, by omega, by omega, by omega⟩, by show va_P _ _ _ t.heap; rw [ht]; exact hP⟩, hS.F ht⟩) hS.2.2 dX7_statement_100
  · have E := E.trans (if_neg c_2)
    have fc_2 := i_ne c_2
    rw [q_121] at fc_2
    refine lv_iload_n hx hb dX7_statement_11 rfl (lv_at hl 0 rfl) ?_
    refine lv_bipush (v := 119) hx hb dX7_statement_12 (by decide +kernel) ?_
    refine lv_icmp_eq (tgt := 43) hx hb dX7_statement_14 (by decide) (fun c_17 => ?_) (fun c_17 => ?_)
    · have E := E.trans (if_pos c_17)
      have fc_17 := i_eq c_17
      rw [q_119] at fc_17
      refine lv_aload_n hx hb dX7_statement_43 rfl (lv_at hl 1 rfl) ?_
      refine g7_letter hx hb hts hin hown hK hP (hts (.fieldLink RX7 46 "LoadedForTheLaneModel" "letter" "[I") (by decide +kernel)) dX7_statement_44 ?_
      refine lv_aload_n hx hb dX7_statement_47 rfl (lv_at hl 1 rfl) ?_
      refine g7_statements hx hb hts hin hown hK hP (hts (.fieldLink RX7 112 "LoadedForTheLaneModel" "statements" "I") (by decide +kernel)) dX7_statement_48 ?_
      have f_18 := R7I_statements hI
      refine lv_iload_n hx hb dX7_statement_51 rfl (lv_at hl 0 rfl) ?_
      have ix_19 : vp_in (w 18 0) 48 := ix_of (by omega) (by omega)
      refine a7_letter (j := (w 18 0).toNatClampNeg) hx hb hK hP hd hS ix_19 rfl dX7_statement_52 (fun H locs hP hS => ?_)
      obtain ⟨wn_19, hwn_19⟩ : ∃ x, x = st w 13 ((w 18 0).toNatClampNeg) (sX7_next w) := ⟨_, rfl⟩
      rw [← hwn_19] at hP
      have E := bns_e E hwn_19
      have ft19_taped : (wn_19 16 0).toInt = (w 16 0).toInt := by rw [hwn_19]; rfl
      have ft19_at : (wn_19 17 0).toInt = (w 17 0).toInt := by rw [hwn_19]; rfl
      have ft19_statements : (wn_19 18 0).toInt = (w 18 0).toInt := by rw [hwn_19]; rfl
      have ft19_layers : (wn_19 11 0).toInt = (w 11 0).toInt := by rw [hwn_19]; rfl
      have fv_19 : (wn_19 13 ((w 18 0).toNatClampNeg)).toInt = ((sX7_next w) : Int32).toInt := by rw [hwn_19, st_rd]
      have hI_19 : R7I wn_19 := by rw [hwn_19]; exact R7I_put_letter hI
      refine lv_aload_n hx hb dX7_statement_53 rfl (lv_at hl 1 rfl) ?_
      refine g7_letterAt hx hb hts hin hown hK hP (hts (.fieldLink RX7 49 "LoadedForTheLaneModel" "letterAt" "[I") (by decide +kernel)) dX7_statement_54 ?_
      refine lv_aload_n hx hb dX7_statement_57 rfl (lv_at hl 1 rfl) ?_
      refine g7_statements hx hb hts hin hown hK hP (hts (.fieldLink RX7 112 "LoadedForTheLaneModel" "statements" "I") (by decide +kernel)) dX7_statement_58 ?_
      have f_20 := R7I_statements hI_19
      refine lv_aload_n hx hb dX7_statement_61 rfl (lv_at hl 1 rfl) ?_
      refine g7_at hx hb hts hin hown hK hP (hts (.fieldLink RX7 86 "LoadedForTheLaneModel" "at" "I") (by decide +kernel)) dX7_statement_62 ?_
      have f_21 := R7I_at hI_19
      have ix_22 : vp_in (wn_19 18 0) 48 := ix_of (by omega) (by omega)
      refine a7_letterAt (j := (wn_19 18 0).toNatClampNeg) hx hb hK hP hd hS ix_22 rfl dX7_statement_65 (fun H locs hP hS => ?_)
      obtain ⟨wn_22, hwn_22⟩ : ∃ x, x = st wn_19 14 ((wn_19 18 0).toNatClampNeg) (wn_19 17 0) := ⟨_, rfl⟩
      rw [← hwn_22] at hP
      have E := bns_e E hwn_22
      have ft22_taped : (wn_22 16 0).toInt = (wn_19 16 0).toInt := by rw [hwn_22]; rfl
      have ft22_at : (wn_22 17 0).toInt = (wn_19 17 0).toInt := by rw [hwn_22]; rfl
      have ft22_statements : (wn_22 18 0).toInt = (wn_19 18 0).toInt := by rw [hwn_22]; rfl
      have ft22_layers : (wn_22 11 0).toInt = (wn_19 11 0).toInt := by rw [hwn_22]; rfl
      have fv_22 : (wn_22 14 ((wn_19 18 0).toNatClampNeg)).toInt = (wn_19 17 0 : Int32).toInt := by rw [hwn_22, st_rd]
      have hI_22 : R7I wn_22 := by rw [hwn_22]; exact R7I_put_letterAt hI_19
      refine lv_aload_n hx hb dX7_statement_66 rfl (lv_at hl 1 rfl) ?_
      refine lv_dup hx hb dX7_statement_67 rfl ?_
      refine g7_at hx hb hts hin hown hK hP (hts (.fieldLink RX7 86 "LoadedForTheLaneModel" "at" "I") (by decide +kernel)) dX7_statement_68 ?_
      have f_23 := R7I_at hI_22
      refine lv_iconst (v := 1) hx hb dX7_statement_71 (by decide) ?_
      refine lv_iadd hx hb dX7_statement_72 ?_
      refine p7_at hx hb hts hin hown hK hP hd hS (hts (.fieldLink RX7 86 "LoadedForTheLaneModel" "at" "I") (by decide +kernel)) dX7_statement_73 (fun H locs hP hS => ?_)
      obtain ⟨wn_24, hwn_24⟩ : ∃ x, x = st wn_22 17 0 ((wn_22 17 0) + 1) := ⟨_, rfl⟩
      rw [← hwn_24] at hP
      have E := bns_e E hwn_24
      have ft24_taped : (wn_24 16 0).toInt = (wn_22 16 0).toInt := by rw [hwn_24]; rfl
      have ft24_at : (wn_24 17 0).toInt = ((wn_22 17 0) + 1 : Int32).toInt := by rw [hwn_24]; rfl
      have := i_addr (a := wn_22 17 0) (b := 1) (n := 1) q_1 (by omega) (by omega)
      have ft24_statements : (wn_24 18 0).toInt = (wn_22 18 0).toInt := by rw [hwn_24]; rfl
      have ft24_layers : (wn_24 11 0).toInt = (wn_22 11 0).toInt := by rw [hwn_24]; rfl
      have := i_addr (a := wn_22 17 0) (b := 1) (n := 1) q_1 (by omega) (by omega)
      have hI_24 : R7I wn_24 := by rw [hwn_24]; exact R7I_put_at hI_22 (by omega) (by omega)
      refine lv_aload_n hx hb dX7_statement_76 rfl (lv_at hl 1 rfl) ?_
      refine lv_iload_n hx hb dX7_statement_77 rfl (lv_at hl 0 rfl) ?_
      refine lv_iconst (v := 4) hx hb dX7_statement_78 (by decide) ?_
      refine lv_aload_n hx hb dX7_statement_79 rfl (lv_at hl 1 rfl) ?_
      refine g7_statements hx hb hts hin hown hK hP (hts (.fieldLink RX7 112 "LoadedForTheLaneModel" "statements" "I") (by decide +kernel)) dX7_statement_80 ?_
      have f_25 := R7I_statements hI_24
      refine lv_imul hx hb dX7_statement_83 ?_
      have := i_mull (a := 4) (b := wn_24 18 0) (n := 4) q_4 (by omega) (by omega)
      refine va_calli (va_runV (As := [.int (sX7_next w), .int (4 * (wn_24 18 0))]) (rest := []) ⟨hx, hb, hml, hown, hts⟩ (kX7_readsAll l D cI ad wn_24 (sX7_next w) (4 * (wn_24 18 0)) hd hI_24 (by omega) (by omega)) (cwV 2 hts gX7_statement_X7_readsAll rfl rfl rfl mdX7_readsAll ⟨Nat.le_of_ble_eq_true rfl, Nat.le_of_ble_eq_true rfl⟩) (r7_pre hK hP) rfl rfl hl.1 rfl (lv_room (Nat.le_of_ble_eq_true rfl)) dX7_statement_84 ⟨Nat.zero_le _, Nat.zero_le _⟩) hS (fun _ _ h => h) (fun _ h => h) (fun rn_26 wn_26 t H locs ht hvm hp_26 hB hz hfr hS => ?_)
      have hP : va_P D vwCl (RM cI ad wn_26) H := ht ▸ hB
      obtain ⟨hp_26, hz_26, hI_26, hq0_26, hq1_26, hq2_26, hq3_26⟩ := hp_26
      have E := bnd_e E hp_26
      have hzi_26 := z_int hz_26
      refine lv_if_eq (tgt := 99) hx hb dX7_statement_87 (by decide) (fun c_27 => ?_) (fun c_27 => ?_)
      · have E := E.trans (if_pos c_27)
        have fc_27 := i_eq c_27
        rw [q_0] at fc_27
        refine lv_iconst (v := 0) hx hb dX7_statement_99 (by decide) ?_
        have := q_0
        exact W.zret (ty := .boolean) (v := 0) hx hb hr (z_nar (Or.inl rfl)) (fun t ht hW => ⟨⟨_, wn_26, rfl, ⟨E.symm, (Or.inl rfl), hI_26, by omega, by omega, by omega, by omega, by omega⟩, by show va_P _ _ _ t.heap; rw [ht]; exact hP⟩, hS.F ht⟩) hS.2.2 dX7_statement_100
      · have E := E.trans (if_neg c_27)
        have fc_27 := i_ne c_27
        rw [q_0] at fc_27
        refine lv_aload_n hx hb dX7_statement_90 rfl (lv_at hl 1 rfl) ?_
        refine vp_callSi (va_Run.run (va_runV (As := []) (rest := []) ⟨hx, hb, hml, hown, hts⟩ (kX7_next l D cI ad wn_26 hI_26) (cwV 0 hts gX7_statement_X7_next rfl rfl rfl mdX7_next ⟨Nat.le_of_ble_eq_true rfl, Nat.le_of_ble_eq_true rfl⟩) (r7_pre hK hP) rfl rfl hl.1 rfl (lv_room (Nat.le_of_ble_eq_true rfl)) dX7_statement_91 ⟨Nat.zero_le _, Nat.zero_le _⟩)) (fun r_28 hr_28 => ?_)
        subst hr_28
        have rf_28 := rX7_next wn_26
        have rt_28 := R7I_taped hI_26
        refine lv_bipush (v := 59) hx hb dX7_statement_94 (by decide +kernel) ?_
        refine lv_icmp_eq (tgt := 101) hx hb dX7_statement_96 (by decide) (fun c_29 => ?_) (fun c_29 => ?_)
        · have E := E.trans (if_pos c_29)
          have fc_29 := i_eq c_29
          rw [q_59] at fc_29
          refine lv_aload_n hx hb dX7_statement_101 rfl (lv_at hl 1 rfl) ?_
          refine lv_dup hx hb dX7_statement_102 rfl ?_
          refine g7_at hx hb hts hin hown hK hP (hts (.fieldLink RX7 86 "LoadedForTheLaneModel" "at" "I") (by decide +kernel)) dX7_statement_103 ?_
          have f_30 := R7I_at hI_26
          refine lv_iconst (v := 1) hx hb dX7_statement_106 (by decide) ?_
          refine lv_iadd hx hb dX7_statement_107 ?_
          refine p7_at hx hb hts hin hown hK hP hd hS (hts (.fieldLink RX7 86 "LoadedForTheLaneModel" "at" "I") (by decide +kernel)) dX7_statement_108 (fun H locs hP hS => ?_)
          obtain ⟨wn_31, hwn_31⟩ : ∃ x, x = st wn_26 17 0 ((wn_26 17 0) + 1) := ⟨_, rfl⟩
          rw [← hwn_31] at hP
          have E := bns_e E hwn_31
          have ft31_taped : (wn_31 16 0).toInt = (wn_26 16 0).toInt := by rw [hwn_31]; rfl
          have ft31_at : (wn_31 17 0).toInt = ((wn_26 17 0) + 1 : Int32).toInt := by rw [hwn_31]; rfl
          have := i_addr (a := wn_26 17 0) (b := 1) (n := 1) q_1 (by omega) (by omega)
          have ft31_statements : (wn_31 18 0).toInt = (wn_26 18 0).toInt := by rw [hwn_31]; rfl
          have ft31_layers : (wn_31 11 0).toInt = (wn_26 11 0).toInt := by rw [hwn_31]; rfl
          have := i_addr (a := wn_26 17 0) (b := 1) (n := 1) q_1 (by omega) (by omega)
          have hI_31 : R7I wn_31 := by rw [hwn_31]; exact R7I_put_at hI_26 (by omega) (by omega)
          refine lv_iconst (v := 1) hx hb dX7_statement_111 (by decide) ?_
          have := q_1
          exact W.zret (ty := .boolean) (v := 1) hx hb hr (z_nar (Or.inr rfl)) (fun t ht hW => ⟨⟨_, wn_31, rfl, ⟨E.symm, (Or.inr rfl), hI_31, by omega, by omega, by omega, by omega, by omega⟩, by show va_P _ _ _ t.heap; rw [ht]; exact hP⟩, hS.F ht⟩) hS.2.2 dX7_statement_112
        · have E := E.trans (if_neg c_29)
          have fc_29 := i_ne c_29
          rw [q_59] at fc_29
          refine lv_iconst (v := 0) hx hb dX7_statement_99 (by decide) ?_
          have := q_0
          exact W.zret (ty := .boolean) (v := 0) hx hb hr (z_nar (Or.inl rfl)) (fun t ht hW => ⟨⟨_, wn_26, rfl, ⟨E.symm, (Or.inl rfl), hI_26, by omega, by omega, by omega, by omega, by omega⟩, by show va_P _ _ _ t.heap; rw [ht]; exact hP⟩, hS.F ht⟩) hS.2.2 dX7_statement_100
    · have E := E.trans (if_neg c_17)
      have fc_17 := i_ne c_17
      rw [q_119] at fc_17
      refine lv_iload_n hx hb dX7_statement_17 rfl (lv_at hl 0 rfl) ?_
      refine lv_bipush (v := 114) hx hb dX7_statement_18 (by decide +kernel) ?_
      refine lv_icmp_eq (tgt := 43) hx hb dX7_statement_20 (by decide) (fun c_32 => ?_) (fun c_32 => ?_)
      · have E := E.trans (if_pos c_32)
        have fc_32 := i_eq c_32
        rw [q_114] at fc_32
        refine lv_aload_n hx hb dX7_statement_43 rfl (lv_at hl 1 rfl) ?_
        refine g7_letter hx hb hts hin hown hK hP (hts (.fieldLink RX7 46 "LoadedForTheLaneModel" "letter" "[I") (by decide +kernel)) dX7_statement_44 ?_
        refine lv_aload_n hx hb dX7_statement_47 rfl (lv_at hl 1 rfl) ?_
        refine g7_statements hx hb hts hin hown hK hP (hts (.fieldLink RX7 112 "LoadedForTheLaneModel" "statements" "I") (by decide +kernel)) dX7_statement_48 ?_
        have f_33 := R7I_statements hI
        refine lv_iload_n hx hb dX7_statement_51 rfl (lv_at hl 0 rfl) ?_
        have ix_34 : vp_in (w 18 0) 48 := ix_of (by omega) (by omega)
        refine a7_letter (j := (w 18 0).toNatClampNeg) hx hb hK hP hd hS ix_34 rfl dX7_statement_52 (fun H locs hP hS => ?_)
        obtain ⟨wn_34, hwn_34⟩ : ∃ x, x = st w 13 ((w 18 0).toNatClampNeg) (sX7_next w) := ⟨_, rfl⟩
        rw [← hwn_34] at hP
        have E := bns_e E hwn_34
        have ft34_taped : (wn_34 16 0).toInt = (w 16 0).toInt := by rw [hwn_34]; rfl
        have ft34_at : (wn_34 17 0).toInt = (w 17 0).toInt := by rw [hwn_34]; rfl
        have ft34_statements : (wn_34 18 0).toInt = (w 18 0).toInt := by rw [hwn_34]; rfl
        have ft34_layers : (wn_34 11 0).toInt = (w 11 0).toInt := by rw [hwn_34]; rfl
        have fv_34 : (wn_34 13 ((w 18 0).toNatClampNeg)).toInt = ((sX7_next w) : Int32).toInt := by rw [hwn_34, st_rd]
        have hI_34 : R7I wn_34 := by rw [hwn_34]; exact R7I_put_letter hI
        refine lv_aload_n hx hb dX7_statement_53 rfl (lv_at hl 1 rfl) ?_
        refine g7_letterAt hx hb hts hin hown hK hP (hts (.fieldLink RX7 49 "LoadedForTheLaneModel" "letterAt" "[I") (by decide +kernel)) dX7_statement_54 ?_
        refine lv_aload_n hx hb dX7_statement_57 rfl (lv_at hl 1 rfl) ?_
        refine g7_statements hx hb hts hin hown hK hP (hts (.fieldLink RX7 112 "LoadedForTheLaneModel" "statements" "I") (by decide +kernel)) dX7_statement_58 ?_
        have f_35 := R7I_statements hI_34
        refine lv_aload_n hx hb dX7_statement_61 rfl (lv_at hl 1 rfl) ?_
        refine g7_at hx hb hts hin hown hK hP (hts (.fieldLink RX7 86 "LoadedForTheLaneModel" "at" "I") (by decide +kernel)) dX7_statement_62 ?_
        have f_36 := R7I_at hI_34
        have ix_37 : vp_in (wn_34 18 0) 48 := ix_of (by omega) (by omega)
        refine a7_letterAt (j := (wn_34 18 0).toNatClampNeg) hx hb hK hP hd hS ix_37 rfl dX7_statement_65 (fun H locs hP hS => ?_)
        obtain ⟨wn_37, hwn_37⟩ : ∃ x, x = st wn_34 14 ((wn_34 18 0).toNatClampNeg) (wn_34 17 0) := ⟨_, rfl⟩
        rw [← hwn_37] at hP
        have E := bns_e E hwn_37
        have ft37_taped : (wn_37 16 0).toInt = (wn_34 16 0).toInt := by rw [hwn_37]; rfl
        have ft37_at : (wn_37 17 0).toInt = (wn_34 17 0).toInt := by rw [hwn_37]; rfl
        have ft37_statements : (wn_37 18 0).toInt = (wn_34 18 0).toInt := by rw [hwn_37]; rfl
        have ft37_layers : (wn_37 11 0).toInt = (wn_34 11 0).toInt := by rw [hwn_37]; rfl
        have fv_37 : (wn_37 14 ((wn_34 18 0).toNatClampNeg)).toInt = (wn_34 17 0 : Int32).toInt := by rw [hwn_37, st_rd]
        have hI_37 : R7I wn_37 := by rw [hwn_37]; exact R7I_put_letterAt hI_34
        refine lv_aload_n hx hb dX7_statement_66 rfl (lv_at hl 1 rfl) ?_
        refine lv_dup hx hb dX7_statement_67 rfl ?_
        refine g7_at hx hb hts hin hown hK hP (hts (.fieldLink RX7 86 "LoadedForTheLaneModel" "at" "I") (by decide +kernel)) dX7_statement_68 ?_
        have f_38 := R7I_at hI_37
        refine lv_iconst (v := 1) hx hb dX7_statement_71 (by decide) ?_
        refine lv_iadd hx hb dX7_statement_72 ?_
        refine p7_at hx hb hts hin hown hK hP hd hS (hts (.fieldLink RX7 86 "LoadedForTheLaneModel" "at" "I") (by decide +kernel)) dX7_statement_73 (fun H locs hP hS => ?_)
        obtain ⟨wn_39, hwn_39⟩ : ∃ x, x = st wn_37 17 0 ((wn_37 17 0) + 1) := ⟨_, rfl⟩
        rw [← hwn_39] at hP
        have E := bns_e E hwn_39
        have ft39_taped : (wn_39 16 0).toInt = (wn_37 16 0).toInt := by rw [hwn_39]; rfl
        have ft39_at : (wn_39 17 0).toInt = ((wn_37 17 0) + 1 : Int32).toInt := by rw [hwn_39]; rfl
        have := i_addr (a := wn_37 17 0) (b := 1) (n := 1) q_1 (by omega) (by omega)
        have ft39_statements : (wn_39 18 0).toInt = (wn_37 18 0).toInt := by rw [hwn_39]; rfl
        have ft39_layers : (wn_39 11 0).toInt = (wn_37 11 0).toInt := by rw [hwn_39]; rfl
        have := i_addr (a := wn_37 17 0) (b := 1) (n := 1) q_1 (by omega) (by omega)
        have hI_39 : R7I wn_39 := by rw [hwn_39]; exact R7I_put_at hI_37 (by omega) (by omega)
        refine lv_aload_n hx hb dX7_statement_76 rfl (lv_at hl 1 rfl) ?_
        refine lv_iload_n hx hb dX7_statement_77 rfl (lv_at hl 0 rfl) ?_
        refine lv_iconst (v := 4) hx hb dX7_statement_78 (by decide) ?_
        refine lv_aload_n hx hb dX7_statement_79 rfl (lv_at hl 1 rfl) ?_
        refine g7_statements hx hb hts hin hown hK hP (hts (.fieldLink RX7 112 "LoadedForTheLaneModel" "statements" "I") (by decide +kernel)) dX7_statement_80 ?_
        have f_40 := R7I_statements hI_39
        refine lv_imul hx hb dX7_statement_83 ?_
        have := i_mull (a := 4) (b := wn_39 18 0) (n := 4) q_4 (by omega) (by omega)
        refine va_calli (va_runV (As := [.int (sX7_next w), .int (4 * (wn_39 18 0))]) (rest := []) ⟨hx, hb, hml, hown, hts⟩ (kX7_readsAll l D cI ad wn_39 (sX7_next w) (4 * (wn_39 18 0)) hd hI_39 (by omega) (by omega)) (cwV 2 hts gX7_statement_X7_readsAll rfl rfl rfl mdX7_readsAll ⟨Nat.le_of_ble_eq_true rfl, Nat.le_of_ble_eq_true rfl⟩) (r7_pre hK hP) rfl rfl hl.1 rfl (lv_room (Nat.le_of_ble_eq_true rfl)) dX7_statement_84 ⟨Nat.zero_le _, Nat.zero_le _⟩) hS (fun _ _ h => h) (fun _ h => h) (fun rn_41 wn_41 t H locs ht hvm hp_41 hB hz hfr hS => ?_)
        have hP : va_P D vwCl (RM cI ad wn_41) H := ht ▸ hB
        obtain ⟨hp_41, hz_41, hI_41, hq0_41, hq1_41, hq2_41, hq3_41⟩ := hp_41
        have E := bnd_e E hp_41
        have hzi_41 := z_int hz_41
        refine lv_if_eq (tgt := 99) hx hb dX7_statement_87 (by decide) (fun c_42 => ?_) (fun c_42 => ?_)
        · have E := E.trans (if_pos c_42)
          have fc_42 := i_eq c_42
          rw [q_0] at fc_42
          refine lv_iconst (v := 0) hx hb dX7_statement_99 (by decide) ?_
          have := q_0
          exact W.zret (ty := .boolean) (v := 0) hx hb hr (z_nar (Or.inl rfl)) (fun t ht hW => ⟨⟨_, wn_41, rfl, ⟨E.symm, (Or.inl rfl), hI_41, by omega, by omega, by omega, by omega, by omega⟩, by show va_P _ _ _ t.heap; rw [ht]; exact hP⟩, hS.F ht⟩) hS.2.2 dX7_statement_100
        · have E := E.trans (if_neg c_42)
          have fc_42 := i_ne c_42
          rw [q_0] at fc_42
          refine lv_aload_n hx hb dX7_statement_90 rfl (lv_at hl 1 rfl) ?_
          refine vp_callSi (va_Run.run (va_runV (As := []) (rest := []) ⟨hx, hb, hml, hown, hts⟩ (kX7_next l D cI ad wn_41 hI_41) (cwV 0 hts gX7_statement_X7_next rfl rfl rfl mdX7_next ⟨Nat.le_of_ble_eq_true rfl, Nat.le_of_ble_eq_true rfl⟩) (r7_pre hK hP) rfl rfl hl.1 rfl (lv_room (Nat.le_of_ble_eq_true rfl)) dX7_statement_91 ⟨Nat.zero_le _, Nat.zero_le _⟩)) (fun r_43 hr_43 => ?_)
          subst hr_43
          have rf_43 := rX7_next wn_41
          have rt_43 := R7I_taped hI_41
          refine lv_bipush (v := 59) hx hb dX7_statement_94 (by decide +kernel) ?_
          refine lv_icmp_eq (tgt := 101) hx hb dX7_statement_96 (by decide) (fun c_44 => ?_) (fun c_44 => ?_)
          · have E := E.trans (if_pos c_44)
            have fc_44 := i_eq c_44
            rw [q_59] at fc_44
            refine lv_aload_n hx hb dX7_statement_101 rfl (lv_at hl 1 rfl) ?_
            refine lv_dup hx hb dX7_statement_102 rfl ?_
            refine g7_at hx hb hts hin hown hK hP (hts (.fieldLink RX7 86 "LoadedForTheLaneModel" "at" "I") (by decide +kernel)) dX7_statement_103 ?_
            have f_45 := R7I_at hI_41
            refine lv_iconst (v := 1) hx hb dX7_statement_106 (by decide) ?_
            refine lv_iadd hx hb dX7_statement_107 ?_
            refine p7_at hx hb hts hin hown hK hP hd hS (hts (.fieldLink RX7 86 "LoadedForTheLaneModel" "at" "I") (by decide +kernel)) dX7_statement_108 (fun H locs hP hS => ?_)
            obtain ⟨wn_46, hwn_46⟩ : ∃ x, x = st wn_41 17 0 ((wn_41 17 0) + 1) := ⟨_, rfl⟩
            rw [← hwn_46] at hP
            have E := bns_e E hwn_46
            have ft46_taped : (wn_46 16 0).toInt = (wn_41 16 0).toInt := by rw [hwn_46]; rfl
            have ft46_at : (wn_46 17 0).toInt = ((wn_41 17 0) + 1 : Int32).toInt := by rw [hwn_46]; rfl
            have := i_addr (a := wn_41 17 0) (b := 1) (n := 1) q_1 (by omega) (by omega)
            have ft46_statements : (wn_46 18 0).toInt = (wn_41 18 0).toInt := by rw [hwn_46]; rfl
            have ft46_layers : (wn_46 11 0).toInt = (wn_41 11 0).toInt := by rw [hwn_46]; rfl
            have := i_addr (a := wn_41 17 0) (b := 1) (n := 1) q_1 (by omega) (by omega)
            have hI_46 : R7I wn_46 := by rw [hwn_46]; exact R7I_put_at hI_41 (by omega) (by omega)
            refine lv_iconst (v := 1) hx hb dX7_statement_111 (by decide) ?_
            have := q_1
            exact W.zret (ty := .boolean) (v := 1) hx hb hr (z_nar (Or.inr rfl)) (fun t ht hW => ⟨⟨_, wn_46, rfl, ⟨E.symm, (Or.inr rfl), hI_46, by omega, by omega, by omega, by omega, by omega⟩, by show va_P _ _ _ t.heap; rw [ht]; exact hP⟩, hS.F ht⟩) hS.2.2 dX7_statement_112
          · have E := E.trans (if_neg c_44)
            have fc_44 := i_ne c_44
            rw [q_59] at fc_44
            refine lv_iconst (v := 0) hx hb dX7_statement_99 (by decide) ?_
            have := q_0
            exact W.zret (ty := .boolean) (v := 0) hx hb hr (z_nar (Or.inl rfl)) (fun t ht hW => ⟨⟨_, wn_41, rfl, ⟨E.symm, (Or.inl rfl), hI_41, by omega, by omega, by omega, by omega, by omega⟩, by show va_P _ _ _ t.heap; rw [ht]; exact hP⟩, hS.F ht⟩) hS.2.2 dX7_statement_100
      · have E := E.trans (if_neg c_32)
        have fc_32 := i_ne c_32
        rw [q_114] at fc_32
        refine lv_iload_n hx hb dX7_statement_23 rfl (lv_at hl 0 rfl) ?_
        refine lv_bipush (v := 107) hx hb dX7_statement_24 (by decide +kernel) ?_
        refine lv_icmp_eq (tgt := 43) hx hb dX7_statement_26 (by decide) (fun c_47 => ?_) (fun c_47 => ?_)
        · have E := E.trans (if_pos c_47)
          have fc_47 := i_eq c_47
          rw [q_107] at fc_47
          refine lv_aload_n hx hb dX7_statement_43 rfl (lv_at hl 1 rfl) ?_
          refine g7_letter hx hb hts hin hown hK hP (hts (.fieldLink RX7 46 "LoadedForTheLaneModel" "letter" "[I") (by decide +kernel)) dX7_statement_44 ?_
          refine lv_aload_n hx hb dX7_statement_47 rfl (lv_at hl 1 rfl) ?_
          refine g7_statements hx hb hts hin hown hK hP (hts (.fieldLink RX7 112 "LoadedForTheLaneModel" "statements" "I") (by decide +kernel)) dX7_statement_48 ?_
          have f_48 := R7I_statements hI
          refine lv_iload_n hx hb dX7_statement_51 rfl (lv_at hl 0 rfl) ?_
          have ix_49 : vp_in (w 18 0) 48 := ix_of (by omega) (by omega)
          refine a7_letter (j := (w 18 0).toNatClampNeg) hx hb hK hP hd hS ix_49 rfl dX7_statement_52 (fun H locs hP hS => ?_)
          obtain ⟨wn_49, hwn_49⟩ : ∃ x, x = st w 13 ((w 18 0).toNatClampNeg) (sX7_next w) := ⟨_, rfl⟩
          rw [← hwn_49] at hP
          have E := bns_e E hwn_49
          have ft49_taped : (wn_49 16 0).toInt = (w 16 0).toInt := by rw [hwn_49]; rfl
          have ft49_at : (wn_49 17 0).toInt = (w 17 0).toInt := by rw [hwn_49]; rfl
          have ft49_statements : (wn_49 18 0).toInt = (w 18 0).toInt := by rw [hwn_49]; rfl
          have ft49_layers : (wn_49 11 0).toInt = (w 11 0).toInt := by rw [hwn_49]; rfl
          have fv_49 : (wn_49 13 ((w 18 0).toNatClampNeg)).toInt = ((sX7_next w) : Int32).toInt := by rw [hwn_49, st_rd]
          have hI_49 : R7I wn_49 := by rw [hwn_49]; exact R7I_put_letter hI
          refine lv_aload_n hx hb dX7_statement_53 rfl (lv_at hl 1 rfl) ?_
          refine g7_letterAt hx hb hts hin hown hK hP (hts (.fieldLink RX7 49 "LoadedForTheLaneModel" "letterAt" "[I") (by decide +kernel)) dX7_statement_54 ?_
          refine lv_aload_n hx hb dX7_statement_57 rfl (lv_at hl 1 rfl) ?_
          refine g7_statements hx hb hts hin hown hK hP (hts (.fieldLink RX7 112 "LoadedForTheLaneModel" "statements" "I") (by decide +kernel)) dX7_statement_58 ?_
          have f_50 := R7I_statements hI_49
          refine lv_aload_n hx hb dX7_statement_61 rfl (lv_at hl 1 rfl) ?_
          refine g7_at hx hb hts hin hown hK hP (hts (.fieldLink RX7 86 "LoadedForTheLaneModel" "at" "I") (by decide +kernel)) dX7_statement_62 ?_
          have f_51 := R7I_at hI_49
          have ix_52 : vp_in (wn_49 18 0) 48 := ix_of (by omega) (by omega)
          refine a7_letterAt (j := (wn_49 18 0).toNatClampNeg) hx hb hK hP hd hS ix_52 rfl dX7_statement_65 (fun H locs hP hS => ?_)
          obtain ⟨wn_52, hwn_52⟩ : ∃ x, x = st wn_49 14 ((wn_49 18 0).toNatClampNeg) (wn_49 17 0) := ⟨_, rfl⟩
          rw [← hwn_52] at hP
          have E := bns_e E hwn_52
          have ft52_taped : (wn_52 16 0).toInt = (wn_49 16 0).toInt := by rw [hwn_52]; rfl
          have ft52_at : (wn_52 17 0).toInt = (wn_49 17 0).toInt := by rw [hwn_52]; rfl
          have ft52_statements : (wn_52 18 0).toInt = (wn_49 18 0).toInt := by rw [hwn_52]; rfl
          have ft52_layers : (wn_52 11 0).toInt = (wn_49 11 0).toInt := by rw [hwn_52]; rfl
          have fv_52 : (wn_52 14 ((wn_49 18 0).toNatClampNeg)).toInt = (wn_49 17 0 : Int32).toInt := by rw [hwn_52, st_rd]
          have hI_52 : R7I wn_52 := by rw [hwn_52]; exact R7I_put_letterAt hI_49
          refine lv_aload_n hx hb dX7_statement_66 rfl (lv_at hl 1 rfl) ?_
          refine lv_dup hx hb dX7_statement_67 rfl ?_
          refine g7_at hx hb hts hin hown hK hP (hts (.fieldLink RX7 86 "LoadedForTheLaneModel" "at" "I") (by decide +kernel)) dX7_statement_68 ?_
          have f_53 := R7I_at hI_52
          refine lv_iconst (v := 1) hx hb dX7_statement_71 (by decide) ?_
          refine lv_iadd hx hb dX7_statement_72 ?_
          refine p7_at hx hb hts hin hown hK hP hd hS (hts (.fieldLink RX7 86 "LoadedForTheLaneModel" "at" "I") (by decide +kernel)) dX7_statement_73 (fun H locs hP hS => ?_)
          obtain ⟨wn_54, hwn_54⟩ : ∃ x, x = st wn_52 17 0 ((wn_52 17 0) + 1) := ⟨_, rfl⟩
          rw [← hwn_54] at hP
          have E := bns_e E hwn_54
          have ft54_taped : (wn_54 16 0).toInt = (wn_52 16 0).toInt := by rw [hwn_54]; rfl
          have ft54_at : (wn_54 17 0).toInt = ((wn_52 17 0) + 1 : Int32).toInt := by rw [hwn_54]; rfl
          have := i_addr (a := wn_52 17 0) (b := 1) (n := 1) q_1 (by omega) (by omega)
          have ft54_statements : (wn_54 18 0).toInt = (wn_52 18 0).toInt := by rw [hwn_54]; rfl
          have ft54_layers : (wn_54 11 0).toInt = (wn_52 11 0).toInt := by rw [hwn_54]; rfl
          have := i_addr (a := wn_52 17 0) (b := 1) (n := 1) q_1 (by omega) (by omega)
          have hI_54 : R7I wn_54 := by rw [hwn_54]; exact R7I_put_at hI_52 (by omega) (by omega)
          refine lv_aload_n hx hb dX7_statement_76 rfl (lv_at hl 1 rfl) ?_
          refine lv_iload_n hx hb dX7_statement_77 rfl (lv_at hl 0 rfl) ?_
          refine lv_iconst (v := 4) hx hb dX7_statement_78 (by decide) ?_
          refine lv_aload_n hx hb dX7_statement_79 rfl (lv_at hl 1 rfl) ?_
          refine g7_statements hx hb hts hin hown hK hP (hts (.fieldLink RX7 112 "LoadedForTheLaneModel" "statements" "I") (by decide +kernel)) dX7_statement_80 ?_
          have f_55 := R7I_statements hI_54
          refine lv_imul hx hb dX7_statement_83 ?_
          have := i_mull (a := 4) (b := wn_54 18 0) (n := 4) q_4 (by omega) (by omega)
          refine va_calli (va_runV (As := [.int (sX7_next w), .int (4 * (wn_54 18 0))]) (rest := []) ⟨hx, hb, hml, hown, hts⟩ (kX7_readsAll l D cI ad wn_54 (sX7_next w) (4 * (wn_54 18 0)) hd hI_54 (by omega) (by omega)) (cwV 2 hts gX7_statement_X7_readsAll rfl rfl rfl mdX7_readsAll ⟨Nat.le_of_ble_eq_true rfl, Nat.le_of_ble_eq_true rfl⟩) (r7_pre hK hP) rfl rfl hl.1 rfl (lv_room (Nat.le_of_ble_eq_true rfl)) dX7_statement_84 ⟨Nat.zero_le _, Nat.zero_le _⟩) hS (fun _ _ h => h) (fun _ h => h) (fun rn_56 wn_56 t H locs ht hvm hp_56 hB hz hfr hS => ?_)
          have hP : va_P D vwCl (RM cI ad wn_56) H := ht ▸ hB
          obtain ⟨hp_56, hz_56, hI_56, hq0_56, hq1_56, hq2_56, hq3_56⟩ := hp_56
          have E := bnd_e E hp_56
          have hzi_56 := z_int hz_56
          refine lv_if_eq (tgt := 99) hx hb dX7_statement_87 (by decide) (fun c_57 => ?_) (fun c_57 => ?_)
          · have E := E.trans (if_pos c_57)
            have fc_57 := i_eq c_57
            rw [q_0] at fc_57
            refine lv_iconst (v := 0) hx hb dX7_statement_99 (by decide) ?_
            have := q_0
            exact W.zret (ty := .boolean) (v := 0) hx hb hr (z_nar (Or.inl rfl)) (fun t ht hW => ⟨⟨_, wn_56, rfl, ⟨E.symm, (Or.inl rfl), hI_56, by omega, by omega, by omega, by omega, by omega⟩, by show va_P _ _ _ t.heap; rw [ht]; exact hP⟩, hS.F ht⟩) hS.2.2 dX7_statement_100
          · have E := E.trans (if_neg c_57)
            have fc_57 := i_ne c_57
            rw [q_0] at fc_57
            refine lv_aload_n hx hb dX7_statement_90 rfl (lv_at hl 1 rfl) ?_
            refine vp_callSi (va_Run.run (va_runV (As := []) (rest := []) ⟨hx, hb, hml, hown, hts⟩ (kX7_next l D cI ad wn_56 hI_56) (cwV 0 hts gX7_statement_X7_next rfl rfl rfl mdX7_next ⟨Nat.le_of_ble_eq_true rfl, Nat.le_of_ble_eq_true rfl⟩) (r7_pre hK hP) rfl rfl hl.1 rfl (lv_room (Nat.le_of_ble_eq_true rfl)) dX7_statement_91 ⟨Nat.zero_le _, Nat.zero_le _⟩)) (fun r_58 hr_58 => ?_)
            subst hr_58
            have rf_58 := rX7_next wn_56
            have rt_58 := R7I_taped hI_56
            refine lv_bipush (v := 59) hx hb dX7_statement_94 (by decide +kernel) ?_
            refine lv_icmp_eq (tgt := 101) hx hb dX7_statement_96 (by decide) (fun c_59 => ?_) (fun c_59 => ?_)
            · have E := E.trans (if_pos c_59)
              have fc_59 := i_eq c_59
              rw [q_59] at fc_59
              refine lv_aload_n hx hb dX7_statement_101 rfl (lv_at hl 1 rfl) ?_
              refine lv_dup hx hb dX7_statement_102 rfl ?_
              refine g7_at hx hb hts hin hown hK hP (hts (.fieldLink RX7 86 "LoadedForTheLaneModel" "at" "I") (by decide +kernel)) dX7_statement_103 ?_
              have f_60 := R7I_at hI_56
              refine lv_iconst (v := 1) hx hb dX7_statement_106 (by decide) ?_
              refine lv_iadd hx hb dX7_statement_107 ?_
              refine p7_at hx hb hts hin hown hK hP hd hS (hts (.fieldLink RX7 86 "LoadedForTheLaneModel" "at" "I") (by decide +kernel)) dX7_statement_108 (fun H locs hP hS => ?_)
              obtain ⟨wn_61, hwn_61⟩ : ∃ x, x = st wn_56 17 0 ((wn_56 17 0) + 1) := ⟨_, rfl⟩
              rw [← hwn_61] at hP
              have E := bns_e E hwn_61
              have ft61_taped : (wn_61 16 0).toInt = (wn_56 16 0).toInt := by rw [hwn_61]; rfl
              have ft61_at : (wn_61 17 0).toInt = ((wn_56 17 0) + 1 : Int32).toInt := by rw [hwn_61]; rfl
              have := i_addr (a := wn_56 17 0) (b := 1) (n := 1) q_1 (by omega) (by omega)
              have ft61_statements : (wn_61 18 0).toInt = (wn_56 18 0).toInt := by rw [hwn_61]; rfl
              have ft61_layers : (wn_61 11 0).toInt = (wn_56 11 0).toInt := by rw [hwn_61]; rfl
              have := i_addr (a := wn_56 17 0) (b := 1) (n := 1) q_1 (by omega) (by omega)
              have hI_61 : R7I wn_61 := by rw [hwn_61]; exact R7I_put_at hI_56 (by omega) (by omega)
              refine lv_iconst (v := 1) hx hb dX7_statement_111 (by decide) ?_
              have := q_1
              exact W.zret (ty := .boolean) (v := 1) hx hb hr (z_nar (Or.inr rfl)) (fun t ht hW => ⟨⟨_, wn_61, rfl, ⟨E.symm, (Or.inr rfl), hI_61, by omega, by omega, by omega, by omega, by omega⟩, by show va_P _ _ _ t.heap; rw [ht]; exact hP⟩, hS.F ht⟩) hS.2.2 dX7_statement_112
            · have E := E.trans (if_neg c_59)
              have fc_59 := i_ne c_59
              rw [q_59] at fc_59
              refine lv_iconst (v := 0) hx hb dX7_statement_99 (by decide) ?_
              have := q_0
              exact W.zret (ty := .boolean) (v := 0) hx hb hr (z_nar (Or.inl rfl)) (fun t ht hW => ⟨⟨_, wn_56, rfl, ⟨E.symm, (Or.inl rfl), hI_56, by omega, by omega, by omega, by omega, by omega⟩, by show va_P _ _ _ t.heap; rw [ht]; exact hP⟩, hS.F ht⟩) hS.2.2 dX7_statement_100
        · have E := E.trans (if_neg c_47)
          have fc_47 := i_ne c_47
          rw [q_107] at fc_47
          refine lv_iload_n hx hb dX7_statement_29 rfl (lv_at hl 0 rfl) ?_
          refine lv_bipush (v := 102) hx hb dX7_statement_30 (by decide +kernel) ?_
          refine lv_icmp_eq (tgt := 43) hx hb dX7_statement_32 (by decide) (fun c_62 => ?_) (fun c_62 => ?_)
          · have E := E.trans (if_pos c_62)
            have fc_62 := i_eq c_62
            rw [q_102] at fc_62
            refine lv_aload_n hx hb dX7_statement_43 rfl (lv_at hl 1 rfl) ?_
            refine g7_letter hx hb hts hin hown hK hP (hts (.fieldLink RX7 46 "LoadedForTheLaneModel" "letter" "[I") (by decide +kernel)) dX7_statement_44 ?_
            refine lv_aload_n hx hb dX7_statement_47 rfl (lv_at hl 1 rfl) ?_
            refine g7_statements hx hb hts hin hown hK hP (hts (.fieldLink RX7 112 "LoadedForTheLaneModel" "statements" "I") (by decide +kernel)) dX7_statement_48 ?_
            have f_63 := R7I_statements hI
            refine lv_iload_n hx hb dX7_statement_51 rfl (lv_at hl 0 rfl) ?_
            have ix_64 : vp_in (w 18 0) 48 := ix_of (by omega) (by omega)
            refine a7_letter (j := (w 18 0).toNatClampNeg) hx hb hK hP hd hS ix_64 rfl dX7_statement_52 (fun H locs hP hS => ?_)
            obtain ⟨wn_64, hwn_64⟩ : ∃ x, x = st w 13 ((w 18 0).toNatClampNeg) (sX7_next w) := ⟨_, rfl⟩
            rw [← hwn_64] at hP
            have E := bns_e E hwn_64
            have ft64_taped : (wn_64 16 0).toInt = (w 16 0).toInt := by rw [hwn_64]; rfl
            have ft64_at : (wn_64 17 0).toInt = (w 17 0).toInt := by rw [hwn_64]; rfl
            have ft64_statements : (wn_64 18 0).toInt = (w 18 0).toInt := by rw [hwn_64]; rfl
            have ft64_layers : (wn_64 11 0).toInt = (w 11 0).toInt := by rw [hwn_64]; rfl
            have fv_64 : (wn_64 13 ((w 18 0).toNatClampNeg)).toInt = ((sX7_next w) : Int32).toInt := by rw [hwn_64, st_rd]
            have hI_64 : R7I wn_64 := by rw [hwn_64]; exact R7I_put_letter hI
            refine lv_aload_n hx hb dX7_statement_53 rfl (lv_at hl 1 rfl) ?_
            refine g7_letterAt hx hb hts hin hown hK hP (hts (.fieldLink RX7 49 "LoadedForTheLaneModel" "letterAt" "[I") (by decide +kernel)) dX7_statement_54 ?_
            refine lv_aload_n hx hb dX7_statement_57 rfl (lv_at hl 1 rfl) ?_
            refine g7_statements hx hb hts hin hown hK hP (hts (.fieldLink RX7 112 "LoadedForTheLaneModel" "statements" "I") (by decide +kernel)) dX7_statement_58 ?_
            have f_65 := R7I_statements hI_64
            refine lv_aload_n hx hb dX7_statement_61 rfl (lv_at hl 1 rfl) ?_
            refine g7_at hx hb hts hin hown hK hP (hts (.fieldLink RX7 86 "LoadedForTheLaneModel" "at" "I") (by decide +kernel)) dX7_statement_62 ?_
            have f_66 := R7I_at hI_64
            have ix_67 : vp_in (wn_64 18 0) 48 := ix_of (by omega) (by omega)
            refine a7_letterAt (j := (wn_64 18 0).toNatClampNeg) hx hb hK hP hd hS ix_67 rfl dX7_statement_65 (fun H locs hP hS => ?_)
            obtain ⟨wn_67, hwn_67⟩ : ∃ x, x = st wn_64 14 ((wn_64 18 0).toNatClampNeg) (wn_64 17 0) := ⟨_, rfl⟩
            rw [← hwn_67] at hP
            have E := bns_e E hwn_67
            have ft67_taped : (wn_67 16 0).toInt = (wn_64 16 0).toInt := by rw [hwn_67]; rfl
            have ft67_at : (wn_67 17 0).toInt = (wn_64 17 0).toInt := by rw [hwn_67]; rfl
            have ft67_statements : (wn_67 18 0).toInt = (wn_64 18 0).toInt := by rw [hwn_67]; rfl
            have ft67_layers : (wn_67 11 0).toInt = (wn_64 11 0).toInt := by rw [hwn_67]; rfl
            have fv_67 : (wn_67 14 ((wn_64 18 0).toNatClampNeg)).toInt = (wn_64 17 0 : Int32).toInt := by rw [hwn_67, st_rd]
            have hI_67 : R7I wn_67 := by rw [hwn_67]; exact R7I_put_letterAt hI_64
            refine lv_aload_n hx hb dX7_statement_66 rfl (lv_at hl 1 rfl) ?_
            refine lv_dup hx hb dX7_statement_67 rfl ?_
            refine g7_at hx hb hts hin hown hK hP (hts (.fieldLink RX7 86 "LoadedForTheLaneModel" "at" "I") (by decide +kernel)) dX7_statement_68 ?_
            have f_68 := R7I_at hI_67
            refine lv_iconst (v := 1) hx hb dX7_statement_71 (by decide) ?_
            refine lv_iadd hx hb dX7_statement_72 ?_
            refine p7_at hx hb hts hin hown hK hP hd hS (hts (.fieldLink RX7 86 "LoadedForTheLaneModel" "at" "I") (by decide +kernel)) dX7_statement_73 (fun H locs hP hS => ?_)
            obtain ⟨wn_69, hwn_69⟩ : ∃ x, x = st wn_67 17 0 ((wn_67 17 0) + 1) := ⟨_, rfl⟩
            rw [← hwn_69] at hP
            have E := bns_e E hwn_69
            have ft69_taped : (wn_69 16 0).toInt = (wn_67 16 0).toInt := by rw [hwn_69]; rfl
            have ft69_at : (wn_69 17 0).toInt = ((wn_67 17 0) + 1 : Int32).toInt := by rw [hwn_69]; rfl
            have := i_addr (a := wn_67 17 0) (b := 1) (n := 1) q_1 (by omega) (by omega)
            have ft69_statements : (wn_69 18 0).toInt = (wn_67 18 0).toInt := by rw [hwn_69]; rfl
            have ft69_layers : (wn_69 11 0).toInt = (wn_67 11 0).toInt := by rw [hwn_69]; rfl
            have := i_addr (a := wn_67 17 0) (b := 1) (n := 1) q_1 (by omega) (by omega)
            have hI_69 : R7I wn_69 := by rw [hwn_69]; exact R7I_put_at hI_67 (by omega) (by omega)
            refine lv_aload_n hx hb dX7_statement_76 rfl (lv_at hl 1 rfl) ?_
            refine lv_iload_n hx hb dX7_statement_77 rfl (lv_at hl 0 rfl) ?_
            refine lv_iconst (v := 4) hx hb dX7_statement_78 (by decide) ?_
            refine lv_aload_n hx hb dX7_statement_79 rfl (lv_at hl 1 rfl) ?_
            refine g7_statements hx hb hts hin hown hK hP (hts (.fieldLink RX7 112 "LoadedForTheLaneModel" "statements" "I") (by decide +kernel)) dX7_statement_80 ?_
            have f_70 := R7I_statements hI_69
            refine lv_imul hx hb dX7_statement_83 ?_
            have := i_mull (a := 4) (b := wn_69 18 0) (n := 4) q_4 (by omega) (by omega)
            refine va_calli (va_runV (As := [.int (sX7_next w), .int (4 * (wn_69 18 0))]) (rest := []) ⟨hx, hb, hml, hown, hts⟩ (kX7_readsAll l D cI ad wn_69 (sX7_next w) (4 * (wn_69 18 0)) hd hI_69 (by omega) (by omega)) (cwV 2 hts gX7_statement_X7_readsAll rfl rfl rfl mdX7_readsAll ⟨Nat.le_of_ble_eq_true rfl, Nat.le_of_ble_eq_true rfl⟩) (r7_pre hK hP) rfl rfl hl.1 rfl (lv_room (Nat.le_of_ble_eq_true rfl)) dX7_statement_84 ⟨Nat.zero_le _, Nat.zero_le _⟩) hS (fun _ _ h => h) (fun _ h => h) (fun rn_71 wn_71 t H locs ht hvm hp_71 hB hz hfr hS => ?_)
            have hP : va_P D vwCl (RM cI ad wn_71) H := ht ▸ hB
            obtain ⟨hp_71, hz_71, hI_71, hq0_71, hq1_71, hq2_71, hq3_71⟩ := hp_71
            have E := bnd_e E hp_71
            have hzi_71 := z_int hz_71
            refine lv_if_eq (tgt := 99) hx hb dX7_statement_87 (by decide) (fun c_72 => ?_) (fun c_72 => ?_)
            · have E := E.trans (if_pos c_72)
              have fc_72 := i_eq c_72
              rw [q_0] at fc_72
              refine lv_iconst (v := 0) hx hb dX7_statement_99 (by decide) ?_
              have := q_0
              exact W.zret (ty := .boolean) (v := 0) hx hb hr (z_nar (Or.inl rfl)) (fun t ht hW => ⟨⟨_, wn_71, rfl, ⟨E.symm, (Or.inl rfl), hI_71, by omega, by omega, by omega, by omega, by omega⟩, by show va_P _ _ _ t.heap; rw [ht]; exact hP⟩, hS.F ht⟩) hS.2.2 dX7_statement_100
            · have E := E.trans (if_neg c_72)
              have fc_72 := i_ne c_72
              rw [q_0] at fc_72
              refine lv_aload_n hx hb dX7_statement_90 rfl (lv_at hl 1 rfl) ?_
              refine vp_callSi (va_Run.run (va_runV (As := []) (rest := []) ⟨hx, hb, hml, hown, hts⟩ (kX7_next l D cI ad wn_71 hI_71) (cwV 0 hts gX7_statement_X7_next rfl rfl rfl mdX7_next ⟨Nat.le_of_ble_eq_true rfl, Nat.le_of_ble_eq_true rfl⟩) (r7_pre hK hP) rfl rfl hl.1 rfl (lv_room (Nat.le_of_ble_eq_true rfl)) dX7_statement_91 ⟨Nat.zero_le _, Nat.zero_le _⟩)) (fun r_73 hr_73 => ?_)
              subst hr_73
              have rf_73 := rX7_next wn_71
              have rt_73 := R7I_taped hI_71
              refine lv_bipush (v := 59) hx hb dX7_statement_94 (by decide +kernel) ?_
              refine lv_icmp_eq (tgt := 101) hx hb dX7_statement_96 (by decide) (fun c_74 => ?_) (fun c_74 => ?_)
              · have E := E.trans (if_pos c_74)
                have fc_74 := i_eq c_74
                rw [q_59] at fc_74
                refine lv_aload_n hx hb dX7_statement_101 rfl (lv_at hl 1 rfl) ?_
                refine lv_dup hx hb dX7_statement_102 rfl ?_
                refine g7_at hx hb hts hin hown hK hP (hts (.fieldLink RX7 86 "LoadedForTheLaneModel" "at" "I") (by decide +kernel)) dX7_statement_103 ?_
                have f_75 := R7I_at hI_71
                refine lv_iconst (v := 1) hx hb dX7_statement_106 (by decide) ?_
                refine lv_iadd hx hb dX7_statement_107 ?_
                refine p7_at hx hb hts hin hown hK hP hd hS (hts (.fieldLink RX7 86 "LoadedForTheLaneModel" "at" "I") (by decide +kernel)) dX7_statement_108 (fun H locs hP hS => ?_)
                obtain ⟨wn_76, hwn_76⟩ : ∃ x, x = st wn_71 17 0 ((wn_71 17 0) + 1) := ⟨_, rfl⟩
                rw [← hwn_76] at hP
                have E := bns_e E hwn_76
                have ft76_taped : (wn_76 16 0).toInt = (wn_71 16 0).toInt := by rw [hwn_76]; rfl
                have ft76_at : (wn_76 17 0).toInt = ((wn_71 17 0) + 1 : Int32).toInt := by rw [hwn_76]; rfl
                have := i_addr (a := wn_71 17 0) (b := 1) (n := 1) q_1 (by omega) (by omega)
                have ft76_statements : (wn_76 18 0).toInt = (wn_71 18 0).toInt := by rw [hwn_76]; rfl
                have ft76_layers : (wn_76 11 0).toInt = (wn_71 11 0).toInt := by rw [hwn_76]; rfl
                have := i_addr (a := wn_71 17 0) (b := 1) (n := 1) q_1 (by omega) (by omega)
                have hI_76 : R7I wn_76 := by rw [hwn_76]; exact R7I_put_at hI_71 (by omega) (by omega)
                refine lv_iconst (v := 1) hx hb dX7_statement_111 (by decide) ?_
                have := q_1
                exact W.zret (ty := .boolean) (v := 1) hx hb hr (z_nar (Or.inr rfl)) (fun t ht hW => ⟨⟨_, wn_76, rfl, ⟨E.symm, (Or.inr rfl), hI_76, by omega, by omega, by omega, by omega, by omega⟩, by show va_P _ _ _ t.heap; rw [ht]; exact hP⟩, hS.F ht⟩) hS.2.2 dX7_statement_112
              · have E := E.trans (if_neg c_74)
                have fc_74 := i_ne c_74
                rw [q_59] at fc_74
                refine lv_iconst (v := 0) hx hb dX7_statement_99 (by decide) ?_
                have := q_0
                exact W.zret (ty := .boolean) (v := 0) hx hb hr (z_nar (Or.inl rfl)) (fun t ht hW => ⟨⟨_, wn_71, rfl, ⟨E.symm, (Or.inl rfl), hI_71, by omega, by omega, by omega, by omega, by omega⟩, by show va_P _ _ _ t.heap; rw [ht]; exact hP⟩, hS.F ht⟩) hS.2.2 dX7_statement_100
          · have E := E.trans (if_neg c_62)
            have fc_62 := i_ne c_62
            rw [q_102] at fc_62
            refine lv_iload_n hx hb dX7_statement_35 rfl (lv_at hl 0 rfl) ?_
            refine lv_bipush (v := 117) hx hb dX7_statement_36 (by decide +kernel) ?_
            refine lv_icmp_eq (tgt := 43) hx hb dX7_statement_38 (by decide) (fun c_77 => ?_) (fun c_77 => ?_)
            · have E := E.trans (if_pos c_77)
              have fc_77 := i_eq c_77
              rw [q_117] at fc_77
              refine lv_aload_n hx hb dX7_statement_43 rfl (lv_at hl 1 rfl) ?_
              refine g7_letter hx hb hts hin hown hK hP (hts (.fieldLink RX7 46 "LoadedForTheLaneModel" "letter" "[I") (by decide +kernel)) dX7_statement_44 ?_
              refine lv_aload_n hx hb dX7_statement_47 rfl (lv_at hl 1 rfl) ?_
              refine g7_statements hx hb hts hin hown hK hP (hts (.fieldLink RX7 112 "LoadedForTheLaneModel" "statements" "I") (by decide +kernel)) dX7_statement_48 ?_
              have f_78 := R7I_statements hI
              refine lv_iload_n hx hb dX7_statement_51 rfl (lv_at hl 0 rfl) ?_
              have ix_79 : vp_in (w 18 0) 48 := ix_of (by omega) (by omega)
              refine a7_letter (j := (w 18 0).toNatClampNeg) hx hb hK hP hd hS ix_79 rfl dX7_statement_52 (fun H locs hP hS => ?_)
              obtain ⟨wn_79, hwn_79⟩ : ∃ x, x = st w 13 ((w 18 0).toNatClampNeg) (sX7_next w) := ⟨_, rfl⟩
              rw [← hwn_79] at hP
              have E := bns_e E hwn_79
              have ft79_taped : (wn_79 16 0).toInt = (w 16 0).toInt := by rw [hwn_79]; rfl
              have ft79_at : (wn_79 17 0).toInt = (w 17 0).toInt := by rw [hwn_79]; rfl
              have ft79_statements : (wn_79 18 0).toInt = (w 18 0).toInt := by rw [hwn_79]; rfl
              have ft79_layers : (wn_79 11 0).toInt = (w 11 0).toInt := by rw [hwn_79]; rfl
              have fv_79 : (wn_79 13 ((w 18 0).toNatClampNeg)).toInt = ((sX7_next w) : Int32).toInt := by rw [hwn_79, st_rd]
              have hI_79 : R7I wn_79 := by rw [hwn_79]; exact R7I_put_letter hI
              refine lv_aload_n hx hb dX7_statement_53 rfl (lv_at hl 1 rfl) ?_
              refine g7_letterAt hx hb hts hin hown hK hP (hts (.fieldLink RX7 49 "LoadedForTheLaneModel" "letterAt" "[I") (by decide +kernel)) dX7_statement_54 ?_
              refine lv_aload_n hx hb dX7_statement_57 rfl (lv_at hl 1 rfl) ?_
              refine g7_statements hx hb hts hin hown hK hP (hts (.fieldLink RX7 112 "LoadedForTheLaneModel" "statements" "I") (by decide +kernel)) dX7_statement_58 ?_
              have f_80 := R7I_statements hI_79
              refine lv_aload_n hx hb dX7_statement_61 rfl (lv_at hl 1 rfl) ?_
              refine g7_at hx hb hts hin hown hK hP (hts (.fieldLink RX7 86 "LoadedForTheLaneModel" "at" "I") (by decide +kernel)) dX7_statement_62 ?_
              have f_81 := R7I_at hI_79
              have ix_82 : vp_in (wn_79 18 0) 48 := ix_of (by omega) (by omega)
              refine a7_letterAt (j := (wn_79 18 0).toNatClampNeg) hx hb hK hP hd hS ix_82 rfl dX7_statement_65 (fun H locs hP hS => ?_)
              obtain ⟨wn_82, hwn_82⟩ : ∃ x, x = st wn_79 14 ((wn_79 18 0).toNatClampNeg) (wn_79 17 0) := ⟨_, rfl⟩
              rw [← hwn_82] at hP
              have E := bns_e E hwn_82
              have ft82_taped : (wn_82 16 0).toInt = (wn_79 16 0).toInt := by rw [hwn_82]; rfl
              have ft82_at : (wn_82 17 0).toInt = (wn_79 17 0).toInt := by rw [hwn_82]; rfl
              have ft82_statements : (wn_82 18 0).toInt = (wn_79 18 0).toInt := by rw [hwn_82]; rfl
              have ft82_layers : (wn_82 11 0).toInt = (wn_79 11 0).toInt := by rw [hwn_82]; rfl
              have fv_82 : (wn_82 14 ((wn_79 18 0).toNatClampNeg)).toInt = (wn_79 17 0 : Int32).toInt := by rw [hwn_82, st_rd]
              have hI_82 : R7I wn_82 := by rw [hwn_82]; exact R7I_put_letterAt hI_79
              refine lv_aload_n hx hb dX7_statement_66 rfl (lv_at hl 1 rfl) ?_
              refine lv_dup hx hb dX7_statement_67 rfl ?_
              refine g7_at hx hb hts hin hown hK hP (hts (.fieldLink RX7 86 "LoadedForTheLaneModel" "at" "I") (by decide +kernel)) dX7_statement_68 ?_
              have f_83 := R7I_at hI_82
              refine lv_iconst (v := 1) hx hb dX7_statement_71 (by decide) ?_
              refine lv_iadd hx hb dX7_statement_72 ?_
              refine p7_at hx hb hts hin hown hK hP hd hS (hts (.fieldLink RX7 86 "LoadedForTheLaneModel" "at" "I") (by decide +kernel)) dX7_statement_73 (fun H locs hP hS => ?_)
              obtain ⟨wn_84, hwn_84⟩ : ∃ x, x = st wn_82 17 0 ((wn_82 17 0) + 1) := ⟨_, rfl⟩
              rw [← hwn_84] at hP
              have E := bns_e E hwn_84
              have ft84_taped : (wn_84 16 0).toInt = (wn_82 16 0).toInt := by rw [hwn_84]; rfl
              have ft84_at : (wn_84 17 0).toInt = ((wn_82 17 0) + 1 : Int32).toInt := by rw [hwn_84]; rfl
              have := i_addr (a := wn_82 17 0) (b := 1) (n := 1) q_1 (by omega) (by omega)
              have ft84_statements : (wn_84 18 0).toInt = (wn_82 18 0).toInt := by rw [hwn_84]; rfl
              have ft84_layers : (wn_84 11 0).toInt = (wn_82 11 0).toInt := by rw [hwn_84]; rfl
              have := i_addr (a := wn_82 17 0) (b := 1) (n := 1) q_1 (by omega) (by omega)
              have hI_84 : R7I wn_84 := by rw [hwn_84]; exact R7I_put_at hI_82 (by omega) (by omega)
              refine lv_aload_n hx hb dX7_statement_76 rfl (lv_at hl 1 rfl) ?_
              refine lv_iload_n hx hb dX7_statement_77 rfl (lv_at hl 0 rfl) ?_
              refine lv_iconst (v := 4) hx hb dX7_statement_78 (by decide) ?_
              refine lv_aload_n hx hb dX7_statement_79 rfl (lv_at hl 1 rfl) ?_
              refine g7_statements hx hb hts hin hown hK hP (hts (.fieldLink RX7 112 "LoadedForTheLaneModel" "statements" "I") (by decide +kernel)) dX7_statement_80 ?_
              have f_85 := R7I_statements hI_84
              refine lv_imul hx hb dX7_statement_83 ?_
              have := i_mull (a := 4) (b := wn_84 18 0) (n := 4) q_4 (by omega) (by omega)
              refine va_calli (va_runV (As := [.int (sX7_next w), .int (4 * (wn_84 18 0))]) (rest := []) ⟨hx, hb, hml, hown, hts⟩ (kX7_readsAll l D cI ad wn_84 (sX7_next w) (4 * (wn_84 18 0)) hd hI_84 (by omega) (by omega)) (cwV 2 hts gX7_statement_X7_readsAll rfl rfl rfl mdX7_readsAll ⟨Nat.le_of_ble_eq_true rfl, Nat.le_of_ble_eq_true rfl⟩) (r7_pre hK hP) rfl rfl hl.1 rfl (lv_room (Nat.le_of_ble_eq_true rfl)) dX7_statement_84 ⟨Nat.zero_le _, Nat.zero_le _⟩) hS (fun _ _ h => h) (fun _ h => h) (fun rn_86 wn_86 t H locs ht hvm hp_86 hB hz hfr hS => ?_)
              have hP : va_P D vwCl (RM cI ad wn_86) H := ht ▸ hB
              obtain ⟨hp_86, hz_86, hI_86, hq0_86, hq1_86, hq2_86, hq3_86⟩ := hp_86
              have E := bnd_e E hp_86
              have hzi_86 := z_int hz_86
              refine lv_if_eq (tgt := 99) hx hb dX7_statement_87 (by decide) (fun c_87 => ?_) (fun c_87 => ?_)
              · have E := E.trans (if_pos c_87)
                have fc_87 := i_eq c_87
                rw [q_0] at fc_87
                refine lv_iconst (v := 0) hx hb dX7_statement_99 (by decide) ?_
                have := q_0
                exact W.zret (ty := .boolean) (v := 0) hx hb hr (z_nar (Or.inl rfl)) (fun t ht hW => ⟨⟨_, wn_86, rfl, ⟨E.symm, (Or.inl rfl), hI_86, by omega, by omega, by omega, by omega, by omega⟩, by show va_P _ _ _ t.heap; rw [ht]; exact hP⟩, hS.F ht⟩) hS.2.2 dX7_statement_100
              · have E := E.trans (if_neg c_87)
                have fc_87 := i_ne c_87
                rw [q_0] at fc_87
                refine lv_aload_n hx hb dX7_statement_90 rfl (lv_at hl 1 rfl) ?_
                refine vp_callSi (va_Run.run (va_runV (As := []) (rest := []) ⟨hx, hb, hml, hown, hts⟩ (kX7_next l D cI ad wn_86 hI_86) (cwV 0 hts gX7_statement_X7_next rfl rfl rfl mdX7_next ⟨Nat.le_of_ble_eq_true rfl, Nat.le_of_ble_eq_true rfl⟩) (r7_pre hK hP) rfl rfl hl.1 rfl (lv_room (Nat.le_of_ble_eq_true rfl)) dX7_statement_91 ⟨Nat.zero_le _, Nat.zero_le _⟩)) (fun r_88 hr_88 => ?_)
                subst hr_88
                have rf_88 := rX7_next wn_86
                have rt_88 := R7I_taped hI_86
                refine lv_bipush (v := 59) hx hb dX7_statement_94 (by decide +kernel) ?_
                refine lv_icmp_eq (tgt := 101) hx hb dX7_statement_96 (by decide) (fun c_89 => ?_) (fun c_89 => ?_)
                · have E := E.trans (if_pos c_89)
                  have fc_89 := i_eq c_89
                  rw [q_59] at fc_89
                  refine lv_aload_n hx hb dX7_statement_101 rfl (lv_at hl 1 rfl) ?_
                  refine lv_dup hx hb dX7_statement_102 rfl ?_
                  refine g7_at hx hb hts hin hown hK hP (hts (.fieldLink RX7 86 "LoadedForTheLaneModel" "at" "I") (by decide +kernel)) dX7_statement_103 ?_
                  have f_90 := R7I_at hI_86
                  refine lv_iconst (v := 1) hx hb dX7_statement_106 (by decide) ?_
                  refine lv_iadd hx hb dX7_statement_107 ?_
                  refine p7_at hx hb hts hin hown hK hP hd hS (hts (.fieldLink RX7 86 "LoadedForTheLaneModel" "at" "I") (by decide +kernel)) dX7_statement_108 (fun H locs hP hS => ?_)
                  obtain ⟨wn_91, hwn_91⟩ : ∃ x, x = st wn_86 17 0 ((wn_86 17 0) + 1) := ⟨_, rfl⟩
                  rw [← hwn_91] at hP
                  have E := bns_e E hwn_91
                  have ft91_taped : (wn_91 16 0).toInt = (wn_86 16 0).toInt := by rw [hwn_91]; rfl
                  have ft91_at : (wn_91 17 0).toInt = ((wn_86 17 0) + 1 : Int32).toInt := by rw [hwn_91]; rfl
                  have := i_addr (a := wn_86 17 0) (b := 1) (n := 1) q_1 (by omega) (by omega)
                  have ft91_statements : (wn_91 18 0).toInt = (wn_86 18 0).toInt := by rw [hwn_91]; rfl
                  have ft91_layers : (wn_91 11 0).toInt = (wn_86 11 0).toInt := by rw [hwn_91]; rfl
                  have := i_addr (a := wn_86 17 0) (b := 1) (n := 1) q_1 (by omega) (by omega)
                  have hI_91 : R7I wn_91 := by rw [hwn_91]; exact R7I_put_at hI_86 (by omega) (by omega)
                  refine lv_iconst (v := 1) hx hb dX7_statement_111 (by decide) ?_
                  have := q_1
                  exact W.zret (ty := .boolean) (v := 1) hx hb hr (z_nar (Or.inr rfl)) (fun t ht hW => ⟨⟨_, wn_91, rfl, ⟨E.symm, (Or.inr rfl), hI_91, by omega, by omega, by omega, by omega, by omega⟩, by show va_P _ _ _ t.heap; rw [ht]; exact hP⟩, hS.F ht⟩) hS.2.2 dX7_statement_112
                · have E := E.trans (if_neg c_89)
                  have fc_89 := i_ne c_89
                  rw [q_59] at fc_89
                  refine lv_iconst (v := 0) hx hb dX7_statement_99 (by decide) ?_
                  have := q_0
                  exact W.zret (ty := .boolean) (v := 0) hx hb hr (z_nar (Or.inl rfl)) (fun t ht hW => ⟨⟨_, wn_86, rfl, ⟨E.symm, (Or.inl rfl), hI_86, by omega, by omega, by omega, by omega, by omega⟩, by show va_P _ _ _ t.heap; rw [ht]; exact hP⟩, hS.F ht⟩) hS.2.2 dX7_statement_100
            · have E := E.trans (if_neg c_77)
              have fc_77 := i_ne c_77
              rw [q_117] at fc_77
              refine lv_iconst (v := 0) hx hb dX7_statement_41 (by decide) ?_
              have := q_0
              exact W.zret (ty := .boolean) (v := 0) hx hb hr (z_nar (Or.inl rfl)) (fun t ht hW => ⟨⟨_, w, rfl, ⟨E.symm, (Or.inl rfl), hI, by omega, by omega, by omega, by omega, by omega⟩, by show va_P _ _ _ t.heap; rw [ht]; exact hP⟩, hS.F ht⟩) hS.2.2 dX7_statement_42
abbrev rmX7_comesLayer : Room := { frames := 1, cells := 0, slots := 0, locals := 22 }
set_option maxHeartbeats 4000000 in
set_option maxRecDepth 100000 in
theorem kX7_comesLayer (l : Launch) (D : va_G) (cI : ClassId) (ad : Nat → Nat) (w : Nat → Nat → Int32) (a1 : Int32) (hd : RD ad) (hI : R7I w) (h1 : 0 ≤ a1.toInt) (h2 : a1.toInt ≤ 188) (h3 : (w 11 0).toInt ≤ 11) : Met l yX7_comesLayer wsX7_comesLayer rmX7_comesLayer (va_Pc [Value.ref (ad 0), Value.int a1] (fun U => va_P D vwCl (RM cI ad w) U.heap ∧ va_K D vwCl [(cI, .int)] U)) (va_Qi (fun r u => (r, u) = sX7_comesLayer w a1 ∧ (r = 0 ∨ r = 1) ∧ R7I u ∧ ((u 11 0).toInt ≤ 11)) (fun u t => va_P D vwCl (RM cI ad u) t.heap) (RA ad)) 0 0 (RA ad) := by
  refine Met.ofW (cc := cX7_comesLayer) (maxL := 2) (ret := (some .boolean)) (by decide) rfl ?_
  intro p e s m args below meth c s₁ B hml hv
  obtain ⟨rfl, hP, hK⟩ := hv
  have hx := B.exec
  have hb := B.bytes
  have hr := B.returns
  have hts := atoms_spec (ws := wsX7_comesLayer) B.pre
  have hown : s.vm.findClass RX7 = some m.cls := findClass_of_methodNamed B.named
  have hlocks := B.notSynchronized
  have hin : ∀ q ∈ wsX70, q ∈ wsX7_comesLayer := by decide +kernel
  have hl := lv_entry ([.ref (ad 0), .int a1]) (n := 2) (Nat.le_of_ble_eq_true rfl)
  rw [lg_entry_eq]
  generalize (lg_sl ([.ref (ad 0), .int a1]) ++ List.replicate (2 - (lg_sl ([.ref (ad 0), .int a1])).length) Slot.unset).toArray = ls at hl ⊢
  have hl : lv_has ls 2 [(0, .ref (ad 0)), (1, .int a1)] := hl
  suffices hgo : ∀ (H : Heap) (locs : List Loc), va_P D vwCl (RM cI ad w) H → va_S (RA ad) s.heap H locs → W p l e (headSpec wsX7_comesLayer rmX7_comesLayer).room s m [Value.ref (ad 0), Value.int a1].toArray below meth c H locs 0 0 (MQ below (va_Qi (fun r u => (r, u) = sX7_comesLayer w a1 ∧ (r = 0 ∨ r = 1) ∧ R7I u ∧ ((u 11 0).toInt ≤ 11)) (fun u t => va_P D vwCl (RM cI ad u) t.heap) (RA ad)) [Value.ref (ad 0), Value.int a1].toArray s 0 0 (RA ad)) (F0 m 0 ls []) from hgo s.heap [] hP va_S.rf
  intro H locs hP hS
  have E := sX7_comesLayer.eq_1 w a1
  refine lv_aload_n hx hb dX7_comesLayer_0 rfl (lv_at hl 0 rfl) ?_
  refine g7_told hx hb hts hin hown hK hP (hts (.fieldLink RX7 52 "LoadedForTheLaneModel" "told" "[I") (by decide +kernel)) dX7_comesLayer_1 ?_
  refine lv_iload_n hx hb dX7_comesLayer_4 rfl (lv_at hl 1 rfl) ?_
  refine lv_iconst (v := 1) hx hb dX7_comesLayer_5 (by decide) ?_
  refine lv_iadd hx hb dX7_comesLayer_6 ?_
  have := i_addr (a := a1) (b := 1) (n := 1) q_1 (by omega) (by omega)
  have ix_1 : vp_in (a1 + 1) 192 := ix_of (by omega) (by omega)
  refine l7_told (j := (a1 + 1).toNatClampNeg) hx hb hK hP ix_1 rfl dX7_comesLayer_7 ?_
  refine lv_iconst (v := 1) hx hb dX7_comesLayer_8 (by decide) ?_
  refine lv_bipush (v := 20) hx hb dX7_comesLayer_9 (by decide +kernel) ?_
  refine vp_callSi (va_Run.run (va_runS (As := [.int (w 15 ((a1 + 1).toNatClampNeg)), .int 1, .int 20]) (rest := []) ⟨hx, hb, hml, hown, hts⟩ (kX7_isIn l (w 15 ((a1 + 1).toNatClampNeg)) 1 20) (va_cwS 3 hts gX7_comesLayer_X7_isIn rfl rfl rfl mdX7_isIn ⟨Nat.le_of_ble_eq_true rfl, Nat.le_of_ble_eq_true rfl⟩) s_pre rfl rfl hl.1 rfl (lv_room (Nat.le_of_ble_eq_true rfl)) dX7_comesLayer_11 ⟨Nat.zero_le _, Nat.zero_le _⟩)) (fun r_2 hr_2 => ?_)
  obtain ⟨rfl, hz_2⟩ := hr_2
  refine lv_if_eq (tgt := 43) hx hb dX7_comesLayer_14 (by decide) (fun c_3 => ?_) (fun c_3 => ?_)
  · have E := E.trans (if_pos c_3)
    have fc_3 := i_eq c_3
    rw [q_0] at fc_3
    refine lv_iconst (v := 0) hx hb dX7_comesLayer_43 (by decide) ?_
    have := q_0
    exact W.zret (ty := .boolean) (v := 0) hx hb hr (z_nar (Or.inl rfl)) (fun t ht hW => ⟨⟨_, w, rfl, ⟨E.symm, (Or.inl rfl), hI, by omega⟩, by show va_P _ _ _ t.heap; rw [ht]; exact hP⟩, hS.F ht⟩) hS.2.2 dX7_comesLayer_44
  · have E := E.trans (if_neg c_3)
    have fc_3 := i_ne c_3
    rw [q_0] at fc_3
    have gc_3 := fX7_isIn c_3
    have := q_1
    have := q_20
    refine lv_aload_n hx hb dX7_comesLayer_17 rfl (lv_at hl 0 rfl) ?_
    refine g7_told hx hb hts hin hown hK hP (hts (.fieldLink RX7 52 "LoadedForTheLaneModel" "told" "[I") (by decide +kernel)) dX7_comesLayer_18 ?_
    refine lv_iload_n hx hb dX7_comesLayer_21 rfl (lv_at hl 1 rfl) ?_
    refine lv_iconst (v := 3) hx hb dX7_comesLayer_22 (by decide) ?_
    refine lv_iadd hx hb dX7_comesLayer_23 ?_
    have := i_addr (a := a1) (b := 3) (n := 3) q_3 (by omega) (by omega)
    have ix_4 : vp_in (a1 + 3) 192 := ix_of (by omega) (by omega)
    refine l7_told (j := (a1 + 3).toNatClampNeg) hx hb hK hP ix_4 rfl dX7_comesLayer_24 ?_
    refine lv_bipush (v := (-5)) hx hb dX7_comesLayer_25 (by decide +kernel) ?_
    refine lv_iconst (v := 5) hx hb dX7_comesLayer_27 (by decide) ?_
    refine vp_callSi (va_Run.run (va_runS (As := [.int (w 15 ((a1 + 3).toNatClampNeg)), .int (-5), .int 5]) (rest := []) ⟨hx, hb, hml, hown, hts⟩ (kX7_isIn l (w 15 ((a1 + 3).toNatClampNeg)) (-5) 5) (va_cwS 3 hts gX7_comesLayer_X7_isIn rfl rfl rfl mdX7_isIn ⟨Nat.le_of_ble_eq_true rfl, Nat.le_of_ble_eq_true rfl⟩) s_pre rfl rfl hl.1 rfl (lv_room (Nat.le_of_ble_eq_true rfl)) dX7_comesLayer_28 ⟨Nat.zero_le _, Nat.zero_le _⟩)) (fun r_5 hr_5 => ?_)
    obtain ⟨rfl, hz_5⟩ := hr_5
    refine lv_if_eq (tgt := 43) hx hb dX7_comesLayer_31 (by decide) (fun c_6 => ?_) (fun c_6 => ?_)
    · have E := E.trans (if_pos c_6)
      have fc_6 := i_eq c_6
      rw [q_0] at fc_6
      refine lv_iconst (v := 0) hx hb dX7_comesLayer_43 (by decide) ?_
      have := q_0
      exact W.zret (ty := .boolean) (v := 0) hx hb hr (z_nar (Or.inl rfl)) (fun t ht hW => ⟨⟨_, w, rfl, ⟨E.symm, (Or.inl rfl), hI, by omega⟩, by show va_P _ _ _ t.heap; rw [ht]; exact hP⟩, hS.F ht⟩) hS.2.2 dX7_comesLayer_44
    · have E := E.trans (if_neg c_6)
      have fc_6 := i_ne c_6
      rw [q_0] at fc_6
      have gc_6 := fX7_isIn c_6
      have := q_m5
      have := q_5
      refine lv_aload_n hx hb dX7_comesLayer_34 rfl (lv_at hl 0 rfl) ?_
      refine g7_layers hx hb hts hin hown hK hP (hts (.fieldLink RX7 67 "LoadedForTheLaneModel" "layers" "I") (by decide +kernel)) dX7_comesLayer_35 ?_
      have f_7 := R7I_layers hI
      refine lv_bipush (v := 11) hx hb dX7_comesLayer_38 (by decide +kernel) ?_
      refine lv_icmp_ne (tgt := 45) hx hb dX7_comesLayer_40 (by decide) (fun c_8 => ?_) (fun c_8 => ?_)
      · have E := E.trans (if_neg c_8)
        have fc_8 := i_ne c_8
        rw [q_11] at fc_8
        refine lv_aload_n hx hb dX7_comesLayer_45 rfl (lv_at hl 0 rfl) ?_
        refine g7_kind hx hb hts hin hown hK hP (hts (.fieldLink RX7 16 "LoadedForTheLaneModel" "kind" "[I") (by decide +kernel)) dX7_comesLayer_46 ?_
        refine lv_aload_n hx hb dX7_comesLayer_49 rfl (lv_at hl 0 rfl) ?_
        refine g7_layers hx hb hts hin hown hK hP (hts (.fieldLink RX7 67 "LoadedForTheLaneModel" "layers" "I") (by decide +kernel)) dX7_comesLayer_50 ?_
        have f_9 := R7I_layers hI
        refine lv_aload_n hx hb dX7_comesLayer_53 rfl (lv_at hl 0 rfl) ?_
        refine g7_told hx hb hts hin hown hK hP (hts (.fieldLink RX7 52 "LoadedForTheLaneModel" "told" "[I") (by decide +kernel)) dX7_comesLayer_54 ?_
        refine lv_iload_n hx hb dX7_comesLayer_57 rfl (lv_at hl 1 rfl) ?_
        have ix_10 : vp_in a1 192 := ix_of (by omega) (by omega)
        refine l7_told (j := a1.toNatClampNeg) hx hb hK hP ix_10 rfl dX7_comesLayer_58 ?_
        have ix_11 : vp_in (w 11 0) 12 := ix_of (by omega) (by omega)
        refine a7_kind (j := (w 11 0).toNatClampNeg) hx hb hK hP hd hS ix_11 rfl dX7_comesLayer_59 (fun H locs hP hS => ?_)
        obtain ⟨wn_11, hwn_11⟩ : ∃ x, x = st w 2 ((w 11 0).toNatClampNeg) (w 15 (a1.toNatClampNeg)) := ⟨_, rfl⟩
        rw [← hwn_11] at hP
        have E := bns_e E hwn_11
        have ft11_layers : (wn_11 11 0).toInt = (w 11 0).toInt := by rw [hwn_11]; rfl
        have fv_11 : (wn_11 2 ((w 11 0).toNatClampNeg)).toInt = (w 15 (a1.toNatClampNeg) : Int32).toInt := by rw [hwn_11, st_rd]
        have hI_11 : R7I wn_11 := by rw [hwn_11]; exact R7I_put_kind hI
        refine lv_aload_n hx hb dX7_comesLayer_60 rfl (lv_at hl 0 rfl) ?_
        refine g7_sheaves hx hb hts hin hown hK hP (hts (.fieldLink RX7 19 "LoadedForTheLaneModel" "sheaves" "[I") (by decide +kernel)) dX7_comesLayer_61 ?_
        refine lv_aload_n hx hb dX7_comesLayer_64 rfl (lv_at hl 0 rfl) ?_
        refine g7_layers hx hb hts hin hown hK hP (hts (.fieldLink RX7 67 "LoadedForTheLaneModel" "layers" "I") (by decide +kernel)) dX7_comesLayer_65 ?_
        have f_12 := R7I_layers hI_11
        refine lv_aload_n hx hb dX7_comesLayer_68 rfl (lv_at hl 0 rfl) ?_
        refine g7_told hx hb hts hin hown hK hP (hts (.fieldLink RX7 52 "LoadedForTheLaneModel" "told" "[I") (by decide +kernel)) dX7_comesLayer_69 ?_
        refine lv_iload_n hx hb dX7_comesLayer_72 rfl (lv_at hl 1 rfl) ?_
        refine lv_iconst (v := 1) hx hb dX7_comesLayer_73 (by decide) ?_
        refine lv_iadd hx hb dX7_comesLayer_74 ?_
        have := i_addr (a := a1) (b := 1) (n := 1) q_1 (by omega) (by omega)
        have ix_13 : vp_in (a1 + 1) 192 := ix_of (by omega) (by omega)
        refine l7_told (j := (a1 + 1).toNatClampNeg) hx hb hK hP ix_13 rfl dX7_comesLayer_75 ?_
        have ix_14 : vp_in (wn_11 11 0) 12 := ix_of (by omega) (by omega)
        refine a7_sheaves (j := (wn_11 11 0).toNatClampNeg) hx hb hK hP hd hS ix_14 rfl dX7_comesLayer_76 (fun H locs hP hS => ?_)
        obtain ⟨wn_14, hwn_14⟩ : ∃ x, x = st wn_11 3 ((wn_11 11 0).toNatClampNeg) (wn_11 15 ((a1 + 1).toNatClampNeg)) := ⟨_, rfl⟩
        rw [← hwn_14] at hP
        have E := bns_e E hwn_14
        have ft14_layers : (wn_14 11 0).toInt = (wn_11 11 0).toInt := by rw [hwn_14]; rfl
        have fv_14 : (wn_14 3 ((wn_11 11 0).toNatClampNeg)).toInt = (wn_11 15 ((a1 + 1).toNatClampNeg) : Int32).toInt := by rw [hwn_14, st_rd]
        have hI_14 : R7I wn_14 := by rw [hwn_14]; exact R7I_put_sheaves hI_11
        refine lv_aload_n hx hb dX7_comesLayer_77 rfl (lv_at hl 0 rfl) ?_
        refine g7_out hx hb hts hin hown hK hP (hts (.fieldLink RX7 22 "LoadedForTheLaneModel" "out" "[I") (by decide +kernel)) dX7_comesLayer_78 ?_
        refine lv_aload_n hx hb dX7_comesLayer_81 rfl (lv_at hl 0 rfl) ?_
        refine g7_layers hx hb hts hin hown hK hP (hts (.fieldLink RX7 67 "LoadedForTheLaneModel" "layers" "I") (by decide +kernel)) dX7_comesLayer_82 ?_
        have f_15 := R7I_layers hI_14
        refine lv_aload_n hx hb dX7_comesLayer_85 rfl (lv_at hl 0 rfl) ?_
        refine g7_told hx hb hts hin hown hK hP (hts (.fieldLink RX7 52 "LoadedForTheLaneModel" "told" "[I") (by decide +kernel)) dX7_comesLayer_86 ?_
        refine lv_iload_n hx hb dX7_comesLayer_89 rfl (lv_at hl 1 rfl) ?_
        refine lv_iconst (v := 2) hx hb dX7_comesLayer_90 (by decide) ?_
        refine lv_iadd hx hb dX7_comesLayer_91 ?_
        have := i_addr (a := a1) (b := 2) (n := 2) q_2 (by omega) (by omega)
        have ix_16 : vp_in (a1 + 2) 192 := ix_of (by omega) (by omega)
        refine l7_told (j := (a1 + 2).toNatClampNeg) hx hb hK hP ix_16 rfl dX7_comesLayer_92 ?_
        have ix_17 : vp_in (wn_14 11 0) 12 := ix_of (by omega) (by omega)
        refine a7_out (j := (wn_14 11 0).toNatClampNeg) hx hb hK hP hd hS ix_17 rfl dX7_comesLayer_93 (fun H locs hP hS => ?_)
        obtain ⟨wn_17, hwn_17⟩ : ∃ x, x = st wn_14 4 ((wn_14 11 0).toNatClampNeg) (wn_14 15 ((a1 + 2).toNatClampNeg)) := ⟨_, rfl⟩
        rw [← hwn_17] at hP
        have E := bns_e E hwn_17
        have ft17_layers : (wn_17 11 0).toInt = (wn_14 11 0).toInt := by rw [hwn_17]; rfl
        have fv_17 : (wn_17 4 ((wn_14 11 0).toNatClampNeg)).toInt = (wn_14 15 ((a1 + 2).toNatClampNeg) : Int32).toInt := by rw [hwn_17, st_rd]
        have hI_17 : R7I wn_17 := by rw [hwn_17]; exact R7I_put_out hI_14
        refine lv_aload_n hx hb dX7_comesLayer_94 rfl (lv_at hl 0 rfl) ?_
        refine g7_lean hx hb hts hin hown hK hP (hts (.fieldLink RX7 25 "LoadedForTheLaneModel" "lean" "[I") (by decide +kernel)) dX7_comesLayer_95 ?_
        refine lv_aload_n hx hb dX7_comesLayer_98 rfl (lv_at hl 0 rfl) ?_
        refine g7_layers hx hb hts hin hown hK hP (hts (.fieldLink RX7 67 "LoadedForTheLaneModel" "layers" "I") (by decide +kernel)) dX7_comesLayer_99 ?_
        have f_18 := R7I_layers hI_17
        refine lv_aload_n hx hb dX7_comesLayer_102 rfl (lv_at hl 0 rfl) ?_
        refine g7_told hx hb hts hin hown hK hP (hts (.fieldLink RX7 52 "LoadedForTheLaneModel" "told" "[I") (by decide +kernel)) dX7_comesLayer_103 ?_
        refine lv_iload_n hx hb dX7_comesLayer_106 rfl (lv_at hl 1 rfl) ?_
        refine lv_iconst (v := 3) hx hb dX7_comesLayer_107 (by decide) ?_
        refine lv_iadd hx hb dX7_comesLayer_108 ?_
        have := i_addr (a := a1) (b := 3) (n := 3) q_3 (by omega) (by omega)
        have ix_19 : vp_in (a1 + 3) 192 := ix_of (by omega) (by omega)
        refine l7_told (j := (a1 + 3).toNatClampNeg) hx hb hK hP ix_19 rfl dX7_comesLayer_109 ?_
        have ix_20 : vp_in (wn_17 11 0) 12 := ix_of (by omega) (by omega)
        refine a7_lean (j := (wn_17 11 0).toNatClampNeg) hx hb hK hP hd hS ix_20 rfl dX7_comesLayer_110 (fun H locs hP hS => ?_)
        obtain ⟨wn_20, hwn_20⟩ : ∃ x, x = st wn_17 5 ((wn_17 11 0).toNatClampNeg) (wn_17 15 ((a1 + 3).toNatClampNeg)) := ⟨_, rfl⟩
        rw [← hwn_20] at hP
        have E := bns_e E hwn_20
        have ft20_layers : (wn_20 11 0).toInt = (wn_17 11 0).toInt := by rw [hwn_20]; rfl
        have fv_20 : (wn_20 5 ((wn_17 11 0).toNatClampNeg)).toInt = (wn_17 15 ((a1 + 3).toNatClampNeg) : Int32).toInt := by rw [hwn_20, st_rd]
        have hI_20 : R7I wn_20 := by rw [hwn_20]; exact R7I_put_lean hI_17
        refine lv_aload_n hx hb dX7_comesLayer_111 rfl (lv_at hl 0 rfl) ?_
        refine lv_dup hx hb dX7_comesLayer_112 rfl ?_
        refine g7_layers hx hb hts hin hown hK hP (hts (.fieldLink RX7 67 "LoadedForTheLaneModel" "layers" "I") (by decide +kernel)) dX7_comesLayer_113 ?_
        have f_21 := R7I_layers hI_20
        refine lv_iconst (v := 1) hx hb dX7_comesLayer_116 (by decide) ?_
        refine lv_iadd hx hb dX7_comesLayer_117 ?_
        refine p7_layers hx hb hts hin hown hK hP hd hS (hts (.fieldLink RX7 67 "LoadedForTheLaneModel" "layers" "I") (by decide +kernel)) dX7_comesLayer_118 (fun H locs hP hS => ?_)
        obtain ⟨wn_22, hwn_22⟩ : ∃ x, x = st wn_20 11 0 ((wn_20 11 0) + 1) := ⟨_, rfl⟩
        rw [← hwn_22] at hP
        have E := bns_e E hwn_22
        have ft22_layers : (wn_22 11 0).toInt = ((wn_20 11 0) + 1 : Int32).toInt := by rw [hwn_22]; rfl
        have := i_addr (a := wn_20 11 0) (b := 1) (n := 1) q_1 (by omega) (by omega)
        have := i_addr (a := wn_20 11 0) (b := 1) (n := 1) q_1 (by omega) (by omega)
        have hI_22 : R7I wn_22 := by rw [hwn_22]; exact R7I_put_layers hI_20 (by omega) (by omega)
        refine lv_iconst (v := 1) hx hb dX7_comesLayer_121 (by decide) ?_
        have := q_1
        exact W.zret (ty := .boolean) (v := 1) hx hb hr (z_nar (Or.inr rfl)) (fun t ht hW => ⟨⟨_, wn_22, rfl, ⟨E.symm, (Or.inr rfl), hI_22, by omega⟩, by show va_P _ _ _ t.heap; rw [ht]; exact hP⟩, hS.F ht⟩) hS.2.2 dX7_comesLayer_122
      · have E := E.trans (if_pos c_8)
        have fc_8 := i_eq c_8
        rw [q_11] at fc_8
        refine lv_iconst (v := 0) hx hb dX7_comesLayer_43 (by decide) ?_
        have := q_0
        exact W.zret (ty := .boolean) (v := 0) hx hb hr (z_nar (Or.inl rfl)) (fun t ht hW => ⟨⟨_, w, rfl, ⟨E.symm, (Or.inl rfl), hI, by omega⟩, by show va_P _ _ _ t.heap; rw [ht]; exact hP⟩, hS.F ht⟩) hS.2.2 dX7_comesLayer_44
abbrev rmX7_comesPiece : Room := { frames := 1, cells := 0, slots := 0, locals := 20 }
set_option maxHeartbeats 4000000 in
set_option maxRecDepth 100000 in
theorem kX7_comesPiece (l : Launch) (D : va_G) (cI : ClassId) (ad : Nat → Nat) (w : Nat → Nat → Int32) (a1 : Int32) (hd : RD ad) (hI : R7I w) (h1 : 0 ≤ a1.toInt) (h2 : a1.toInt ≤ 188) : Met l yX7_comesPiece wsX7_comesPiece rmX7_comesPiece (va_Pc [Value.ref (ad 0), Value.int a1] (fun U => va_P D vwCl (RM cI ad w) U.heap ∧ va_K D vwCl [(cI, .int)] U)) (va_Qi (fun r u => (r, u) = sX7_comesPiece w a1 ∧ (r = 0 ∨ r = 1) ∧ R7I u ∧ ((u 11 0).toInt = (w 11 0).toInt)) (fun u t => va_P D vwCl (RM cI ad u) t.heap) (RA ad)) 0 0 (RA ad) := by
  refine Met.ofW (cc := cX7_comesPiece) (maxL := 4) (ret := (some .boolean)) (by decide) rfl ?_
  intro p e s m args below meth c s₁ B hml hv
  obtain ⟨rfl, hP, hK⟩ := hv
  have hx := B.exec
  have hb := B.bytes
  have hr := B.returns
  have hts := atoms_spec (ws := wsX7_comesPiece) B.pre
  have hown : s.vm.findClass RX7 = some m.cls := findClass_of_methodNamed B.named
  have hlocks := B.notSynchronized
  have hin : ∀ q ∈ wsX70, q ∈ wsX7_comesPiece := by decide +kernel
  have hkP : w 10 = w 10 := rfl
  have hl := lv_entry ([.ref (ad 0), .int a1]) (n := 4) (Nat.le_of_ble_eq_true rfl)
  rw [lg_entry_eq]
  generalize (lg_sl ([.ref (ad 0), .int a1]) ++ List.replicate (4 - (lg_sl ([.ref (ad 0), .int a1])).length) Slot.unset).toArray = ls at hl ⊢
  have hl : lv_has ls 4 [(0, .ref (ad 0)), (1, .int a1)] := hl
  suffices hgo : ∀ (H : Heap) (locs : List Loc), va_P D vwCl (RM cI ad w) H → va_S (RA ad) s.heap H locs → W p l e (headSpec wsX7_comesPiece rmX7_comesPiece).room s m [Value.ref (ad 0), Value.int a1].toArray below meth c H locs 0 0 (MQ below (va_Qi (fun r u => (r, u) = sX7_comesPiece w a1 ∧ (r = 0 ∨ r = 1) ∧ R7I u ∧ ((u 11 0).toInt = (w 11 0).toInt)) (fun u t => va_P D vwCl (RM cI ad u) t.heap) (RA ad)) [Value.ref (ad 0), Value.int a1].toArray s 0 0 (RA ad)) (F0 m 0 ls []) from hgo s.heap [] hP va_S.rf
  intro H locs hP hS
  have E := sX7_comesPiece.eq_1 w a1
  refine lv_aload_n hx hb dX7_comesPiece_0 rfl (lv_at hl 0 rfl) ?_
  refine g7_told hx hb hts hin hown hK hP (hts (.fieldLink RX7 52 "LoadedForTheLaneModel" "told" "[I") (by decide +kernel)) dX7_comesPiece_1 ?_
  refine lv_iload_n hx hb dX7_comesPiece_4 rfl (lv_at hl 1 rfl) ?_
  have ix_1 : vp_in a1 192 := ix_of (by omega) (by omega)
  refine l7_told (j := a1.toNatClampNeg) hx hb hK hP ix_1 rfl dX7_comesPiece_5 ?_
  refine lv_istore_n (lv' := [(2, .int (w 15 (a1.toNatClampNeg))), (0, .ref (ad 0)), (1, .int a1)]) hx hb dX7_comesPiece_6 rfl hl (by decide) rfl (fun ls hl => ?_)
  refine lv_iload_n hx hb dX7_comesPiece_7 rfl (lv_at hl 0 rfl) ?_
  refine vp_callSi (va_Run.run (va_runS (As := [.int (w 15 (a1.toNatClampNeg))]) (rest := []) ⟨hx, hb, hml, hown, hts⟩ (kX7_isWay l (w 15 (a1.toNatClampNeg))) (va_cwS 1 hts gX7_comesPiece_X7_isWay rfl rfl rfl mdX7_isWay ⟨Nat.le_of_ble_eq_true rfl, Nat.le_of_ble_eq_true rfl⟩) s_pre rfl rfl hl.1 rfl (lv_room (Nat.le_of_ble_eq_true rfl)) dX7_comesPiece_8 ⟨Nat.zero_le _, Nat.zero_le _⟩)) (fun r_2 hr_2 => ?_)
  obtain ⟨rfl, hz_2⟩ := hr_2
  refine lv_if_eq (tgt := 49) hx hb dX7_comesPiece_11 (by decide) (fun c_3 => ?_) (fun c_3 => ?_)
  · have E := E.trans (if_pos c_3)
    have fc_3 := i_eq c_3
    rw [q_0] at fc_3
    refine lv_iconst (v := 0) hx hb dX7_comesPiece_49 (by decide) ?_
    have := q_0
    exact W.zret (ty := .boolean) (v := 0) hx hb hr (z_nar (Or.inl rfl)) (fun t ht hW => ⟨⟨_, w, rfl, ⟨E.symm, (Or.inl rfl), hI, by omega⟩, by show va_P _ _ _ t.heap; rw [ht]; exact hP⟩, hS.F ht⟩) hS.2.2 dX7_comesPiece_50
  · have E := E.trans (if_neg c_3)
    have fc_3 := i_ne c_3
    rw [q_0] at fc_3
    have gc_3 := fX7_isWay c_3
    refine lv_aload_n hx hb dX7_comesPiece_14 rfl (lv_at hl 1 rfl) ?_
    refine g7_told hx hb hts hin hown hK hP (hts (.fieldLink RX7 52 "LoadedForTheLaneModel" "told" "[I") (by decide +kernel)) dX7_comesPiece_15 ?_
    refine lv_iload_n hx hb dX7_comesPiece_18 rfl (lv_at hl 2 rfl) ?_
    refine lv_iconst (v := 2) hx hb dX7_comesPiece_19 (by decide) ?_
    refine lv_iadd hx hb dX7_comesPiece_20 ?_
    have := i_addr (a := a1) (b := 2) (n := 2) q_2 (by omega) (by omega)
    have ix_4 : vp_in (a1 + 2) 192 := ix_of (by omega) (by omega)
    refine l7_told (j := (a1 + 2).toNatClampNeg) hx hb hK hP ix_4 rfl dX7_comesPiece_21 ?_
    refine lv_bipush (v := 20) hx hb dX7_comesPiece_22 (by decide +kernel) ?_
    refine lv_icmp_gt (tgt := 49) hx hb dX7_comesPiece_24 (by decide) (fun c_5 => ?_) (fun c_5 => ?_)
    · have E := E.trans (if_pos c_5)
      have fc_5 := i_lt c_5
      rw [q_20] at fc_5
      refine lv_iconst (v := 0) hx hb dX7_comesPiece_49 (by decide) ?_
      have := q_0
      exact W.zret (ty := .boolean) (v := 0) hx hb hr (z_nar (Or.inl rfl)) (fun t ht hW => ⟨⟨_, w, rfl, ⟨E.symm, (Or.inl rfl), hI, by omega⟩, by show va_P _ _ _ t.heap; rw [ht]; exact hP⟩, hS.F ht⟩) hS.2.2 dX7_comesPiece_50
    · have E := E.trans (if_neg c_5)
      have fc_5 := i_nlt c_5
      rw [q_20] at fc_5
      refine lv_aload_n hx hb dX7_comesPiece_27 rfl (lv_at hl 1 rfl) ?_
      refine g7_told hx hb hts hin hown hK hP (hts (.fieldLink RX7 52 "LoadedForTheLaneModel" "told" "[I") (by decide +kernel)) dX7_comesPiece_28 ?_
      refine lv_iload_n hx hb dX7_comesPiece_31 rfl (lv_at hl 2 rfl) ?_
      refine lv_iconst (v := 3) hx hb dX7_comesPiece_32 (by decide) ?_
      refine lv_iadd hx hb dX7_comesPiece_33 ?_
      have := i_addr (a := a1) (b := 3) (n := 3) q_3 (by omega) (by omega)
      have ix_6 : vp_in (a1 + 3) 192 := ix_of (by omega) (by omega)
      refine l7_told (j := (a1 + 3).toNatClampNeg) hx hb hK hP ix_6 rfl dX7_comesPiece_34 ?_
      refine lv_if_eq (tgt := 49) hx hb dX7_comesPiece_35 (by decide) (fun c_7 => ?_) (fun c_7 => ?_)
      · have E := E.trans (if_pos c_7)
        have fc_7 := i_eq c_7
        rw [q_0] at fc_7
        refine lv_iconst (v := 0) hx hb dX7_comesPiece_49 (by decide) ?_
        have := q_0
        exact W.zret (ty := .boolean) (v := 0) hx hb hr (z_nar (Or.inl rfl)) (fun t ht hW => ⟨⟨_, w, rfl, ⟨E.symm, (Or.inl rfl), hI, by omega⟩, by show va_P _ _ _ t.heap; rw [ht]; exact hP⟩, hS.F ht⟩) hS.2.2 dX7_comesPiece_50
      · have E := E.trans (if_neg c_7)
        have fc_7 := i_ne c_7
        rw [q_0] at fc_7
        refine lv_aload_n hx hb dX7_comesPiece_38 rfl (lv_at hl 1 rfl) ?_
        refine g7_pieces hx hb hts hin hown hK hP (hts (.fieldLink RX7 40 "LoadedForTheLaneModel" "pieces" "[I") (by decide +kernel)) dX7_comesPiece_39 ?_
        refine lv_iload_n hx hb dX7_comesPiece_42 rfl (lv_at hl 0 rfl) ?_
        have ix_8 : vp_in (w 15 (a1.toNatClampNeg)) 2 := ix_of (by omega) (by omega)
        refine l7_pieces (j := (w 15 (a1.toNatClampNeg)).toNatClampNeg) hx hb hK hP ix_8 rfl dX7_comesPiece_43 ?_
        have f_8 := R7I_pieces hI (j := (w 15 (a1.toNatClampNeg)).toNatClampNeg) (by have := ix_cl (x := w 15 (a1.toNatClampNeg)) (by omega); omega)
        refine lv_bipush (v := 6) hx hb dX7_comesPiece_44 (by decide +kernel) ?_
        refine lv_icmp_ne (tgt := 51) hx hb dX7_comesPiece_46 (by decide) (fun c_9 => ?_) (fun c_9 => ?_)
        · have E := E.trans (if_neg c_9)
          have fc_9 := i_ne c_9
          rw [q_6] at fc_9
          refine lv_bipush (v := 6) hx hb dX7_comesPiece_51 (by decide +kernel) ?_
          refine lv_iload_n hx hb dX7_comesPiece_53 rfl (lv_at hl 0 rfl) ?_
          refine lv_imul hx hb dX7_comesPiece_54 ?_
          refine lv_aload_n hx hb dX7_comesPiece_55 rfl (lv_at hl 1 rfl) ?_
          refine g7_pieces hx hb hts hin hown hK hP (hts (.fieldLink RX7 40 "LoadedForTheLaneModel" "pieces" "[I") (by decide +kernel)) dX7_comesPiece_56 ?_
          refine lv_iload_n hx hb dX7_comesPiece_59 rfl (lv_at hl 0 rfl) ?_
          have ix_10 : vp_in (w 15 (a1.toNatClampNeg)) 2 := ix_of (by omega) (by omega)
          refine l7_pieces (j := (w 15 (a1.toNatClampNeg)).toNatClampNeg) hx hb hK hP ix_10 rfl dX7_comesPiece_60 ?_
          have f_10 := R7I_pieces hI (j := (w 15 (a1.toNatClampNeg)).toNatClampNeg) (by have := ix_cl (x := w 15 (a1.toNatClampNeg)) (by omega); omega)
          refine lv_iadd hx hb dX7_comesPiece_61 ?_
          refine lv_istore_n (lv' := [(3, .int ((6 * (w 15 (a1.toNatClampNeg))) + (w 10 ((w 15 (a1.toNatClampNeg)).toNatClampNeg)))), (2, .int (w 15 (a1.toNatClampNeg))), (0, .ref (ad 0)), (1, .int a1)]) hx hb dX7_comesPiece_62 rfl hl (by decide) rfl (fun ls hl => ?_)
          refine lv_aload_n hx hb dX7_comesPiece_63 rfl (lv_at hl 2 rfl) ?_
          refine g7_sort hx hb hts hin hown hK hP (hts (.fieldLink RX7 31 "LoadedForTheLaneModel" "sort" "[I") (by decide +kernel)) dX7_comesPiece_64 ?_
          refine lv_iload_n hx hb dX7_comesPiece_67 rfl (lv_at hl 0 rfl) ?_
          refine lv_aload_n hx hb dX7_comesPiece_68 rfl (lv_at hl 2 rfl) ?_
          refine g7_told hx hb hts hin hown hK hP (hts (.fieldLink RX7 52 "LoadedForTheLaneModel" "told" "[I") (by decide +kernel)) dX7_comesPiece_69 ?_
          refine lv_iload_n hx hb dX7_comesPiece_72 rfl (lv_at hl 3 rfl) ?_
          refine lv_iconst (v := 1) hx hb dX7_comesPiece_73 (by decide) ?_
          refine lv_iadd hx hb dX7_comesPiece_74 ?_
          have := i_addr (a := a1) (b := 1) (n := 1) q_1 (by omega) (by omega)
          have ix_11 : vp_in (a1 + 1) 192 := ix_of (by omega) (by omega)
          refine l7_told (j := (a1 + 1).toNatClampNeg) hx hb hK hP ix_11 rfl dX7_comesPiece_75 ?_
          have := i_mull (a := 6) (b := w 15 (a1.toNatClampNeg)) (n := 6) q_6 (by omega) (by omega)
          have := i_add (a := 6 * (w 15 (a1.toNatClampNeg))) (b := w 10 ((w 15 (a1.toNatClampNeg)).toNatClampNeg)) (by omega) (by omega)
          have ix_12 : vp_in ((6 * (w 15 (a1.toNatClampNeg))) + (w 10 ((w 15 (a1.toNatClampNeg)).toNatClampNeg))) 12 := ix_of (by omega) (by omega)
          refine a7_sort (j := ((6 * (w 15 (a1.toNatClampNeg))) + (w 10 ((w 15 (a1.toNatClampNeg)).toNatClampNeg))).toNatClampNeg) hx hb hK hP hd hS ix_12 rfl dX7_comesPiece_76 (fun H locs hP hS => ?_)
          obtain ⟨wn_12, hwn_12⟩ : ∃ x, x = st w 7 (((6 * (w 15 (a1.toNatClampNeg))) + (w 10 ((w 15 (a1.toNatClampNeg)).toNatClampNeg))).toNatClampNeg) (w 15 ((a1 + 1).toNatClampNeg)) := ⟨_, rfl⟩
          rw [← hwn_12] at hP
          have E := bns_e E hwn_12
          have ft12_layers : (wn_12 11 0).toInt = (w 11 0).toInt := by rw [hwn_12]; rfl
          have hkP := (show wn_12 10 = w 10 by rw [hwn_12]; rfl).trans hkP
          have fv_12 : (wn_12 7 (((6 * (w 15 (a1.toNatClampNeg))) + (w 10 ((w 15 (a1.toNatClampNeg)).toNatClampNeg))).toNatClampNeg)).toInt = (w 15 ((a1 + 1).toNatClampNeg) : Int32).toInt := by rw [hwn_12, st_rd]
          have hI_12 : R7I wn_12 := by rw [hwn_12]; exact R7I_put_sort hI
          refine lv_aload_n hx hb dX7_comesPiece_77 rfl (lv_at hl 2 rfl) ?_
          refine g7_figure hx hb hts hin hown hK hP (hts (.fieldLink RX7 34 "LoadedForTheLaneModel" "figure" "[I") (by decide +kernel)) dX7_comesPiece_78 ?_
          refine lv_iload_n hx hb dX7_comesPiece_81 rfl (lv_at hl 0 rfl) ?_
          refine lv_aload_n hx hb dX7_comesPiece_82 rfl (lv_at hl 2 rfl) ?_
          refine g7_told hx hb hts hin hown hK hP (hts (.fieldLink RX7 52 "LoadedForTheLaneModel" "told" "[I") (by decide +kernel)) dX7_comesPiece_83 ?_
          refine lv_iload_n hx hb dX7_comesPiece_86 rfl (lv_at hl 3 rfl) ?_
          refine lv_iconst (v := 2) hx hb dX7_comesPiece_87 (by decide) ?_
          refine lv_iadd hx hb dX7_comesPiece_88 ?_
          have := i_addr (a := a1) (b := 2) (n := 2) q_2 (by omega) (by omega)
          have ix_13 : vp_in (a1 + 2) 192 := ix_of (by omega) (by omega)
          refine l7_told (j := (a1 + 2).toNatClampNeg) hx hb hK hP ix_13 rfl dX7_comesPiece_89 ?_
          have := i_mull (a := 6) (b := w 15 (a1.toNatClampNeg)) (n := 6) q_6 (by omega) (by omega)
          have := i_add (a := 6 * (w 15 (a1.toNatClampNeg))) (b := w 10 ((w 15 (a1.toNatClampNeg)).toNatClampNeg)) (by omega) (by omega)
          have ix_14 : vp_in ((6 * (w 15 (a1.toNatClampNeg))) + (w 10 ((w 15 (a1.toNatClampNeg)).toNatClampNeg))) 12 := ix_of (by omega) (by omega)
          refine a7_figure (j := ((6 * (w 15 (a1.toNatClampNeg))) + (w 10 ((w 15 (a1.toNatClampNeg)).toNatClampNeg))).toNatClampNeg) hx hb hK hP hd hS ix_14 rfl dX7_comesPiece_90 (fun H locs hP hS => ?_)
          obtain ⟨wn_14, hwn_14⟩ : ∃ x, x = st wn_12 8 (((6 * (w 15 (a1.toNatClampNeg))) + (w 10 ((w 15 (a1.toNatClampNeg)).toNatClampNeg))).toNatClampNeg) (wn_12 15 ((a1 + 2).toNatClampNeg)) := ⟨_, rfl⟩
          rw [← hwn_14] at hP
          have E := bns_e E hwn_14
          have ft14_layers : (wn_14 11 0).toInt = (wn_12 11 0).toInt := by rw [hwn_14]; rfl
          have hkP := (show wn_14 10 = wn_12 10 by rw [hwn_14]; rfl).trans hkP
          have fv_14 : (wn_14 8 (((6 * (w 15 (a1.toNatClampNeg))) + (w 10 ((w 15 (a1.toNatClampNeg)).toNatClampNeg))).toNatClampNeg)).toInt = (wn_12 15 ((a1 + 2).toNatClampNeg) : Int32).toInt := by rw [hwn_14, st_rd]
          have hI_14 : R7I wn_14 := by rw [hwn_14]; exact R7I_put_figure hI_12
          refine lv_aload_n hx hb dX7_comesPiece_91 rfl (lv_at hl 2 rfl) ?_
          refine g7_lasting hx hb hts hin hown hK hP (hts (.fieldLink RX7 37 "LoadedForTheLaneModel" "lasting" "[I") (by decide +kernel)) dX7_comesPiece_92 ?_
          refine lv_iload_n hx hb dX7_comesPiece_95 rfl (lv_at hl 0 rfl) ?_
          refine lv_aload_n hx hb dX7_comesPiece_96 rfl (lv_at hl 2 rfl) ?_
          refine g7_told hx hb hts hin hown hK hP (hts (.fieldLink RX7 52 "LoadedForTheLaneModel" "told" "[I") (by decide +kernel)) dX7_comesPiece_97 ?_
          refine lv_iload_n hx hb dX7_comesPiece_100 rfl (lv_at hl 3 rfl) ?_
          refine lv_iconst (v := 3) hx hb dX7_comesPiece_101 (by decide) ?_
          refine lv_iadd hx hb dX7_comesPiece_102 ?_
          have := i_addr (a := a1) (b := 3) (n := 3) q_3 (by omega) (by omega)
          have ix_15 : vp_in (a1 + 3) 192 := ix_of (by omega) (by omega)
          refine l7_told (j := (a1 + 3).toNatClampNeg) hx hb hK hP ix_15 rfl dX7_comesPiece_103 ?_
          have := i_mull (a := 6) (b := w 15 (a1.toNatClampNeg)) (n := 6) q_6 (by omega) (by omega)
          have := i_add (a := 6 * (w 15 (a1.toNatClampNeg))) (b := w 10 ((w 15 (a1.toNatClampNeg)).toNatClampNeg)) (by omega) (by omega)
          have ix_16 : vp_in ((6 * (w 15 (a1.toNatClampNeg))) + (w 10 ((w 15 (a1.toNatClampNeg)).toNatClampNeg))) 12 := ix_of (by omega) (by omega)
          refine a7_lasting (j := ((6 * (w 15 (a1.toNatClampNeg))) + (w 10 ((w 15 (a1.toNatClampNeg)).toNatClampNeg))).toNatClampNeg) hx hb hK hP hd hS ix_16 rfl dX7_comesPiece_104 (fun H locs hP hS => ?_)
          obtain ⟨wn_16, hwn_16⟩ : ∃ x, x = st wn_14 9 (((6 * (w 15 (a1.toNatClampNeg))) + (w 10 ((w 15 (a1.toNatClampNeg)).toNatClampNeg))).toNatClampNeg) (wn_14 15 ((a1 + 3).toNatClampNeg)) := ⟨_, rfl⟩
          rw [← hwn_16] at hP
          have E := bns_e E hwn_16
          have ft16_layers : (wn_16 11 0).toInt = (wn_14 11 0).toInt := by rw [hwn_16]; rfl
          have hkP := (show wn_16 10 = wn_14 10 by rw [hwn_16]; rfl).trans hkP
          have fv_16 : (wn_16 9 (((6 * (w 15 (a1.toNatClampNeg))) + (w 10 ((w 15 (a1.toNatClampNeg)).toNatClampNeg))).toNatClampNeg)).toInt = (wn_14 15 ((a1 + 3).toNatClampNeg) : Int32).toInt := by rw [hwn_16, st_rd]
          have hI_16 : R7I wn_16 := by rw [hwn_16]; exact R7I_put_lasting hI_14
          refine lv_aload_n hx hb dX7_comesPiece_105 rfl (lv_at hl 2 rfl) ?_
          refine g7_pieces hx hb hts hin hown hK hP (hts (.fieldLink RX7 40 "LoadedForTheLaneModel" "pieces" "[I") (by decide +kernel)) dX7_comesPiece_106 ?_
          refine lv_iload_n hx hb dX7_comesPiece_109 rfl (lv_at hl 1 rfl) ?_
          refine lv_dup2_11 hx hb dX7_comesPiece_110 rfl rfl ?_
          have ix_17 : vp_in (w 15 (a1.toNatClampNeg)) 2 := ix_of (by omega) (by omega)
          refine l7_pieces (j := (w 15 (a1.toNatClampNeg)).toNatClampNeg) hx hb hK hP ix_17 rfl dX7_comesPiece_111 ?_
          have f_17 := R7I_pieces hI_16 (j := (w 15 (a1.toNatClampNeg)).toNatClampNeg) (by have := ix_cl (x := w 15 (a1.toNatClampNeg)) (by omega); omega)
          have fp_17 : (wn_16 10 ((w 15 (a1.toNatClampNeg)).toNatClampNeg)).toInt = (w 10 ((w 15 (a1.toNatClampNeg)).toNatClampNeg)).toInt := by rw [hkP]
          refine lv_iconst (v := 1) hx hb dX7_comesPiece_112 (by decide) ?_
          refine lv_iadd hx hb dX7_comesPiece_113 ?_
          have ix_18 : vp_in (w 15 (a1.toNatClampNeg)) 2 := ix_of (by omega) (by omega)
          refine a7_pieces (j := (w 15 (a1.toNatClampNeg)).toNatClampNeg) hx hb hK hP hd hS ix_18 rfl dX7_comesPiece_114 (fun H locs hP hS => ?_)
          obtain ⟨wn_18, hwn_18⟩ : ∃ x, x = st wn_16 10 ((w 15 (a1.toNatClampNeg)).toNatClampNeg) ((wn_16 10 ((w 15 (a1.toNatClampNeg)).toNatClampNeg)) + 1) := ⟨_, rfl⟩
          rw [← hwn_18] at hP
          have E := bns_e E hwn_18
          have ft18_layers : (wn_18 11 0).toInt = (wn_16 11 0).toInt := by rw [hwn_18]; rfl
          have fv_18 : (wn_18 10 ((w 15 (a1.toNatClampNeg)).toNatClampNeg)).toInt = ((wn_16 10 ((w 15 (a1.toNatClampNeg)).toNatClampNeg)) + 1 : Int32).toInt := by rw [hwn_18, st_rd]
          have := i_addr (a := wn_16 10 ((w 15 (a1.toNatClampNeg)).toNatClampNeg)) (b := 1) (n := 1) q_1 (by omega) (by omega)
          have hI_18 : R7I wn_18 := by rw [hwn_18]; exact R7I_put_pieces hI_16 (by omega) (by omega)
          refine lv_iconst (v := 1) hx hb dX7_comesPiece_115 (by decide) ?_
          have := q_1
          exact W.zret (ty := .boolean) (v := 1) hx hb hr (z_nar (Or.inr rfl)) (fun t ht hW => ⟨⟨_, wn_18, rfl, ⟨E.symm, (Or.inr rfl), hI_18, by omega⟩, by show va_P _ _ _ t.heap; rw [ht]; exact hP⟩, hS.F ht⟩) hS.2.2 dX7_comesPiece_116
        · have E := E.trans (if_pos c_9)
          have fc_9 := i_eq c_9
          rw [q_6] at fc_9
          refine lv_iconst (v := 0) hx hb dX7_comesPiece_49 (by decide) ?_
          have := q_0
          exact W.zret (ty := .boolean) (v := 0) hx hb hr (z_nar (Or.inl rfl)) (fun t ht hW => ⟨⟨_, w, rfl, ⟨E.symm, (Or.inl rfl), hI, by omega⟩, by show va_P _ _ _ t.heap; rw [ht]; exact hP⟩, hS.F ht⟩) hS.2.2 dX7_comesPiece_50
