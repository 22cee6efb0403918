abbrev rmX6_readLayer : Room := { frames := 5, cells := 0, slots := 0, locals := 111 }
set_option maxHeartbeats 4000000 in
set_option maxRecDepth 100000 in
theorem kX6_readLayer (l : Launch) (D : va_G) (cI cC cQ : ClassId) (ad : Nat → Nat → Nat) (sd aK aV : Nat → Nat) (w : Nat → Nat → Nat → Int32) (a1 : Int32) (hd : MD ad) (hI : R6I w)  : Met l yX6_readLayer wsX6_readLayer rmX6_readLayer (va_Pc [Value.ref (ad 5 0), Value.int a1] (fun U => va_P D vwCl (MWL cI cC cQ ad w) U.heap ∧ va_K D vwCl [(cI, .int), (cC, .char), (cQ, .object "LoadedForTheLane$Way")] U ∧ NW U ∧ SE sd (MA ad) U U.heap ∧ STR aK aV (MA ad) U U.heap)) (va_Qi (fun r u => (r, u) = sX6_readLayer w a1 ∧ (r = 0 ∨ r = 1) ∧ R6I u) (fun u t => va_P D vwCl (MWL cI cC cQ ad u) t.heap) (MA ad)) 0 0 (MA ad) := by
  refine Met.ofW (cc := cX6_readLayer) (maxL := 3) (ret := (some .boolean)) (by decide) rfl ?_
  intro p e s m args below meth c s₁ B hml hv
  obtain ⟨rfl, hP, hK, hN, hSE, hST⟩ := hv
  have hx := B.exec
  have hb := B.bytes
  have hr := B.returns
  have hts := atoms_spec (ws := wsX6_readLayer) B.pre
  have hown : s.vm.findClass RX6 = some m.cls := findClass_of_methodNamed B.named
  have hlocks := B.notSynchronized
  have hin4 : ∀ q ∈ wsX40, q ∈ wsX6_readLayer := by decide +kernel
  have hin6 : ∀ q ∈ wsX60, q ∈ wsX6_readLayer := by decide +kernel
  have hl := lv_entry ([.ref (ad 5 0), .int a1]) (n := 3) (Nat.le_of_ble_eq_true rfl)
  rw [lg_entry_eq]
  generalize (lg_sl ([.ref (ad 5 0), .int a1]) ++ List.replicate (3 - (lg_sl ([.ref (ad 5 0), .int a1])).length) Slot.unset).toArray = ls at hl ⊢
  have hl : lv_has ls 3 [(0, .ref (ad 5 0)), (1, .int a1)] := hl
  suffices hgo : ∀ (H : Heap) (locs : List Loc), va_P D vwCl (MWL cI cC cQ ad w) H → va_S (MA ad) s.heap H locs → W p l e (headSpec wsX6_readLayer rmX6_readLayer).room s m [Value.ref (ad 5 0), Value.int a1].toArray below meth c H locs 0 0 (MQ below (va_Qi (fun r u => (r, u) = sX6_readLayer w a1 ∧ (r = 0 ∨ r = 1) ∧ R6I u) (fun u t => va_P D vwCl (MWL cI cC cQ ad u) t.heap) (MA ad)) [Value.ref (ad 5 0), Value.int a1].toArray s 0 0 (MA ad)) (F0 m 0 ls []) from hgo s.heap [] hP va_S.rf
  intro H locs hP hS
  have E := sX6_readLayer.eq_1 w a1
  refine lv_aload_n hx hb dX6_readLayer_0 rfl (lv_at hl 0 rfl) ?_
  refine g6_letters hx hb hts hin6 hown hK hP (hts (.fieldLink RX6 29 "LoadedForTheLane" "letters" "LLoadedForTheLane$Letters;") (by decide +kernel)) dX6_readLayer_1 ?_
  refine lv_iload_n hx hb dX6_readLayer_4 rfl (lv_at hl 1 rfl) ?_
  refine lv_bipush (v := 6) hx hb dX6_readLayer_5 (by decide +kernel) ?_
  refine lv_iadd hx hb dX6_readLayer_7 ?_
  refine vp_callSi (va_Run.run (va_runVN (As := [.int (a1 + 6)]) (rest := []) ⟨hx, hb, hml, hown, hts⟩ (kX1_digit l D cI cC cQ (ad 3) (w 3) (a1 + 6) (R6I_3 hI)) ⟨va_cnB 1 hts gX6_readLayer_X1_digit_n84 rfl rfl rfl (nm_RX6_84 hN) (hts (.initialized RX1) (by decide +kernel)) mdsX1_digit ⟨Nat.le_of_ble_eq_true rfl, Nat.le_of_ble_eq_true rfl⟩, hts (.instanceMethod yX1_digit) (by decide +kernel), hts (.selects RX1 yX1_digit yX1_digit) (by decide +kernel)⟩ (x1_pre hK (mp_3 hP)) rfl rfl hl.1 rfl (lv_room (Nat.le_of_ble_eq_true rfl)) dX6_readLayer_8 ⟨Nat.zero_le _, Nat.zero_le _⟩)) (fun rn_1 hr_1 => ?_)
  subst hr_1
  refine lv_istore_n (lv' := [(2, .int (sX1_digit (w 3) (a1 + 6))), (0, .ref (ad 5 0)), (1, .int a1)]) hx hb dX6_readLayer_11 rfl hl (by decide) rfl (fun ls hl => ?_)
  refine lv_aload_n hx hb dX6_readLayer_12 rfl (lv_at hl 1 rfl) ?_
  refine g6_letters hx hb hts hin6 hown hK hP (hts (.fieldLink RX6 29 "LoadedForTheLane" "letters" "LLoadedForTheLane$Letters;") (by decide +kernel)) dX6_readLayer_13 ?_
  refine lv_iload_n hx hb dX6_readLayer_16 rfl (lv_at hl 2 rfl) ?_
  refine lv_iconst (v := 5) hx hb dX6_readLayer_17 (by decide) ?_
  refine lv_iadd hx hb dX6_readLayer_18 ?_
  refine vp_callSi (va_Run.run (va_runVN (As := [.int (a1 + 5)]) (rest := []) ⟨hx, hb, hml, hown, hts⟩ (kX1_at l D cI cC cQ (ad 3) (w 3) (a1 + 5) (R6I_3 hI)) ⟨va_cnB 1 hts gX6_readLayer_X1_at_n70 rfl rfl rfl (nm_RX6_70 hN) (hts (.initialized RX1) (by decide +kernel)) mdsX1_at ⟨Nat.le_of_ble_eq_true rfl, Nat.le_of_ble_eq_true rfl⟩, hts (.instanceMethod yX1_at) (by decide +kernel), hts (.selects RX1 yX1_at yX1_at) (by decide +kernel)⟩ (x1_pre hK (mp_3 hP)) rfl rfl hl.1 rfl (lv_room (Nat.le_of_ble_eq_true rfl)) dX6_readLayer_19 ⟨Nat.zero_le _, Nat.zero_le _⟩)) (fun rn_2 hr_2 => ?_)
  obtain ⟨rfl, hc_2⟩ := hr_2
  refine lv_bipush (v := 45) hx hb dX6_readLayer_22 (by decide +kernel) ?_
  refine lv_icmp_ne (tgt := 30) hx hb dX6_readLayer_24 (by decide) (fun c_3 => ?_) (fun c_3 => ?_)
  · have E := E.trans (if_neg c_3)
    have fc_3 := i_ne c_3
    rw [q_45] at fc_3
    refine lv_aload_n hx hb dX6_readLayer_30 rfl (lv_at hl 1 rfl) ?_
    refine g6_trial hx hb hts hin6 hown hK hP (hts (.fieldLink RX6 16 "LoadedForTheLane" "trial" "LLoadedForTheLane$Wagon;") (by decide +kernel)) dX6_readLayer_31 ?_
    refine g4_layersn hx hb hts hin4 hown hK (mp_1 hP) (nf_RX6_99 hN) dX6_readLayer_34 ?_
    have f_4 := R4I_layers (R6I_1 hI)
    refine lv_bipush (v := 11) hx hb dX6_readLayer_37 (by decide +kernel) ?_
    refine lv_icmp_ge (tgt := 91) hx hb dX6_readLayer_39 (by decide) (fun c_5 => ?_) (fun c_5 => ?_)
    · have E := E.trans (if_pos c_5)
      have fc_5 := i_le c_5
      rw [q_11] at fc_5
      refine lv_iconst (v := 0) hx hb dX6_readLayer_91 (by decide) ?_
      exact W.zret (ty := .boolean) (v := 0) hx hb hr (z_nar (Or.inl rfl)) (fun t ht hW => ⟨⟨_, w, rfl, ⟨E.symm, (Or.inl rfl), hI⟩, by show va_P _ _ _ t.heap; rw [ht]; exact hP⟩, hS.F ht⟩) hS.2.2 dX6_readLayer_92
    · have E := E.trans (if_neg c_5)
      have fc_5 := i_nle c_5
      rw [q_11] at fc_5
      refine lv_aload_n hx hb dX6_readLayer_42 rfl (lv_at hl 1 rfl) ?_
      refine g6_trial hx hb hts hin6 hown hK hP (hts (.fieldLink RX6 16 "LoadedForTheLane" "trial" "LLoadedForTheLane$Wagon;") (by decide +kernel)) dX6_readLayer_43 ?_
      refine lv_aload_n hx hb dX6_readLayer_46 rfl (lv_at hl 1 rfl) ?_
      refine g6_letters hx hb hts hin6 hown hK hP (hts (.fieldLink RX6 29 "LoadedForTheLane" "letters" "LLoadedForTheLane$Letters;") (by decide +kernel)) dX6_readLayer_47 ?_
      refine lv_iload_n hx hb dX6_readLayer_50 rfl (lv_at hl 2 rfl) ?_
      refine lv_iconst (v := 1) hx hb dX6_readLayer_51 (by decide) ?_
      refine lv_iadd hx hb dX6_readLayer_52 ?_
      refine vp_callSi (va_Run.run (va_runVN (As := [.int (a1 + 1)]) (rest := [.ref (ad 1 0)]) ⟨hx, hb, hml, hown, hts⟩ (kX1_at l D cI cC cQ (ad 3) (w 3) (a1 + 1) (R6I_3 hI)) ⟨va_cnB 1 hts gX6_readLayer_X1_at_n70 rfl rfl rfl (nm_RX6_70 hN) (hts (.initialized RX1) (by decide +kernel)) mdsX1_at ⟨Nat.le_of_ble_eq_true rfl, Nat.le_of_ble_eq_true rfl⟩, hts (.instanceMethod yX1_at) (by decide +kernel), hts (.selects RX1 yX1_at yX1_at) (by decide +kernel)⟩ (x1_pre hK (mp_3 hP)) rfl rfl hl.1 rfl (lv_room (Nat.le_of_ble_eq_true rfl)) dX6_readLayer_53 ⟨Nat.zero_le _, Nat.zero_le _⟩)) (fun rn_6 hr_6 => ?_)
      obtain ⟨rfl, hc_6⟩ := hr_6
      refine vp_callSi (va_Run.run (va_runSN (As := [.int (sX1_at (w 3) (a1 + 1))]) (rest := [.ref (ad 1 0)]) ⟨hx, hb, hml, hown, hts⟩ (kX0_of l aK aV (MA ad) (sX1_at (w 3) (a1 + 1))) ⟨va_cnB 1 hts gX6_readLayer_X0_of_n102 rfl rfl rfl (nm_RX6_102 hN) (hts (.initialized RX0) (by decide +kernel)) mdsX0_of ⟨Nat.le_of_ble_eq_true rfl, Nat.le_of_ble_eq_true rfl⟩, hts (.static yX0_of) (by decide +kernel), trivial⟩ (tx_pre hN hST hS) rfl rfl hl.1 rfl (lv_room (Nat.le_of_ble_eq_true rfl)) dX6_readLayer_56 ⟨Nat.zero_le _, Nat.zero_le _⟩)) (fun rn_7 hr_7 => ?_)
      subst hr_7
      refine lv_aload_n hx hb dX6_readLayer_59 rfl (lv_at hl 1 rfl) ?_
      refine g6_letters hx hb hts hin6 hown hK hP (hts (.fieldLink RX6 29 "LoadedForTheLane" "letters" "LLoadedForTheLane$Letters;") (by decide +kernel)) dX6_readLayer_60 ?_
      refine lv_iload_n hx hb dX6_readLayer_63 rfl (lv_at hl 2 rfl) ?_
      refine lv_iconst (v := 2) hx hb dX6_readLayer_64 (by decide) ?_
      refine lv_iadd hx hb dX6_readLayer_65 ?_
      refine lv_iconst (v := 2) hx hb dX6_readLayer_66 (by decide) ?_
      try have := i_addr (a := a1) (b := 2) (n := 2) q_2 (by omega) (by omega)
      have := q_2
      refine vp_callSi (va_Run.run (va_runVN (As := [.int (a1 + 2), .int 2]) (rest := [.int (sX0_of (sX1_at (w 3) (a1 + 1))), .ref (ad 1 0)]) ⟨hx, hb, hml, hown, hts⟩ (kX1_number l D cI cC cQ (ad 3) (w 3) (a1 + 2) 2 (R6I_3 hI) (by omega) (by omega)) ⟨va_cnB 2 hts gX6_readLayer_X1_number_n91 rfl rfl rfl (nm_RX6_91 hN) (hts (.initialized RX1) (by decide +kernel)) mdsX1_number ⟨Nat.le_of_ble_eq_true rfl, Nat.le_of_ble_eq_true rfl⟩, hts (.instanceMethod yX1_number) (by decide +kernel), hts (.selects RX1 yX1_number yX1_number) (by decide +kernel)⟩ (x1_pre hK (mp_3 hP)) rfl rfl hl.1 rfl (lv_room (Nat.le_of_ble_eq_true rfl)) dX6_readLayer_67 ⟨Nat.zero_le _, Nat.zero_le _⟩)) (fun rn_8 hr_8 => ?_)
      subst hr_8
      refine lv_aload_n hx hb dX6_readLayer_70 rfl (lv_at hl 1 rfl) ?_
      refine g6_letters hx hb hts hin6 hown hK hP (hts (.fieldLink RX6 29 "LoadedForTheLane" "letters" "LLoadedForTheLane$Letters;") (by decide +kernel)) dX6_readLayer_71 ?_
      refine lv_iload_n hx hb dX6_readLayer_74 rfl (lv_at hl 2 rfl) ?_
      refine lv_iconst (v := 4) hx hb dX6_readLayer_75 (by decide) ?_
      refine lv_iadd hx hb dX6_readLayer_76 ?_
      refine vp_callSi (va_Run.run (va_runVN (As := [.int (a1 + 4)]) (rest := [.int (sX1_number (w 3) (a1 + 2) 2), .int (sX0_of (sX1_at (w 3) (a1 + 1))), .ref (ad 1 0)]) ⟨hx, hb, hml, hown, hts⟩ (kX1_digit l D cI cC cQ (ad 3) (w 3) (a1 + 4) (R6I_3 hI)) ⟨va_cnB 1 hts gX6_readLayer_X1_digit_n84 rfl rfl rfl (nm_RX6_84 hN) (hts (.initialized RX1) (by decide +kernel)) mdsX1_digit ⟨Nat.le_of_ble_eq_true rfl, Nat.le_of_ble_eq_true rfl⟩, hts (.instanceMethod yX1_digit) (by decide +kernel), hts (.selects RX1 yX1_digit yX1_digit) (by decide +kernel)⟩ (x1_pre hK (mp_3 hP)) rfl rfl hl.1 rfl (lv_room (Nat.le_of_ble_eq_true rfl)) dX6_readLayer_77 ⟨Nat.zero_le _, Nat.zero_le _⟩)) (fun rn_9 hr_9 => ?_)
      subst hr_9
      refine lv_iload_n hx hb dX6_readLayer_80 rfl (lv_at hl 0 rfl) ?_
      refine va_calli (va_runVN (As := [.int (sX0_of (sX1_at (w 3) (a1 + 1))), .int (sX1_number (w 3) (a1 + 2) 2), .int (sX1_digit (w 3) (a1 + 4)), .int (sX1_digit (w 3) (a1 + 6))]) (rest := []) ⟨hx, hb, hml, hown, hts⟩ (kX4_lay l D cI cC cQ (ad 1) (w 1) (sX0_of (sX1_at (w 3) (a1 + 1))) (sX1_number (w 3) (a1 + 2) 2) (sX1_digit (w 3) (a1 + 4)) (sX1_digit (w 3) (a1 + 6)) (MD_1 hd) (R6I_1 hI)) ⟨va_cnB 4 hts gX6_readLayer_X4_lay_n108 rfl rfl rfl (nm_RX6_108 hN) (hts (.initialized RX4) (by decide +kernel)) mdsX4_lay ⟨Nat.le_of_ble_eq_true rfl, Nat.le_of_ble_eq_true rfl⟩, hts (.instanceMethod yX4_lay) (by decide +kernel), hts (.selects RX4 yX4_lay yX4_lay) (by decide +kernel)⟩ (x4_pre hK (mp_1 hP) hN) rfl rfl hl.1 rfl (lv_room (Nat.le_of_ble_eq_true rfl)) dX6_readLayer_81 ⟨Nat.zero_le _, Nat.zero_le _⟩) hS (fun _ _ h => MA_1 h) (fun _ h => MA_1 h) (fun rn_10 un_10 t H locs ht hvm hp_10 hB hz hfr hS => ?_)
      obtain ⟨hp_10, hz_10, hJ_10⟩ := hp_10
      have E := bnd_e E hp_10
      have hzi_10 := z_int hz_10
      have hP : va_P D vwCl (MWL cI cC cQ ad (sc w 1 un_10)) H := mp_up1 hd hP (ht ▸ hB) hfr
      obtain ⟨wn_10, hwn_10⟩ : ∃ x, x = sc w 1 un_10 := ⟨_, rfl⟩
      rw [← hwn_10] at hP
      have E := bns_e E hwn_10
      have hI_10 : R6I wn_10 := by rw [hwn_10]; exact R6I_up1 hI hJ_10
      refine lv_if_eq (tgt := 91) hx hb dX6_readLayer_84 (by decide) (fun c_11 => ?_) (fun c_11 => ?_)
      · have E := E.trans (if_pos c_11)
        have fc_11 := i_eq c_11
        rw [q_0] at fc_11
        refine lv_iconst (v := 0) hx hb dX6_readLayer_91 (by decide) ?_
        exact W.zret (ty := .boolean) (v := 0) hx hb hr (z_nar (Or.inl rfl)) (fun t ht hW => ⟨⟨_, wn_10, rfl, ⟨E.symm, (Or.inl rfl), hI_10⟩, by show va_P _ _ _ t.heap; rw [ht]; exact hP⟩, hS.F ht⟩) hS.2.2 dX6_readLayer_92
      · have E := E.trans (if_neg c_11)
        have fc_11 := i_ne c_11
        rw [q_0] at fc_11
        refine lv_iconst (v := 1) hx hb dX6_readLayer_87 (by decide) ?_
        refine lv_goto (tgt := 92) hx hb dX6_readLayer_88 (by decide) ?_
        exact W.zret (ty := .boolean) (v := 1) hx hb hr (z_nar (Or.inr rfl)) (fun t ht hW => ⟨⟨_, wn_10, rfl, ⟨E.symm, (Or.inr rfl), hI_10⟩, by show va_P _ _ _ t.heap; rw [ht]; exact hP⟩, hS.F ht⟩) hS.2.2 dX6_readLayer_92
  · have E := E.trans (if_pos c_3)
    have fc_3 := i_eq c_3
    rw [q_45] at fc_3
    refine lv_iload_n hx hb dX6_readLayer_27 rfl (lv_at hl 0 rfl) ?_
    refine lv_ineg hx hb dX6_readLayer_28 ?_
    refine lv_istore_n (lv' := [(2, .int (-(sX1_digit (w 3) (a1 + 6)))), (0, .ref (ad 5 0)), (1, .int a1)]) hx hb dX6_readLayer_29 rfl hl (by decide) rfl (fun ls hl => ?_)
    refine lv_aload_n hx hb dX6_readLayer_30 rfl (lv_at hl 1 rfl) ?_
    refine g6_trial hx hb hts hin6 hown hK hP (hts (.fieldLink RX6 16 "LoadedForTheLane" "trial" "LLoadedForTheLane$Wagon;") (by decide +kernel)) dX6_readLayer_31 ?_
    refine g4_layersn hx hb hts hin4 hown hK (mp_1 hP) (nf_RX6_99 hN) dX6_readLayer_34 ?_
    have f_12 := R4I_layers (R6I_1 hI)
    refine lv_bipush (v := 11) hx hb dX6_readLayer_37 (by decide +kernel) ?_
    refine lv_icmp_ge (tgt := 91) hx hb dX6_readLayer_39 (by decide) (fun c_13 => ?_) (fun c_13 => ?_)
    · have E := E.trans (if_pos c_13)
      have fc_13 := i_le c_13
      rw [q_11] at fc_13
      refine lv_iconst (v := 0) hx hb dX6_readLayer_91 (by decide) ?_
      exact W.zret (ty := .boolean) (v := 0) hx hb hr (z_nar (Or.inl rfl)) (fun t ht hW => ⟨⟨_, w, rfl, ⟨E.symm, (Or.inl rfl), hI⟩, by show va_P _ _ _ t.heap; rw [ht]; exact hP⟩, hS.F ht⟩) hS.2.2 dX6_readLayer_92
    · have E := E.trans (if_neg c_13)
      have fc_13 := i_nle c_13
      rw [q_11] at fc_13
      refine lv_aload_n hx hb dX6_readLayer_42 rfl (lv_at hl 1 rfl) ?_
      refine g6_trial hx hb hts hin6 hown hK hP (hts (.fieldLink RX6 16 "LoadedForTheLane" "trial" "LLoadedForTheLane$Wagon;") (by decide +kernel)) dX6_readLayer_43 ?_
      refine lv_aload_n hx hb dX6_readLayer_46 rfl (lv_at hl 1 rfl) ?_
      refine g6_letters hx hb hts hin6 hown hK hP (hts (.fieldLink RX6 29 "LoadedForTheLane" "letters" "LLoadedForTheLane$Letters;") (by decide +kernel)) dX6_readLayer_47 ?_
      refine lv_iload_n hx hb dX6_readLayer_50 rfl (lv_at hl 2 rfl) ?_
      refine lv_iconst (v := 1) hx hb dX6_readLayer_51 (by decide) ?_
      refine lv_iadd hx hb dX6_readLayer_52 ?_
      refine vp_callSi (va_Run.run (va_runVN (As := [.int (a1 + 1)]) (rest := [.ref (ad 1 0)]) ⟨hx, hb, hml, hown, hts⟩ (kX1_at l D cI cC cQ (ad 3) (w 3) (a1 + 1) (R6I_3 hI)) ⟨va_cnB 1 hts gX6_readLayer_X1_at_n70 rfl rfl rfl (nm_RX6_70 hN) (hts (.initialized RX1) (by decide +kernel)) mdsX1_at ⟨Nat.le_of_ble_eq_true rfl, Nat.le_of_ble_eq_true rfl⟩, hts (.instanceMethod yX1_at) (by decide +kernel), hts (.selects RX1 yX1_at yX1_at) (by decide +kernel)⟩ (x1_pre hK (mp_3 hP)) rfl rfl hl.1 rfl (lv_room (Nat.le_of_ble_eq_true rfl)) dX6_readLayer_53 ⟨Nat.zero_le _, Nat.zero_le _⟩)) (fun rn_14 hr_14 => ?_)
      obtain ⟨rfl, hc_14⟩ := hr_14
      refine vp_callSi (va_Run.run (va_runSN (As := [.int (sX1_at (w 3) (a1 + 1))]) (rest := [.ref (ad 1 0)]) ⟨hx, hb, hml, hown, hts⟩ (kX0_of l aK aV (MA ad) (sX1_at (w 3) (a1 + 1))) ⟨va_cnB 1 hts gX6_readLayer_X0_of_n102 rfl rfl rfl (nm_RX6_102 hN) (hts (.initialized RX0) (by decide +kernel)) mdsX0_of ⟨Nat.le_of_ble_eq_true rfl, Nat.le_of_ble_eq_true rfl⟩, hts (.static yX0_of) (by decide +kernel), trivial⟩ (tx_pre hN hST hS) rfl rfl hl.1 rfl (lv_room (Nat.le_of_ble_eq_true rfl)) dX6_readLayer_56 ⟨Nat.zero_le _, Nat.zero_le _⟩)) (fun rn_15 hr_15 => ?_)
      subst hr_15
      refine lv_aload_n hx hb dX6_readLayer_59 rfl (lv_at hl 1 rfl) ?_
      refine g6_letters hx hb hts hin6 hown hK hP (hts (.fieldLink RX6 29 "LoadedForTheLane" "letters" "LLoadedForTheLane$Letters;") (by decide +kernel)) dX6_readLayer_60 ?_
      refine lv_iload_n hx hb dX6_readLayer_63 rfl (lv_at hl 2 rfl) ?_
      refine lv_iconst (v := 2) hx hb dX6_readLayer_64 (by decide) ?_
      refine lv_iadd hx hb dX6_readLayer_65 ?_
      refine lv_iconst (v := 2) hx hb dX6_readLayer_66 (by decide) ?_
      try have := i_addr (a := a1) (b := 2) (n := 2) q_2 (by omega) (by omega)
      have := q_2
      refine vp_callSi (va_Run.run (va_runVN (As := [.int (a1 + 2), .int 2]) (rest := [.int (sX0_of (sX1_at (w 3) (a1 + 1))), .ref (ad 1 0)]) ⟨hx, hb, hml, hown, hts⟩ (kX1_number l D cI cC cQ (ad 3) (w 3) (a1 + 2) 2 (R6I_3 hI) (by omega) (by omega)) ⟨va_cnB 2 hts gX6_readLayer_X1_number_n91 rfl rfl rfl (nm_RX6_91 hN) (hts (.initialized RX1) (by decide +kernel)) mdsX1_number ⟨Nat.le_of_ble_eq_true rfl, Nat.le_of_ble_eq_true rfl⟩, hts (.instanceMethod yX1_number) (by decide +kernel), hts (.selects RX1 yX1_number yX1_number) (by decide +kernel)⟩ (x1_pre hK (mp_3 hP)) rfl rfl hl.1 rfl (lv_room (Nat.le_of_ble_eq_true rfl)) dX6_readLayer_67 ⟨Nat.zero_le _, Nat.zero_le _⟩)) (fun rn_16 hr_16 => ?_)
      subst hr_16
      refine lv_aload_n hx hb dX6_readLayer_70 rfl (lv_at hl 1 rfl) ?_
      refine g6_letters hx hb hts hin6 hown hK hP (hts (.fieldLink RX6 29 "LoadedForTheLane" "letters" "LLoadedForTheLane$Letters;") (by decide +kernel)) dX6_readLayer_71 ?_
      refine lv_iload_n hx hb dX6_readLayer_74 rfl (lv_at hl 2 rfl) ?_
      refine lv_iconst (v := 4) hx hb dX6_readLayer_75 (by decide) ?_
      refine lv_iadd hx hb dX6_readLayer_76 ?_
      refine vp_callSi (va_Run.run (va_runVN (As := [.int (a1 + 4)]) (rest := [.int (sX1_number (w 3) (a1 + 2) 2), .int (sX0_of (sX1_at (w 3) (a1 + 1))), .ref (ad 1 0)]) ⟨hx, hb, hml, hown, hts⟩ (kX1_digit l D cI cC cQ (ad 3) (w 3) (a1 + 4) (R6I_3 hI)) ⟨va_cnB 1 hts gX6_readLayer_X1_digit_n84 rfl rfl rfl (nm_RX6_84 hN) (hts (.initialized RX1) (by decide +kernel)) mdsX1_digit ⟨Nat.le_of_ble_eq_true rfl, Nat.le_of_ble_eq_true rfl⟩, hts (.instanceMethod yX1_digit) (by decide +kernel), hts (.selects RX1 yX1_digit yX1_digit) (by decide +kernel)⟩ (x1_pre hK (mp_3 hP)) rfl rfl hl.1 rfl (lv_room (Nat.le_of_ble_eq_true rfl)) dX6_readLayer_77 ⟨Nat.zero_le _, Nat.zero_le _⟩)) (fun rn_17 hr_17 => ?_)
      subst hr_17
      refine lv_iload_n hx hb dX6_readLayer_80 rfl (lv_at hl 0 rfl) ?_
      refine va_calli (va_runVN (As := [.int (sX0_of (sX1_at (w 3) (a1 + 1))), .int (sX1_number (w 3) (a1 + 2) 2), .int (sX1_digit (w 3) (a1 + 4)), .int (-(sX1_digit (w 3) (a1 + 6)))]) (rest := []) ⟨hx, hb, hml, hown, hts⟩ (kX4_lay l D cI cC cQ (ad 1) (w 1) (sX0_of (sX1_at (w 3) (a1 + 1))) (sX1_number (w 3) (a1 + 2) 2) (sX1_digit (w 3) (a1 + 4)) (-(sX1_digit (w 3) (a1 + 6))) (MD_1 hd) (R6I_1 hI)) ⟨va_cnB 4 hts gX6_readLayer_X4_lay_n108 rfl rfl rfl (nm_RX6_108 hN) (hts (.initialized RX4) (by decide +kernel)) mdsX4_lay ⟨Nat.le_of_ble_eq_true rfl, Nat.le_of_ble_eq_true rfl⟩, hts (.instanceMethod yX4_lay) (by decide +kernel), hts (.selects RX4 yX4_lay yX4_lay) (by decide +kernel)⟩ (x4_pre hK (mp_1 hP) hN) rfl rfl hl.1 rfl (lv_room (Nat.le_of_ble_eq_true rfl)) dX6_readLayer_81 ⟨Nat.zero_le _, Nat.zero_le _⟩) hS (fun _ _ h => MA_1 h) (fun _ h => MA_1 h) (fun rn_18 un_18 t H locs ht hvm hp_18 hB hz hfr hS => ?_)
      obtain ⟨hp_18, hz_18, hJ_18⟩ := hp_18
      have E := bnd_e E hp_18
      have hzi_18 := z_int hz_18
      have hP : va_P D vwCl (MWL cI cC cQ ad (sc w 1 un_18)) H := mp_up1 hd hP (ht ▸ hB) hfr
      obtain ⟨wn_18, hwn_18⟩ : ∃ x, x = sc w 1 un_18 := ⟨_, rfl⟩
      rw [← hwn_18] at hP
      have E := bns_e E hwn_18
      have hI_18 : R6I wn_18 := by rw [hwn_18]; exact R6I_up1 hI hJ_18
      refine lv_if_eq (tgt := 91) hx hb dX6_readLayer_84 (by decide) (fun c_19 => ?_) (fun c_19 => ?_)
      · have E := E.trans (if_pos c_19)
        have fc_19 := i_eq c_19
        rw [q_0] at fc_19
        refine lv_iconst (v := 0) hx hb dX6_readLayer_91 (by decide) ?_
        exact W.zret (ty := .boolean) (v := 0) hx hb hr (z_nar (Or.inl rfl)) (fun t ht hW => ⟨⟨_, wn_18, rfl, ⟨E.symm, (Or.inl rfl), hI_18⟩, by show va_P _ _ _ t.heap; rw [ht]; exact hP⟩, hS.F ht⟩) hS.2.2 dX6_readLayer_92
      · have E := E.trans (if_neg c_19)
        have fc_19 := i_ne c_19
        rw [q_0] at fc_19
        refine lv_iconst (v := 1) hx hb dX6_readLayer_87 (by decide) ?_
        refine lv_goto (tgt := 92) hx hb dX6_readLayer_88 (by decide) ?_
        exact W.zret (ty := .boolean) (v := 1) hx hb hr (z_nar (Or.inr rfl)) (fun t ht hW => ⟨⟨_, wn_18, rfl, ⟨E.symm, (Or.inr rfl), hI_18⟩, by show va_P _ _ _ t.heap; rw [ht]; exact hP⟩, hS.F ht⟩) hS.2.2 dX6_readLayer_92
abbrev rmX6_readPiece : Room := { frames := 5, cells := 0, slots := 0, locals := 111 }
set_option maxHeartbeats 4000000 in
set_option maxRecDepth 100000 in
theorem kX6_readPiece (l : Launch) (D : va_G) (cI cC cQ : ClassId) (ad : Nat → Nat → Nat) (sd aK aV : Nat → Nat) (w : Nat → Nat → Nat → Int32) (a1 : Int32) (hd : MD ad) (hI : R6I w)  : Met l yX6_readPiece wsX6_readPiece rmX6_readPiece (va_Pc [Value.ref (ad 5 0), Value.int a1] (fun U => va_P D vwCl (MWL cI cC cQ ad w) U.heap ∧ va_K D vwCl [(cI, .int), (cC, .char), (cQ, .object "LoadedForTheLane$Way")] U ∧ NW U ∧ SE sd (MA ad) U U.heap ∧ STR aK aV (MA ad) U U.heap)) (va_Qi (fun r u => (r, u) = sX6_readPiece w a1 ∧ (r = 0 ∨ r = 1) ∧ R6I u) (fun u t => va_P D vwCl (MWL cI cC cQ ad u) t.heap) (MA ad)) 0 0 (MA ad) := by
  refine Met.ofW (cc := cX6_readPiece) (maxL := 3) (ret := (some .boolean)) (by decide) rfl ?_
  intro p e s m args below meth c s₁ B hml hv
  obtain ⟨rfl, hP, hK, hN, hSE, hST⟩ := hv
  have hx := B.exec
  have hb := B.bytes
  have hr := B.returns
  have hts := atoms_spec (ws := wsX6_readPiece) B.pre
  have hown : s.vm.findClass RX6 = some m.cls := findClass_of_methodNamed B.named
  have hlocks := B.notSynchronized
  have hin4 : ∀ q ∈ wsX40, q ∈ wsX6_readPiece := by decide +kernel
  have hin6 : ∀ q ∈ wsX60, q ∈ wsX6_readPiece := by decide +kernel
  have hl := lv_entry ([.ref (ad 5 0), .int a1]) (n := 3) (Nat.le_of_ble_eq_true rfl)
  rw [lg_entry_eq]
  generalize (lg_sl ([.ref (ad 5 0), .int a1]) ++ List.replicate (3 - (lg_sl ([.ref (ad 5 0), .int a1])).length) Slot.unset).toArray = ls at hl ⊢
  have hl : lv_has ls 3 [(0, .ref (ad 5 0)), (1, .int a1)] := hl
  suffices hgo : ∀ (H : Heap) (locs : List Loc), va_P D vwCl (MWL cI cC cQ ad w) H → va_S (MA ad) s.heap H locs → W p l e (headSpec wsX6_readPiece rmX6_readPiece).room s m [Value.ref (ad 5 0), Value.int a1].toArray below meth c H locs 0 0 (MQ below (va_Qi (fun r u => (r, u) = sX6_readPiece w a1 ∧ (r = 0 ∨ r = 1) ∧ R6I u) (fun u t => va_P D vwCl (MWL cI cC cQ ad u) t.heap) (MA ad)) [Value.ref (ad 5 0), Value.int a1].toArray s 0 0 (MA ad)) (F0 m 0 ls []) from hgo s.heap [] hP va_S.rf
  intro H locs hP hS
  have E := sX6_readPiece.eq_1 w a1
  refine lv_aload_n hx hb dX6_readPiece_0 rfl (lv_at hl 0 rfl) ?_
  refine g6_letters hx hb hts hin6 hown hK hP (hts (.fieldLink RX6 29 "LoadedForTheLane" "letters" "LLoadedForTheLane$Letters;") (by decide +kernel)) dX6_readPiece_1 ?_
  refine lv_iload_n hx hb dX6_readPiece_4 rfl (lv_at hl 1 rfl) ?_
  refine lv_iconst (v := 1) hx hb dX6_readPiece_5 (by decide) ?_
  refine lv_iadd hx hb dX6_readPiece_6 ?_
  refine vp_callSi (va_Run.run (va_runVN (As := [.int (a1 + 1)]) (rest := []) ⟨hx, hb, hml, hown, hts⟩ (kX1_digit l D cI cC cQ (ad 3) (w 3) (a1 + 1) (R6I_3 hI)) ⟨va_cnB 1 hts gX6_readPiece_X1_digit_n84 rfl rfl rfl (nm_RX6_84 hN) (hts (.initialized RX1) (by decide +kernel)) mdsX1_digit ⟨Nat.le_of_ble_eq_true rfl, Nat.le_of_ble_eq_true rfl⟩, hts (.instanceMethod yX1_digit) (by decide +kernel), hts (.selects RX1 yX1_digit yX1_digit) (by decide +kernel)⟩ (x1_pre hK (mp_3 hP)) rfl rfl hl.1 rfl (lv_room (Nat.le_of_ble_eq_true rfl)) dX6_readPiece_7 ⟨Nat.zero_le _, Nat.zero_le _⟩)) (fun rn_1 hr_1 => ?_)
  subst hr_1
  refine lv_istore_n (lv' := [(2, .int (sX1_digit (w 3) (a1 + 1))), (0, .ref (ad 5 0)), (1, .int a1)]) hx hb dX6_readPiece_10 rfl hl (by decide) rfl (fun ls hl => ?_)
  refine lv_aload_n hx hb dX6_readPiece_11 rfl (lv_at hl 1 rfl) ?_
  refine g6_trial hx hb hts hin6 hown hK hP (hts (.fieldLink RX6 16 "LoadedForTheLane" "trial" "LLoadedForTheLane$Wagon;") (by decide +kernel)) dX6_readPiece_12 ?_
  refine lv_iload_n hx hb dX6_readPiece_15 rfl (lv_at hl 0 rfl) ?_
  refine vp_callSi (va_Run.run (va_runVN (As := [.int (sX1_digit (w 3) (a1 + 1))]) (rest := []) ⟨hx, hb, hml, hown, hts⟩ (kX4_hasWay l D cI cC cQ (ad 1) (w 1) (sX1_digit (w 3) (a1 + 1))) ⟨va_cnB 1 hts gX6_readPiece_X4_hasWay_n112 rfl rfl rfl (nm_RX6_112 hN) (hts (.initialized RX4) (by decide +kernel)) mdsX4_hasWay ⟨Nat.le_of_ble_eq_true rfl, Nat.le_of_ble_eq_true rfl⟩, hts (.instanceMethod yX4_hasWay) (by decide +kernel), hts (.selects RX4 yX4_hasWay yX4_hasWay) (by decide +kernel)⟩ (x4_pre hK (mp_1 hP) hN) rfl rfl hl.1 rfl (lv_room (Nat.le_of_ble_eq_true rfl)) dX6_readPiece_16 ⟨Nat.zero_le _, Nat.zero_le _⟩)) (fun rn_2 hr_2 => ?_)
  obtain ⟨rfl, hz_2⟩ := hr_2
  refine lv_if_eq (tgt := 75) hx hb dX6_readPiece_19 (by decide) (fun c_3 => ?_) (fun c_3 => ?_)
  · have E := E.trans (if_pos c_3)
    have fc_3 := i_eq c_3
    rw [q_0] at fc_3
    refine lv_iconst (v := 0) hx hb dX6_readPiece_75 (by decide) ?_
    exact W.zret (ty := .boolean) (v := 0) hx hb hr (z_nar (Or.inl rfl)) (fun t ht hW => ⟨⟨_, w, rfl, ⟨E.symm, (Or.inl rfl), hI⟩, by show va_P _ _ _ t.heap; rw [ht]; exact hP⟩, hS.F ht⟩) hS.2.2 dX6_readPiece_76
  · have E := E.trans (if_neg c_3)
    have fc_3 := i_ne c_3
    rw [q_0] at fc_3
    have gc_3 := fX4_hasWay c_3
    refine lv_aload_n hx hb dX6_readPiece_22 rfl (lv_at hl 1 rfl) ?_
    refine g6_trial hx hb hts hin6 hown hK hP (hts (.fieldLink RX6 16 "LoadedForTheLane" "trial" "LLoadedForTheLane$Wagon;") (by decide +kernel)) dX6_readPiece_23 ?_
    refine g4_waysn hx hb hts hin4 hown hK (mp_1 hP) (nf_RX6_115 hN) dX6_readPiece_26 ?_
    refine lv_iload_n hx hb dX6_readPiece_29 rfl (lv_at hl 0 rfl) ?_
    have ix_4 : vp_in (sX1_digit (w 3) (a1 + 1)) 2 := ix_of (by omega) (by omega)
    refine q4_ways (j := ((sX1_digit (w 3) (a1 + 1)).toNatClampNeg)) hx hb hK (mp_1 hP) ix_4 rfl dX6_readPiece_30 ?_
    have hk_4 : ((sX1_digit (w 3) (a1 + 1)).toNatClampNeg) < 2 := by have := ix_cl (x := (sX1_digit (w 3) (a1 + 1))) (by omega); omega
    refine lv_aload_n hx hb dX6_readPiece_31 rfl (lv_at hl 1 rfl) ?_
    refine g6_letters hx hb hts hin6 hown hK hP (hts (.fieldLink RX6 29 "LoadedForTheLane" "letters" "LLoadedForTheLane$Letters;") (by decide +kernel)) dX6_readPiece_32 ?_
    refine lv_iload_n hx hb dX6_readPiece_35 rfl (lv_at hl 2 rfl) ?_
    refine lv_iconst (v := 2) hx hb dX6_readPiece_36 (by decide) ?_
    refine lv_iadd hx hb dX6_readPiece_37 ?_
    refine vp_callSi (va_Run.run (va_runVN (As := [.int (a1 + 2)]) (rest := [.ref (ad 1 (10 + 4 * ((sX1_digit (w 3) (a1 + 1)).toNatClampNeg)))]) ⟨hx, hb, hml, hown, hts⟩ (kX1_at l D cI cC cQ (ad 3) (w 3) (a1 + 2) (R6I_3 hI)) ⟨va_cnB 1 hts gX6_readPiece_X1_at_n70 rfl rfl rfl (nm_RX6_70 hN) (hts (.initialized RX1) (by decide +kernel)) mdsX1_at ⟨Nat.le_of_ble_eq_true rfl, Nat.le_of_ble_eq_true rfl⟩, hts (.instanceMethod yX1_at) (by decide +kernel), hts (.selects RX1 yX1_at yX1_at) (by decide +kernel)⟩ (x1_pre hK (mp_3 hP)) rfl rfl hl.1 rfl (lv_room (Nat.le_of_ble_eq_true rfl)) dX6_readPiece_38 ⟨Nat.zero_le _, Nat.zero_le _⟩)) (fun rn_5 hr_5 => ?_)
    obtain ⟨rfl, hc_5⟩ := hr_5
    refine vp_callSi (va_Run.run (va_runSN (As := [.int (sX1_at (w 3) (a1 + 2))]) (rest := [.ref (ad 1 (10 + 4 * ((sX1_digit (w 3) (a1 + 1)).toNatClampNeg)))]) ⟨hx, hb, hml, hown, hts⟩ (kX2_of l aK aV (MA ad) (sX1_at (w 3) (a1 + 2))) ⟨va_cnB 1 hts gX6_readPiece_X2_of_n119 rfl rfl rfl (nm_RX6_119 hN) (hts (.initialized RX2) (by decide +kernel)) mdsX2_of ⟨Nat.le_of_ble_eq_true rfl, Nat.le_of_ble_eq_true rfl⟩, hts (.static yX2_of) (by decide +kernel), trivial⟩ (tx_pre hN hST hS) rfl rfl hl.1 rfl (lv_room (Nat.le_of_ble_eq_true rfl)) dX6_readPiece_41 ⟨Nat.zero_le _, Nat.zero_le _⟩)) (fun rn_6 hr_6 => ?_)
    subst hr_6
    refine lv_aload_n hx hb dX6_readPiece_44 rfl (lv_at hl 1 rfl) ?_
    refine g6_letters hx hb hts hin6 hown hK hP (hts (.fieldLink RX6 29 "LoadedForTheLane" "letters" "LLoadedForTheLane$Letters;") (by decide +kernel)) dX6_readPiece_45 ?_
    refine lv_iload_n hx hb dX6_readPiece_48 rfl (lv_at hl 2 rfl) ?_
    refine lv_iconst (v := 3) hx hb dX6_readPiece_49 (by decide) ?_
    refine lv_iadd hx hb dX6_readPiece_50 ?_
    refine lv_iconst (v := 2) hx hb dX6_readPiece_51 (by decide) ?_
    try have := i_addr (a := a1) (b := 3) (n := 3) q_3 (by omega) (by omega)
    have := q_2
    refine vp_callSi (va_Run.run (va_runVN (As := [.int (a1 + 3), .int 2]) (rest := [.int (sX2_of (sX1_at (w 3) (a1 + 2))), .ref (ad 1 (10 + 4 * ((sX1_digit (w 3) (a1 + 1)).toNatClampNeg)))]) ⟨hx, hb, hml, hown, hts⟩ (kX1_number l D cI cC cQ (ad 3) (w 3) (a1 + 3) 2 (R6I_3 hI) (by omega) (by omega)) ⟨va_cnB 2 hts gX6_readPiece_X1_number_n91 rfl rfl rfl (nm_RX6_91 hN) (hts (.initialized RX1) (by decide +kernel)) mdsX1_number ⟨Nat.le_of_ble_eq_true rfl, Nat.le_of_ble_eq_true rfl⟩, hts (.instanceMethod yX1_number) (by decide +kernel), hts (.selects RX1 yX1_number yX1_number) (by decide +kernel)⟩ (x1_pre hK (mp_3 hP)) rfl rfl hl.1 rfl (lv_room (Nat.le_of_ble_eq_true rfl)) dX6_readPiece_52 ⟨Nat.zero_le _, Nat.zero_le _⟩)) (fun rn_7 hr_7 => ?_)
    subst hr_7
    refine lv_aload_n hx hb dX6_readPiece_55 rfl (lv_at hl 1 rfl) ?_
    refine g6_letters hx hb hts hin6 hown hK hP (hts (.fieldLink RX6 29 "LoadedForTheLane" "letters" "LLoadedForTheLane$Letters;") (by decide +kernel)) dX6_readPiece_56 ?_
    refine lv_iload_n hx hb dX6_readPiece_59 rfl (lv_at hl 2 rfl) ?_
    refine lv_iconst (v := 5) hx hb dX6_readPiece_60 (by decide) ?_
    refine lv_iadd hx hb dX6_readPiece_61 ?_
    refine vp_callSi (va_Run.run (va_runVN (As := [.int (a1 + 5)]) (rest := [.int (sX1_number (w 3) (a1 + 3) 2), .int (sX2_of (sX1_at (w 3) (a1 + 2))), .ref (ad 1 (10 + 4 * ((sX1_digit (w 3) (a1 + 1)).toNatClampNeg)))]) ⟨hx, hb, hml, hown, hts⟩ (kX1_digit l D cI cC cQ (ad 3) (w 3) (a1 + 5) (R6I_3 hI)) ⟨va_cnB 1 hts gX6_readPiece_X1_digit_n84 rfl rfl rfl (nm_RX6_84 hN) (hts (.initialized RX1) (by decide +kernel)) mdsX1_digit ⟨Nat.le_of_ble_eq_true rfl, Nat.le_of_ble_eq_true rfl⟩, hts (.instanceMethod yX1_digit) (by decide +kernel), hts (.selects RX1 yX1_digit yX1_digit) (by decide +kernel)⟩ (x1_pre hK (mp_3 hP)) rfl rfl hl.1 rfl (lv_room (Nat.le_of_ble_eq_true rfl)) dX6_readPiece_62 ⟨Nat.zero_le _, Nat.zero_le _⟩)) (fun rn_8 hr_8 => ?_)
    subst hr_8
    refine va_calli (va_runVN (As := [.int (sX2_of (sX1_at (w 3) (a1 + 2))), .int (sX1_number (w 3) (a1 + 3) 2), .int (sX1_digit (w 3) (a1 + 5))]) (rest := []) ⟨hx, hb, hml, hown, hts⟩ (kX5_add l D cI cC cQ (fun j => ad 1 (10 + 4 * ((sX1_digit (w 3) (a1 + 1)).toNatClampNeg) + j)) (wy (w 1) ((sX1_digit (w 3) (a1 + 1)).toNatClampNeg)) (sX2_of (sX1_at (w 3) (a1 + 2))) (sX1_number (w 3) (a1 + 3) 2) (sX1_digit (w 3) (a1 + 5)) (MD_w1 hd hk_4) (R5I_of (R6I_1 hI) hk_4)) ⟨va_cnB 3 hts gX6_readPiece_X5_add_n122 rfl rfl rfl (nm_RX6_122 hN) (hts (.initialized RX5) (by decide +kernel)) mdsX5_add ⟨Nat.le_of_ble_eq_true rfl, Nat.le_of_ble_eq_true rfl⟩, hts (.instanceMethod yX5_add) (by decide +kernel), hts (.selects RX5 yX5_add yX5_add) (by decide +kernel)⟩ (x5_pre hK (wg_way hk_4 (mp_1 hP))) rfl rfl hl.1 rfl (lv_room (Nat.le_of_ble_eq_true rfl)) dX6_readPiece_65 ⟨Nat.zero_le _, Nat.zero_le _⟩) hS (fun _ _ h => MA_w1 hk_4 h) (fun _ h => MA_w1 hk_4 h) (fun rn_9 un_9 t H locs ht hvm hp_9 hB hz hfr hS => ?_)
    obtain ⟨hp_9, hz_9, hJ_9⟩ := hp_9
    have E := bnd_e E hp_9
    have hzi_9 := z_int hz_9
    have hP : va_P D vwCl (MWL cI cC cQ ad (sc w 1 (swy (w 1) ((sX1_digit (w 3) (a1 + 1)).toNatClampNeg) un_9))) H := mp_way1 hd hk_4 hP (ht ▸ hB) hfr
    obtain ⟨wn_9, hwn_9⟩ : ∃ x, x = sc w 1 (swy (w 1) ((sX1_digit (w 3) (a1 + 1)).toNatClampNeg) un_9) := ⟨_, rfl⟩
    rw [← hwn_9] at hP
    have E := bns_e E hwn_9
    have hI_9 : R6I wn_9 := by rw [hwn_9]; exact R6I_way1 hI hk_4 hJ_9
    refine lv_if_eq (tgt := 75) hx hb dX6_readPiece_68 (by decide) (fun c_10 => ?_) (fun c_10 => ?_)
    · have E := E.trans (if_pos c_10)
      have fc_10 := i_eq c_10
      rw [q_0] at fc_10
      refine lv_iconst (v := 0) hx hb dX6_readPiece_75 (by decide) ?_
      exact W.zret (ty := .boolean) (v := 0) hx hb hr (z_nar (Or.inl rfl)) (fun t ht hW => ⟨⟨_, wn_9, rfl, ⟨E.symm, (Or.inl rfl), hI_9⟩, by show va_P _ _ _ t.heap; rw [ht]; exact hP⟩, hS.F ht⟩) hS.2.2 dX6_readPiece_76
    · have E := E.trans (if_neg c_10)
      have fc_10 := i_ne c_10
      rw [q_0] at fc_10
      refine lv_iconst (v := 1) hx hb dX6_readPiece_71 (by decide) ?_
      refine lv_goto (tgt := 76) hx hb dX6_readPiece_72 (by decide) ?_
      exact W.zret (ty := .boolean) (v := 1) hx hb hr (z_nar (Or.inr rfl)) (fun t ht hW => ⟨⟨_, wn_9, rfl, ⟨E.symm, (Or.inr rfl), hI_9⟩, by show va_P _ _ _ t.heap; rw [ht]; exact hP⟩, hS.F ht⟩) hS.2.2 dX6_readPiece_76
abbrev rmX6_readStatement : Room := { frames := 6, cells := 0, slots := 0, locals := 133 }
set_option maxHeartbeats 4000000 in
set_option maxRecDepth 100000 in
theorem kX6_readStatement (l : Launch) (D : va_G) (cI cC cQ : ClassId) (ad : Nat → Nat → Nat) (sd aK aV : Nat → Nat) (w : Nat → Nat → Nat → Int32) (a1 : Int32) (hd : MD ad) (hI : R6I w)  : Met l yX6_readStatement wsX6_readStatement rmX6_readStatement (va_Pc [Value.ref (ad 5 0), Value.int a1] (fun U => va_P D vwCl (MWL cI cC cQ ad w) U.heap ∧ va_K D vwCl [(cI, .int), (cC, .char), (cQ, .object "LoadedForTheLane$Way")] U ∧ NW U ∧ SE sd (MA ad) U U.heap ∧ STR aK aV (MA ad) U U.heap)) (va_Qi (fun r u => (r, u) = sX6_readStatement w a1 ∧ (r = 0 ∨ r = 1) ∧ R6I u) (fun u t => va_P D vwCl (MWL cI cC cQ ad u) t.heap) (MA ad)) 0 0 (MA ad) := by
  refine Met.ofW (cc := cX6_readStatement) (maxL := 2) (ret := (some .boolean)) (by decide) rfl ?_
  intro p e s m args below meth c s₁ B hml hv
  obtain ⟨rfl, hP, hK, hN, hSE, hST⟩ := hv
  have hx := B.exec
  have hb := B.bytes
  have hr := B.returns
  have hts := atoms_spec (ws := wsX6_readStatement) B.pre
  have hown : s.vm.findClass RX6 = some m.cls := findClass_of_methodNamed B.named
  have hlocks := B.notSynchronized
  have hin6 : ∀ q ∈ wsX60, q ∈ wsX6_readStatement := by decide +kernel
  have hl := lv_entry ([.ref (ad 5 0), .int a1]) (n := 2) (Nat.le_of_ble_eq_true rfl)
  rw [lg_entry_eq]
  generalize (lg_sl ([.ref (ad 5 0), .int a1]) ++ List.replicate (2 - (lg_sl ([.ref (ad 5 0), .int a1])).length) Slot.unset).toArray = ls at hl ⊢
  have hl : lv_has ls 2 [(0, .ref (ad 5 0)), (1, .int a1)] := hl
  suffices hgo : ∀ (H : Heap) (locs : List Loc), va_P D vwCl (MWL cI cC cQ ad w) H → va_S (MA ad) s.heap H locs → W p l e (headSpec wsX6_readStatement rmX6_readStatement).room s m [Value.ref (ad 5 0), Value.int a1].toArray below meth c H locs 0 0 (MQ below (va_Qi (fun r u => (r, u) = sX6_readStatement w a1 ∧ (r = 0 ∨ r = 1) ∧ R6I u) (fun u t => va_P D vwCl (MWL cI cC cQ ad u) t.heap) (MA ad)) [Value.ref (ad 5 0), Value.int a1].toArray s 0 0 (MA ad)) (F0 m 0 ls []) from hgo s.heap [] hP va_S.rf
  intro H locs hP hS
  have E := sX6_readStatement.eq_1 w a1
  refine lv_aload_n hx hb dX6_readStatement_0 rfl (lv_at hl 0 rfl) ?_
  refine g6_letters hx hb hts hin6 hown hK hP (hts (.fieldLink RX6 29 "LoadedForTheLane" "letters" "LLoadedForTheLane$Letters;") (by decide +kernel)) dX6_readStatement_1 ?_
  refine lv_iload_n hx hb dX6_readStatement_4 rfl (lv_at hl 1 rfl) ?_
  refine vp_callSi (va_Run.run (va_runVN (As := [.int a1]) (rest := []) ⟨hx, hb, hml, hown, hts⟩ (kX1_at l D cI cC cQ (ad 3) (w 3) a1 (R6I_3 hI)) ⟨va_cnB 1 hts gX6_readStatement_X1_at_n70 rfl rfl rfl (nm_RX6_70 hN) (hts (.initialized RX1) (by decide +kernel)) mdsX1_at ⟨Nat.le_of_ble_eq_true rfl, Nat.le_of_ble_eq_true rfl⟩, hts (.instanceMethod yX1_at) (by decide +kernel), hts (.selects RX1 yX1_at yX1_at) (by decide +kernel)⟩ (x1_pre hK (mp_3 hP)) rfl rfl hl.1 rfl (lv_room (Nat.le_of_ble_eq_true rfl)) dX6_readStatement_5 ⟨Nat.zero_le _, Nat.zero_le _⟩)) (fun rn_1 hr_1 => ?_)
  obtain ⟨rfl, hc_1⟩ := hr_1
  have D_8 : sX6_readStatement w a1 = (0, w) → W p l e (headSpec wsX6_readStatement rmX6_readStatement).room s m [Value.ref (ad 5 0), Value.int a1].toArray below meth c H locs 0 0 (MQ below (va_Qi (fun r u => (r, u) = sX6_readStatement w a1 ∧ (r = 0 ∨ r = 1) ∧ R6I u) (fun u t => va_P D vwCl (MWL cI cC cQ ad u) t.heap) (MA ad)) [Value.ref (ad 5 0), Value.int a1].toArray s 0 0 (MA ad)) (F0 m 211 ls []) := by
    intro E
    refine lv_iconst (v := 0) hx hb dX6_readStatement_211 (by decide) ?_
    exact W.zret (ty := .boolean) (v := 0) hx hb hr (z_nar (Or.inl rfl)) (fun t ht hW => ⟨⟨_, w, rfl, ⟨E.symm, (Or.inl rfl), hI⟩, by show va_P _ _ _ t.heap; rw [ht]; exact hP⟩, hS.F ht⟩) hS.2.2 dX6_readStatement_212
  by_cases c_2 : (sX1_at (w 3) a1) = 102
  · have E := E.trans (if_pos c_2)
    refine lv_tableIn (off := 175) (tgt := 183) hx hb dX6_readStatement_8 (by rw [c_2]; decide) (by rw [c_2]; decide) (by rw [c_2]; rfl) (by decide) ?_
    have fc_2 := i_eq c_2
    rw [q_102] at fc_2
    refine lv_aload_n hx hb dX6_readStatement_183 rfl (lv_at hl 0 rfl) ?_
    refine g6_trial hx hb hts hin6 hown hK hP (hts (.fieldLink RX6 16 "LoadedForTheLane" "trial" "LLoadedForTheLane$Wagon;") (by decide +kernel)) dX6_readStatement_184 ?_
    refine lv_iconst (v := 3) hx hb dX6_readStatement_187 (by decide) ?_
    refine lv_aload_n hx hb dX6_readStatement_188 rfl (lv_at hl 0 rfl) ?_
    refine g6_letters hx hb hts hin6 hown hK hP (hts (.fieldLink RX6 29 "LoadedForTheLane" "letters" "LLoadedForTheLane$Letters;") (by decide +kernel)) dX6_readStatement_189 ?_
    refine lv_iload_n hx hb dX6_readStatement_192 rfl (lv_at hl 1 rfl) ?_
    refine lv_iconst (v := 1) hx hb dX6_readStatement_193 (by decide) ?_
    refine lv_iadd hx hb dX6_readStatement_194 ?_
    refine lv_iconst (v := 3) hx hb dX6_readStatement_195 (by decide) ?_
    try have := i_addr (a := a1) (b := 1) (n := 1) q_1 (by omega) (by omega)
    have := q_3
    refine vp_callSi (va_Run.run (va_runVN (As := [.int (a1 + 1), .int 3]) (rest := [.int 3, .ref (ad 1 0)]) ⟨hx, hb, hml, hown, hts⟩ (kX1_number l D cI cC cQ (ad 3) (w 3) (a1 + 1) 3 (R6I_3 hI) (by omega) (by omega)) ⟨va_cnB 2 hts gX6_readStatement_X1_number_n91 rfl rfl rfl (nm_RX6_91 hN) (hts (.initialized RX1) (by decide +kernel)) mdsX1_number ⟨Nat.le_of_ble_eq_true rfl, Nat.le_of_ble_eq_true rfl⟩, hts (.instanceMethod yX1_number) (by decide +kernel), hts (.selects RX1 yX1_number yX1_number) (by decide +kernel)⟩ (x1_pre hK (mp_3 hP)) rfl rfl hl.1 rfl (lv_room (Nat.le_of_ble_eq_true rfl)) dX6_readStatement_196 ⟨Nat.zero_le _, Nat.zero_le _⟩)) (fun rn_3 hr_3 => ?_)
    subst hr_3
    have := q_3
    refine va_calli (va_runVN (As := [.int 3, .int (sX1_number (w 3) (a1 + 1) 3)]) (rest := []) ⟨hx, hb, hml, hown, hts⟩ (kX4_turn l D cI cC cQ (ad 1) sd (w 1) 3 (sX1_number (w 3) (a1 + 1) 3) (MD_1 hd) (R6I_1 hI) (by omega) (by omega)) ⟨va_cnB 2 hts gX6_readStatement_X4_turn_n87 rfl rfl rfl (nm_RX6_87 hN) (hts (.initialized RX4) (by decide +kernel)) mdsX4_turn ⟨Nat.le_of_ble_eq_true rfl, Nat.le_of_ble_eq_true rfl⟩, hts (.instanceMethod yX4_turn) (by decide +kernel), hts (.selects RX4 yX4_turn yX4_turn) (by decide +kernel)⟩ (x4_preS hK (mp_1 hP) hN ((hSE.kept hS.2.1).narrow (fun _ h => MA_1 h))) rfl rfl hl.1 rfl (lv_room (Nat.le_of_ble_eq_true rfl)) dX6_readStatement_199 ⟨Nat.zero_le _, Nat.zero_le _⟩) hS (fun _ _ h => MA_1 h) (fun _ h => MA_1 h) (fun rn_4 un_4 t H locs ht hvm hp_4 hB hz hfr hS => ?_)
    obtain ⟨hp_4, hz_4, hJ_4⟩ := hp_4
    have E := bnd_e E hp_4
    have hzi_4 := z_int hz_4
    have hP : va_P D vwCl (MWL cI cC cQ ad (sc w 1 un_4)) H := mp_up1 hd hP (ht ▸ hB) hfr
    obtain ⟨wn_4, hwn_4⟩ : ∃ x, x = sc w 1 un_4 := ⟨_, rfl⟩
    rw [← hwn_4] at hP
    have E := bns_e E hwn_4
    have hI_4 : R6I wn_4 := by rw [hwn_4]; exact R6I_up1 hI hJ_4
    exact W.zret (ty := .boolean) (v := rn_4) hx hb hr (z_nar hz_4) (fun t ht hW => ⟨⟨_, wn_4, rfl, ⟨E.symm, hz_4, hI_4⟩, by show va_P _ _ _ t.heap; rw [ht]; exact hP⟩, hS.F ht⟩) hS.2.2 dX6_readStatement_202
  have E := E.trans (if_neg c_2)
  have fc_2 := i_ne c_2
  rw [q_102] at fc_2
  by_cases c_5 : (sX1_at (w 3) a1) = 107
  · have E := E.trans (if_pos c_5)
    refine lv_tableIn (off := 127) (tgt := 135) hx hb dX6_readStatement_8 (by rw [c_5]; decide) (by rw [c_5]; decide) (by rw [c_5]; rfl) (by decide) ?_
    have fc_5 := i_eq c_5
    rw [q_107] at fc_5
    refine lv_aload_n hx hb dX6_readStatement_135 rfl (lv_at hl 0 rfl) ?_
    refine g6_trial hx hb hts hin6 hown hK hP (hts (.fieldLink RX6 16 "LoadedForTheLane" "trial" "LLoadedForTheLane$Wagon;") (by decide +kernel)) dX6_readStatement_136 ?_
    refine lv_iconst (v := 1) hx hb dX6_readStatement_139 (by decide) ?_
    refine lv_aload_n hx hb dX6_readStatement_140 rfl (lv_at hl 0 rfl) ?_
    refine g6_letters hx hb hts hin6 hown hK hP (hts (.fieldLink RX6 29 "LoadedForTheLane" "letters" "LLoadedForTheLane$Letters;") (by decide +kernel)) dX6_readStatement_141 ?_
    refine lv_iload_n hx hb dX6_readStatement_144 rfl (lv_at hl 1 rfl) ?_
    refine lv_iconst (v := 1) hx hb dX6_readStatement_145 (by decide) ?_
    refine lv_iadd hx hb dX6_readStatement_146 ?_
    refine vp_callSi (va_Run.run (va_runVN (As := [.int (a1 + 1)]) (rest := [.int 1, .ref (ad 1 0)]) ⟨hx, hb, hml, hown, hts⟩ (kX1_digit l D cI cC cQ (ad 3) (w 3) (a1 + 1) (R6I_3 hI)) ⟨va_cnB 1 hts gX6_readStatement_X1_digit_n84 rfl rfl rfl (nm_RX6_84 hN) (hts (.initialized RX1) (by decide +kernel)) mdsX1_digit ⟨Nat.le_of_ble_eq_true rfl, Nat.le_of_ble_eq_true rfl⟩, hts (.instanceMethod yX1_digit) (by decide +kernel), hts (.selects RX1 yX1_digit yX1_digit) (by decide +kernel)⟩ (x1_pre hK (mp_3 hP)) rfl rfl hl.1 rfl (lv_room (Nat.le_of_ble_eq_true rfl)) dX6_readStatement_147 ⟨Nat.zero_le _, Nat.zero_le _⟩)) (fun rn_6 hr_6 => ?_)
    subst hr_6
    have := q_1
    refine va_calli (va_runVN (As := [.int 1, .int (sX1_digit (w 3) (a1 + 1))]) (rest := []) ⟨hx, hb, hml, hown, hts⟩ (kX4_turn l D cI cC cQ (ad 1) sd (w 1) 1 (sX1_digit (w 3) (a1 + 1)) (MD_1 hd) (R6I_1 hI) (by omega) (by omega)) ⟨va_cnB 2 hts gX6_readStatement_X4_turn_n87 rfl rfl rfl (nm_RX6_87 hN) (hts (.initialized RX4) (by decide +kernel)) mdsX4_turn ⟨Nat.le_of_ble_eq_true rfl, Nat.le_of_ble_eq_true rfl⟩, hts (.instanceMethod yX4_turn) (by decide +kernel), hts (.selects RX4 yX4_turn yX4_turn) (by decide +kernel)⟩ (x4_preS hK (mp_1 hP) hN ((hSE.kept hS.2.1).narrow (fun _ h => MA_1 h))) rfl rfl hl.1 rfl (lv_room (Nat.le_of_ble_eq_true rfl)) dX6_readStatement_150 ⟨Nat.zero_le _, Nat.zero_le _⟩) hS (fun _ _ h => MA_1 h) (fun _ h => MA_1 h) (fun rn_7 un_7 t H locs ht hvm hp_7 hB hz hfr hS => ?_)
    obtain ⟨hp_7, hz_7, hJ_7⟩ := hp_7
    have E := bnd_e E hp_7
    have hzi_7 := z_int hz_7
    have hP : va_P D vwCl (MWL cI cC cQ ad (sc w 1 un_7)) H := mp_up1 hd hP (ht ▸ hB) hfr
    obtain ⟨wn_7, hwn_7⟩ : ∃ x, x = sc w 1 un_7 := ⟨_, rfl⟩
    rw [← hwn_7] at hP
    have E := bns_e E hwn_7
    have hI_7 : R6I wn_7 := by rw [hwn_7]; exact R6I_up1 hI hJ_7
    refine lv_if_eq (tgt := 181) hx hb dX6_readStatement_153 (by decide) (fun c_8 => ?_) (fun c_8 => ?_)
    · have E := E.trans (if_pos c_8)
      have fc_8 := i_eq c_8
      rw [q_0] at fc_8
      refine lv_iconst (v := 0) hx hb dX6_readStatement_181 (by decide) ?_
      exact W.zret (ty := .boolean) (v := 0) hx hb hr (z_nar (Or.inl rfl)) (fun t ht hW => ⟨⟨_, wn_7, rfl, ⟨E.symm, (Or.inl rfl), hI_7⟩, by show va_P _ _ _ t.heap; rw [ht]; exact hP⟩, hS.F ht⟩) hS.2.2 dX6_readStatement_182
    · have E := E.trans (if_neg c_8)
      have fc_8 := i_ne c_8
      rw [q_0] at fc_8
      refine lv_aload_n hx hb dX6_readStatement_156 rfl (lv_at hl 0 rfl) ?_
      refine g6_trial hx hb hts hin6 hown hK hP (hts (.fieldLink RX6 16 "LoadedForTheLane" "trial" "LLoadedForTheLane$Wagon;") (by decide +kernel)) dX6_readStatement_157 ?_
      refine lv_iconst (v := 2) hx hb dX6_readStatement_160 (by decide) ?_
      refine lv_aload_n hx hb dX6_readStatement_161 rfl (lv_at hl 0 rfl) ?_
      refine g6_letters hx hb hts hin6 hown hK hP (hts (.fieldLink RX6 29 "LoadedForTheLane" "letters" "LLoadedForTheLane$Letters;") (by decide +kernel)) dX6_readStatement_162 ?_
      refine lv_iload_n hx hb dX6_readStatement_165 rfl (lv_at hl 1 rfl) ?_
      refine lv_iconst (v := 2) hx hb dX6_readStatement_166 (by decide) ?_
      refine lv_iadd hx hb dX6_readStatement_167 ?_
      refine vp_callSi (va_Run.run (va_runVN (As := [.int (a1 + 2)]) (rest := [.int 2, .ref (ad 1 0)]) ⟨hx, hb, hml, hown, hts⟩ (kX1_digit l D cI cC cQ (ad 3) (wn_7 3) (a1 + 2) (R6I_3 hI_7)) ⟨va_cnB 1 hts gX6_readStatement_X1_digit_n84 rfl rfl rfl (nm_RX6_84 hN) (hts (.initialized RX1) (by decide +kernel)) mdsX1_digit ⟨Nat.le_of_ble_eq_true rfl, Nat.le_of_ble_eq_true rfl⟩, hts (.instanceMethod yX1_digit) (by decide +kernel), hts (.selects RX1 yX1_digit yX1_digit) (by decide +kernel)⟩ (x1_pre hK (mp_3 hP)) rfl rfl hl.1 rfl (lv_room (Nat.le_of_ble_eq_true rfl)) dX6_readStatement_168 ⟨Nat.zero_le _, Nat.zero_le _⟩)) (fun rn_9 hr_9 => ?_)
      subst hr_9
      have := q_2
      refine va_calli (va_runVN (As := [.int 2, .int (sX1_digit (wn_7 3) (a1 + 2))]) (rest := []) ⟨hx, hb, hml, hown, hts⟩ (kX4_turn l D cI cC cQ (ad 1) sd (wn_7 1) 2 (sX1_digit (wn_7 3) (a1 + 2)) (MD_1 hd) (R6I_1 hI_7) (by omega) (by omega)) ⟨va_cnB 2 hts gX6_readStatement_X4_turn_n87 rfl rfl rfl (nm_RX6_87 hN) (hts (.initialized RX4) (by decide +kernel)) mdsX4_turn ⟨Nat.le_of_ble_eq_true rfl, Nat.le_of_ble_eq_true rfl⟩, hts (.instanceMethod yX4_turn) (by decide +kernel), hts (.selects RX4 yX4_turn yX4_turn) (by decide +kernel)⟩ (x4_preS hK (mp_1 hP) hN ((hSE.kept hS.2.1).narrow (fun _ h => MA_1 h))) rfl rfl hl.1 rfl (lv_room (Nat.le_of_ble_eq_true rfl)) dX6_readStatement_171 ⟨Nat.zero_le _, Nat.zero_le _⟩) hS (fun _ _ h => MA_1 h) (fun _ h => MA_1 h) (fun rn_10 un_10 t H locs ht hvm hp_10 hB hz hfr hS => ?_)
      obtain ⟨hp_10, hz_10, hJ_10⟩ := hp_10
      have E := bnd_e E hp_10
      have hzi_10 := z_int hz_10
      have hP : va_P D vwCl (MWL cI cC cQ ad (sc wn_7 1 un_10)) H := mp_up1 hd hP (ht ▸ hB) hfr
      obtain ⟨wn_10, hwn_10⟩ : ∃ x, x = sc wn_7 1 un_10 := ⟨_, rfl⟩
      rw [← hwn_10] at hP
      have E := bns_e E hwn_10
      have hI_10 : R6I wn_10 := by rw [hwn_10]; exact R6I_up1 hI_7 hJ_10
      refine lv_if_eq (tgt := 181) hx hb dX6_readStatement_174 (by decide) (fun c_11 => ?_) (fun c_11 => ?_)
      · have E := E.trans (if_pos c_11)
        have fc_11 := i_eq c_11
        rw [q_0] at fc_11
        refine lv_iconst (v := 0) hx hb dX6_readStatement_181 (by decide) ?_
        exact W.zret (ty := .boolean) (v := 0) hx hb hr (z_nar (Or.inl rfl)) (fun t ht hW => ⟨⟨_, wn_10, rfl, ⟨E.symm, (Or.inl rfl), hI_10⟩, by show va_P _ _ _ t.heap; rw [ht]; exact hP⟩, hS.F ht⟩) hS.2.2 dX6_readStatement_182
      · have E := E.trans (if_neg c_11)
        have fc_11 := i_ne c_11
        rw [q_0] at fc_11
        refine lv_iconst (v := 1) hx hb dX6_readStatement_177 (by decide) ?_
        refine lv_goto (tgt := 182) hx hb dX6_readStatement_178 (by decide) ?_
        exact W.zret (ty := .boolean) (v := 1) hx hb hr (z_nar (Or.inr rfl)) (fun t ht hW => ⟨⟨_, wn_10, rfl, ⟨E.symm, (Or.inr rfl), hI_10⟩, by show va_P _ _ _ t.heap; rw [ht]; exact hP⟩, hS.F ht⟩) hS.2.2 dX6_readStatement_182
  have E := E.trans (if_neg c_5)
  have fc_5 := i_ne c_5
  rw [q_107] at fc_5
  by_cases c_12 : (sX1_at (w 3) a1) = 114
  · have E := E.trans (if_pos c_12)
    refine lv_tableIn (off := 108) (tgt := 116) hx hb dX6_readStatement_8 (by rw [c_12]; decide) (by rw [c_12]; decide) (by rw [c_12]; rfl) (by decide) ?_
    have fc_12 := i_eq c_12
    rw [q_114] at fc_12
    refine lv_aload_n hx hb dX6_readStatement_116 rfl (lv_at hl 0 rfl) ?_
    refine g6_trial hx hb hts hin6 hown hK hP (hts (.fieldLink RX6 16 "LoadedForTheLane" "trial" "LLoadedForTheLane$Wagon;") (by decide +kernel)) dX6_readStatement_117 ?_
    refine lv_iconst (v := 0) hx hb dX6_readStatement_120 (by decide) ?_
    refine lv_aload_n hx hb dX6_readStatement_121 rfl (lv_at hl 0 rfl) ?_
    refine g6_letters hx hb hts hin6 hown hK hP (hts (.fieldLink RX6 29 "LoadedForTheLane" "letters" "LLoadedForTheLane$Letters;") (by decide +kernel)) dX6_readStatement_122 ?_
    refine lv_iload_n hx hb dX6_readStatement_125 rfl (lv_at hl 1 rfl) ?_
    refine lv_iconst (v := 1) hx hb dX6_readStatement_126 (by decide) ?_
    refine lv_iadd hx hb dX6_readStatement_127 ?_
    refine vp_callSi (va_Run.run (va_runVN (As := [.int (a1 + 1)]) (rest := [.int 0, .ref (ad 1 0)]) ⟨hx, hb, hml, hown, hts⟩ (kX1_digit l D cI cC cQ (ad 3) (w 3) (a1 + 1) (R6I_3 hI)) ⟨va_cnB 1 hts gX6_readStatement_X1_digit_n84 rfl rfl rfl (nm_RX6_84 hN) (hts (.initialized RX1) (by decide +kernel)) mdsX1_digit ⟨Nat.le_of_ble_eq_true rfl, Nat.le_of_ble_eq_true rfl⟩, hts (.instanceMethod yX1_digit) (by decide +kernel), hts (.selects RX1 yX1_digit yX1_digit) (by decide +kernel)⟩ (x1_pre hK (mp_3 hP)) rfl rfl hl.1 rfl (lv_room (Nat.le_of_ble_eq_true rfl)) dX6_readStatement_128 ⟨Nat.zero_le _, Nat.zero_le _⟩)) (fun rn_13 hr_13 => ?_)
    subst hr_13
    have := q_0
    refine va_calli (va_runVN (As := [.int 0, .int (sX1_digit (w 3) (a1 + 1))]) (rest := []) ⟨hx, hb, hml, hown, hts⟩ (kX4_turn l D cI cC cQ (ad 1) sd (w 1) 0 (sX1_digit (w 3) (a1 + 1)) (MD_1 hd) (R6I_1 hI) (by omega) (by omega)) ⟨va_cnB 2 hts gX6_readStatement_X4_turn_n87 rfl rfl rfl (nm_RX6_87 hN) (hts (.initialized RX4) (by decide +kernel)) mdsX4_turn ⟨Nat.le_of_ble_eq_true rfl, Nat.le_of_ble_eq_true rfl⟩, hts (.instanceMethod yX4_turn) (by decide +kernel), hts (.selects RX4 yX4_turn yX4_turn) (by decide +kernel)⟩ (x4_preS hK (mp_1 hP) hN ((hSE.kept hS.2.1).narrow (fun _ h => MA_1 h))) rfl rfl hl.1 rfl (lv_room (Nat.le_of_ble_eq_true rfl)) dX6_readStatement_131 ⟨Nat.zero_le _, Nat.zero_le _⟩) hS (fun _ _ h => MA_1 h) (fun _ h => MA_1 h) (fun rn_14 un_14 t H locs ht hvm hp_14 hB hz hfr hS => ?_)
    obtain ⟨hp_14, hz_14, hJ_14⟩ := hp_14
    have E := bnd_e E hp_14
    have hzi_14 := z_int hz_14
    have hP : va_P D vwCl (MWL cI cC cQ ad (sc w 1 un_14)) H := mp_up1 hd hP (ht ▸ hB) hfr
    obtain ⟨wn_14, hwn_14⟩ : ∃ x, x = sc w 1 un_14 := ⟨_, rfl⟩
    rw [← hwn_14] at hP
    have E := bns_e E hwn_14
    have hI_14 : R6I wn_14 := by rw [hwn_14]; exact R6I_up1 hI hJ_14
    exact W.zret (ty := .boolean) (v := rn_14) hx hb hr (z_nar hz_14) (fun t ht hW => ⟨⟨_, wn_14, rfl, ⟨E.symm, hz_14, hI_14⟩, by show va_P _ _ _ t.heap; rw [ht]; exact hP⟩, hS.F ht⟩) hS.2.2 dX6_readStatement_134
  have E := E.trans (if_neg c_12)
  have fc_12 := i_ne c_12
  rw [q_114] at fc_12
  by_cases c_15 : (sX1_at (w 3) a1) = 117
  · have E := E.trans (if_pos c_15)
    refine lv_tableIn (off := 195) (tgt := 203) hx hb dX6_readStatement_8 (by rw [c_15]; decide) (by rw [c_15]; decide) (by rw [c_15]; rfl) (by decide) ?_
    have fc_15 := i_eq c_15
    rw [q_117] at fc_15
    refine lv_aload_n hx hb dX6_readStatement_203 rfl (lv_at hl 0 rfl) ?_
    refine g6_trial hx hb hts hin6 hown hK hP (hts (.fieldLink RX6 16 "LoadedForTheLane" "trial" "LLoadedForTheLane$Wagon;") (by decide +kernel)) dX6_readStatement_204 ?_
    refine va_calli (va_runVN (As := []) (rest := []) ⟨hx, hb, hml, hown, hts⟩ (kX4_takeTop l D cI cC cQ (ad 1) (w 1) (MD_1 hd) (R6I_1 hI)) ⟨va_cnB 0 hts gX6_readStatement_X4_takeTop_n95 rfl rfl rfl (nm_RX6_95 hN) (hts (.initialized RX4) (by decide +kernel)) mdsX4_takeTop ⟨Nat.le_of_ble_eq_true rfl, Nat.le_of_ble_eq_true rfl⟩, hts (.instanceMethod yX4_takeTop) (by decide +kernel), hts (.selects RX4 yX4_takeTop yX4_takeTop) (by decide +kernel)⟩ (x4_pre hK (mp_1 hP) hN) rfl rfl hl.1 rfl (lv_room (Nat.le_of_ble_eq_true rfl)) dX6_readStatement_207 ⟨Nat.zero_le _, Nat.zero_le _⟩) hS (fun _ _ h => MA_1 h) (fun _ h => MA_1 h) (fun rn_16 un_16 t H locs ht hvm hp_16 hB hz hfr hS => ?_)
    obtain ⟨hp_16, hz_16, hJ_16⟩ := hp_16
    have E := bnd_e E hp_16
    have hzi_16 := z_int hz_16
    have hP : va_P D vwCl (MWL cI cC cQ ad (sc w 1 un_16)) H := mp_up1 hd hP (ht ▸ hB) hfr
    obtain ⟨wn_16, hwn_16⟩ : ∃ x, x = sc w 1 un_16 := ⟨_, rfl⟩
    rw [← hwn_16] at hP
    have E := bns_e E hwn_16
    have hI_16 : R6I wn_16 := by rw [hwn_16]; exact R6I_up1 hI hJ_16
    exact W.zret (ty := .boolean) (v := rn_16) hx hb hr (z_nar hz_16) (fun t ht hW => ⟨⟨_, wn_16, rfl, ⟨E.symm, hz_16, hI_16⟩, by show va_P _ _ _ t.heap; rw [ht]; exact hP⟩, hS.F ht⟩) hS.2.2 dX6_readStatement_210
  have E := E.trans (if_neg c_15)
  have fc_15 := i_ne c_15
  rw [q_117] at fc_15
  by_cases c_17 : (sX1_at (w 3) a1) = 119
  · have E := E.trans (if_pos c_17)
    refine lv_tableIn (off := 102) (tgt := 110) hx hb dX6_readStatement_8 (by rw [c_17]; decide) (by rw [c_17]; decide) (by rw [c_17]; rfl) (by decide) ?_
    have fc_17 := i_eq c_17
    rw [q_119] at fc_17
    refine lv_aload_n hx hb dX6_readStatement_110 rfl (lv_at hl 0 rfl) ?_
    refine lv_iload_n hx hb dX6_readStatement_111 rfl (lv_at hl 1 rfl) ?_
    refine va_calli (va_runV (As := [.int a1]) (rest := []) ⟨hx, hb, hml, hown, hts⟩ (kX6_readPiece l D cI cC cQ ad sd aK aV w a1 hd hI) (cwV 1 hts gX6_readStatement_X6_readPiece rfl rfl rfl mdX6_readPiece ⟨Nat.le_of_ble_eq_true rfl, Nat.le_of_ble_eq_true rfl⟩) (x6_pre hK hP hN hSE hST hS) rfl rfl hl.1 rfl (lv_room (Nat.le_of_ble_eq_true rfl)) dX6_readStatement_112 ⟨Nat.zero_le _, Nat.zero_le _⟩) hS (fun _ _ h => h) (fun _ h => h) (fun rn_18 wn_18 t H locs ht hvm hp_18 hB hz hfr hS => ?_)
    obtain ⟨hp_18, hz_18, hJ_18⟩ := hp_18
    have E := bnd_e E hp_18
    have hzi_18 := z_int hz_18
    have hP : va_P D vwCl (MWL cI cC cQ ad wn_18) H := ht ▸ hB
    exact W.zret (ty := .boolean) (v := rn_18) hx hb hr (z_nar hz_18) (fun t ht hW => ⟨⟨_, wn_18, rfl, ⟨E.symm, hz_18, hJ_18⟩, by show va_P _ _ _ t.heap; rw [ht]; exact hP⟩, hS.F ht⟩) hS.2.2 dX6_readStatement_115
  have E := E.trans (if_neg c_17)
  have fc_17 := i_ne c_17
  rw [q_119] at fc_17
  by_cases c_19 : (sX1_at (w 3) a1) = 121
  · have E := E.trans (if_pos c_19)
    refine lv_tableIn (off := 96) (tgt := 104) hx hb dX6_readStatement_8 (by rw [c_19]; decide) (by rw [c_19]; decide) (by rw [c_19]; rfl) (by decide) ?_
    have fc_19 := i_eq c_19
    rw [q_121] at fc_19
    refine lv_aload_n hx hb dX6_readStatement_104 rfl (lv_at hl 0 rfl) ?_
    refine lv_iload_n hx hb dX6_readStatement_105 rfl (lv_at hl 1 rfl) ?_
    refine va_calli (va_runV (As := [.int a1]) (rest := []) ⟨hx, hb, hml, hown, hts⟩ (kX6_readLayer l D cI cC cQ ad sd aK aV w a1 hd hI) (cwV 1 hts gX6_readStatement_X6_readLayer rfl rfl rfl mdX6_readLayer ⟨Nat.le_of_ble_eq_true rfl, Nat.le_of_ble_eq_true rfl⟩) (x6_pre hK hP hN hSE hST hS) rfl rfl hl.1 rfl (lv_room (Nat.le_of_ble_eq_true rfl)) dX6_readStatement_106 ⟨Nat.zero_le _, Nat.zero_le _⟩) hS (fun _ _ h => h) (fun _ h => h) (fun rn_20 wn_20 t H locs ht hvm hp_20 hB hz hfr hS => ?_)
    obtain ⟨hp_20, hz_20, hJ_20⟩ := hp_20
    have E := bnd_e E hp_20
    have hzi_20 := z_int hz_20
    have hP : va_P D vwCl (MWL cI cC cQ ad wn_20) H := ht ▸ hB
    exact W.zret (ty := .boolean) (v := rn_20) hx hb hr (z_nar hz_20) (fun t ht hW => ⟨⟨_, wn_20, rfl, ⟨E.symm, hz_20, hJ_20⟩, by show va_P _ _ _ t.heap; rw [ht]; exact hP⟩, hS.F ht⟩) hS.2.2 dX6_readStatement_109
  have E := E.trans (if_neg c_19)
  have fc_19 := i_ne c_19
  rw [q_121] at fc_19
  by_cases c_21 : (sX1_at (w 3) a1) = 103
  · refine lv_tableIn (off := 203) (tgt := 211) hx hb dX6_readStatement_8 (by rw [c_21]; decide) (by rw [c_21]; decide) (by rw [c_21]; rfl) (by decide) ?_
    exact D_8 E
  have fc_21 := i_ne c_21
  rw [q_103] at fc_21
  by_cases c_22 : (sX1_at (w 3) a1) = 104
  · refine lv_tableIn (off := 203) (tgt := 211) hx hb dX6_readStatement_8 (by rw [c_22]; decide) (by rw [c_22]; decide) (by rw [c_22]; rfl) (by decide) ?_
    exact D_8 E
  have fc_22 := i_ne c_22
  rw [q_104] at fc_22
  by_cases c_23 : (sX1_at (w 3) a1) = 105
  · refine lv_tableIn (off := 203) (tgt := 211) hx hb dX6_readStatement_8 (by rw [c_23]; decide) (by rw [c_23]; decide) (by rw [c_23]; rfl) (by decide) ?_
    exact D_8 E
  have fc_23 := i_ne c_23
  rw [q_105] at fc_23
  by_cases c_24 : (sX1_at (w 3) a1) = 106
  · refine lv_tableIn (off := 203) (tgt := 211) hx hb dX6_readStatement_8 (by rw [c_24]; decide) (by rw [c_24]; decide) (by rw [c_24]; rfl) (by decide) ?_
    exact D_8 E
  have fc_24 := i_ne c_24
  rw [q_106] at fc_24
  by_cases c_25 : (sX1_at (w 3) a1) = 108
  · refine lv_tableIn (off := 203) (tgt := 211) hx hb dX6_readStatement_8 (by rw [c_25]; decide) (by rw [c_25]; decide) (by rw [c_25]; rfl) (by decide) ?_
    exact D_8 E
  have fc_25 := i_ne c_25
  rw [q_108] at fc_25
  by_cases c_26 : (sX1_at (w 3) a1) = 109
  · refine lv_tableIn (off := 203) (tgt := 211) hx hb dX6_readStatement_8 (by rw [c_26]; decide) (by rw [c_26]; decide) (by rw [c_26]; rfl) (by decide) ?_
    exact D_8 E
  have fc_26 := i_ne c_26
  rw [q_109] at fc_26
  by_cases c_27 : (sX1_at (w 3) a1) = 110
  · refine lv_tableIn (off := 203) (tgt := 211) hx hb dX6_readStatement_8 (by rw [c_27]; decide) (by rw [c_27]; decide) (by rw [c_27]; rfl) (by decide) ?_
    exact D_8 E
  have fc_27 := i_ne c_27
  rw [q_110] at fc_27
  by_cases c_28 : (sX1_at (w 3) a1) = 111
  · refine lv_tableIn (off := 203) (tgt := 211) hx hb dX6_readStatement_8 (by rw [c_28]; decide) (by rw [c_28]; decide) (by rw [c_28]; rfl) (by decide) ?_
    exact D_8 E
  have fc_28 := i_ne c_28
  rw [q_111] at fc_28
  by_cases c_29 : (sX1_at (w 3) a1) = 112
  · refine lv_tableIn (off := 203) (tgt := 211) hx hb dX6_readStatement_8 (by rw [c_29]; decide) (by rw [c_29]; decide) (by rw [c_29]; rfl) (by decide) ?_
    exact D_8 E
  have fc_29 := i_ne c_29
  rw [q_112] at fc_29
  by_cases c_30 : (sX1_at (w 3) a1) = 113
  · refine lv_tableIn (off := 203) (tgt := 211) hx hb dX6_readStatement_8 (by rw [c_30]; decide) (by rw [c_30]; decide) (by rw [c_30]; rfl) (by decide) ?_
    exact D_8 E
  have fc_30 := i_ne c_30
  rw [q_113] at fc_30
  by_cases c_31 : (sX1_at (w 3) a1) = 115
  · refine lv_tableIn (off := 203) (tgt := 211) hx hb dX6_readStatement_8 (by rw [c_31]; decide) (by rw [c_31]; decide) (by rw [c_31]; rfl) (by decide) ?_
    exact D_8 E
  have fc_31 := i_ne c_31
  rw [q_115] at fc_31
  by_cases c_32 : (sX1_at (w 3) a1) = 116
  · refine lv_tableIn (off := 203) (tgt := 211) hx hb dX6_readStatement_8 (by rw [c_32]; decide) (by rw [c_32]; decide) (by rw [c_32]; rfl) (by decide) ?_
    exact D_8 E
  have fc_32 := i_ne c_32
  rw [q_116] at fc_32
  by_cases c_33 : (sX1_at (w 3) a1) = 118
  · refine lv_tableIn (off := 203) (tgt := 211) hx hb dX6_readStatement_8 (by rw [c_33]; decide) (by rw [c_33]; decide) (by rw [c_33]; rfl) (by decide) ?_
    exact D_8 E
  have fc_33 := i_ne c_33
  rw [q_118] at fc_33
  by_cases c_34 : (sX1_at (w 3) a1) = 120
  · refine lv_tableIn (off := 203) (tgt := 211) hx hb dX6_readStatement_8 (by rw [c_34]; decide) (by rw [c_34]; decide) (by rw [c_34]; rfl) (by decide) ?_
    exact D_8 E
  have fc_34 := i_ne c_34
  rw [q_120] at fc_34
  refine lv_tableOut (tgt := 211) hx hb dX6_readStatement_8 (by omega) (by decide) ?_
  exact D_8 E
abbrev rmX6_readStatements : Room := { frames := 7, cells := 0, slots := 0, locals := 154 }
set_option maxHeartbeats 4000000 in
set_option maxRecDepth 100000 in
theorem kX6_readStatements (l : Launch) (D : va_G) (cI cC cQ : ClassId) (ad : Nat → Nat → Nat) (sd aK aV : Nat → Nat) (w : Nat → Nat → Nat → Int32) (hd : MD ad) (hI : R6I w)  : Met l yX6_readStatements wsX6_readStatements rmX6_readStatements (va_Pc [Value.ref (ad 5 0)] (fun U => va_P D vwCl (MWL cI cC cQ ad w) U.heap ∧ va_K D vwCl [(cI, .int), (cC, .char), (cQ, .object "LoadedForTheLane$Way")] U ∧ NW U ∧ SE sd (MA ad) U U.heap ∧ STR aK aV (MA ad) U U.heap)) (va_Qi (fun r u => (r, u) = sX6_readStatements w ∧ R6I u) (fun u t => va_P D vwCl (MWL cI cC cQ ad u) t.heap) (MA ad)) 0 0 (MA ad) := by
  refine Met.ofW (cc := cX6_readStatements) (maxL := 4) (ret := (some .int)) (by decide) rfl ?_
  intro p e s m args below meth c s₁ B hml hv
  obtain ⟨rfl, hP, hK, hN, hSE, hST⟩ := hv
  have hx := B.exec
  have hb := B.bytes
  have hr := B.returns
  have hts := atoms_spec (ws := wsX6_readStatements) B.pre
  have hown : s.vm.findClass RX6 = some m.cls := findClass_of_methodNamed B.named
  have hlocks := B.notSynchronized
  have hin1 : ∀ q ∈ wsX10, q ∈ wsX6_readStatements := by decide +kernel
  have hin6 : ∀ q ∈ wsX60, q ∈ wsX6_readStatements := by decide +kernel
  have hl := lv_entry ([.ref (ad 5 0)]) (n := 4) (Nat.le_of_ble_eq_true rfl)
  rw [lg_entry_eq]
  generalize (lg_sl ([.ref (ad 5 0)]) ++ List.replicate (4 - (lg_sl ([.ref (ad 5 0)])).length) Slot.unset).toArray = ls at hl ⊢
  have hl : lv_has ls 4 [(0, .ref (ad 5 0))] := hl
  suffices hgo : ∀ (H : Heap) (locs : List Loc), va_P D vwCl (MWL cI cC cQ ad w) H → va_S (MA ad) s.heap H locs → W p l e (headSpec wsX6_readStatements rmX6_readStatements).room s m [Value.ref (ad 5 0)].toArray below meth c H locs 0 0 (MQ below (va_Qi (fun r u => (r, u) = sX6_readStatements w ∧ R6I u) (fun u t => va_P D vwCl (MWL cI cC cQ ad u) t.heap) (MA ad)) [Value.ref (ad 5 0)].toArray s 0 0 (MA ad)) (F0 m 0 ls []) from hgo s.heap [] hP va_S.rf
  intro H locs hP hS
  have E := sX6_readStatements.eq_1 w
  refine lv_aload_n hx hb dX6_readStatements_0 rfl (lv_at hl 0 rfl) ?_
  refine g6_trial hx hb hts hin6 hown hK hP (hts (.fieldLink RX6 16 "LoadedForTheLane" "trial" "LLoadedForTheLane$Wagon;") (by decide +kernel)) dX6_readStatements_1 ?_
  refine lv_aload_n hx hb dX6_readStatements_4 rfl (lv_at hl 0 rfl) ?_
  refine g6_wagon hx hb hts hin6 hown hK hP (hts (.fieldLink RX6 10 "LoadedForTheLane" "wagon" "LLoadedForTheLane$Wagon;") (by decide +kernel)) dX6_readStatements_5 ?_
  refine va_callv (va_runVN (As := [.ref (ad 0 0)]) (rest := []) ⟨hx, hb, hml, hown, hts⟩ (kX4_become l D cI cC cQ (ad 1) (ad 0) (w 1) (w 0) (mdd_10 hd) (R6I_1 hI) (R6I_0 hI)) ⟨va_cnB 1 hts gX6_readStatements_X4_become_n66 rfl rfl rfl (nm_RX6_66 hN) (hts (.initialized RX4) (by decide +kernel)) mdsX4_become ⟨Nat.le_of_ble_eq_true rfl, Nat.le_of_ble_eq_true rfl⟩, hts (.instanceMethod yX4_become) (by decide +kernel), hts (.selects RX4 yX4_become yX4_become) (by decide +kernel)⟩ (x4b_pre rfl hK ((mp_1 hP).app (mp_0 hP)) hN) rfl rfl hl.1 rfl (lv_room (Nat.le_of_ble_eq_true rfl)) dX6_readStatements_8 ⟨Nat.zero_le _, Nat.zero_le _⟩) hS (fun _ _ h => mab_10 h) (fun _ h => mab_10 h) (fun un_1 t H locs ht hvm hp_1 hB hz hfr hS => ?_)
  obtain ⟨hp_1, hJ_1⟩ := hp_1
  have E := bns_e E hp_1
  have hP : va_P D vwCl (MWL cI cC cQ ad (sc w 1 un_1)) H := mp_bc10 hd hP (ht ▸ hB) hfr
  obtain ⟨wn_1, hwn_1⟩ : ∃ x, x = sc w 1 un_1 := ⟨_, rfl⟩
  rw [← hwn_1] at hP
  have E := bns_e E hwn_1
  have hI_1 : R6I wn_1 := by rw [hwn_1]; exact R6I_up1 hI hJ_1
  refine lv_iconst (v := 0) hx hb dX6_readStatements_11 (by decide) ?_
  refine lv_istore_n (lv' := [(1, .int 0), (0, .ref (ad 5 0))]) hx hb dX6_readStatements_12 rfl hl (by decide) rfl (fun ls hl => ?_)
  refine lv_iconst (v := 0) hx hb dX6_readStatements_13 (by decide) ?_
  refine lv_istore_n (lv' := [(2, .int 0), (1, .int 0), (0, .ref (ad 5 0))]) hx hb dX6_readStatements_14 rfl hl (by decide) rfl (fun ls hl => ?_)
  refine lv_iconst (v := 0) hx hb dX6_readStatements_15 (by decide) ?_
  refine lv_istore_n (lv' := [(3, .int 0), (2, .int 0), (1, .int 0), (0, .ref (ad 5 0))]) hx hb dX6_readStatements_16 rfl hl (by decide) rfl (fun ls hl => ?_)
  have L_17 : ∀ (n_17 : Nat) (x1_17 : Int32) (x2_17 : Int32) (x3_17 : Int32) (w_17 : Nat → Nat → Nat → Int32) (H : Heap) (locs : List Loc) (ls : Array Slot), ((0 ≤ x3_17.toInt) ∧ (x3_17.toInt ≤ 96)) → (96 - x3_17.toInt < (n_17 : Int)) → R6I w_17 → va_P D vwCl (MWL cI cC cQ ad w_17) H → va_S (MA ad) s.heap H locs → lv_has ls 4 [(3, .int x3_17), (2, .int x2_17), (1, .int x1_17), (0, .ref (ad 5 0))] → sX6_readStatements w = sX6_readStatements_17 n_17 x1_17 x2_17 x3_17 w_17 → W p l e (headSpec wsX6_readStatements rmX6_readStatements).room s m [Value.ref (ad 5 0)].toArray below meth c H locs 0 0 (MQ below (va_Qi (fun r u => (r, u) = sX6_readStatements w ∧ R6I u) (fun u t => va_P D vwCl (MWL cI cC cQ ad u) t.heap) (MA ad)) [Value.ref (ad 5 0)].toArray s 0 0 (MA ad)) (F0 m 17 ls []) := by
    intro n_17
    induction n_17 with
    | zero =>
      intro x1_17 x2_17 x3_17 w_17 H locs ls hinv hm
      obtain ⟨v0_17, v1_17⟩ := hinv
      exact absurd hm (by omega)
    | succ n_17 ih_17 =>
      intro x1_17 x2_17 x3_17 w_17 H locs ls hinv hm_17 hI_17 hP hS hl E
      obtain ⟨v0_17, v1_17⟩ := hinv
      have E := E.trans (sX6_readStatements_17.eq_2 ..)
      refine lv_iload_n hx hb dX6_readStatements_17 rfl (lv_at hl 0 rfl) ?_
      refine lv_aload_n hx hb dX6_readStatements_18 rfl (lv_at hl 3 rfl) ?_
      refine g6_letters hx hb hts hin6 hown hK hP (hts (.fieldLink RX6 29 "LoadedForTheLane" "letters" "LLoadedForTheLane$Letters;") (by decide +kernel)) dX6_readStatements_19 ?_
      refine g1_sizen hx hb hts hin1 hown hK (mp_3 hP) (nf_RX6_48 hN) dX6_readStatements_22 ?_
      have f_2 := R1I_size (R6I_3 hI_17)
      refine lv_icmp_ge (tgt := 68) hx hb dX6_readStatements_25 (by decide) (fun c_3 => ?_) (fun c_3 => ?_)
      · have E := E.trans (if_pos c_3)
        have fc_3 := i_le c_3
        refine lv_aload_n hx hb dX6_readStatements_68 rfl (lv_at hl 3 rfl) ?_
        refine g6_wagon hx hb hts hin6 hown hK hP (hts (.fieldLink RX6 10 "LoadedForTheLane" "wagon" "LLoadedForTheLane$Wagon;") (by decide +kernel)) dX6_readStatements_69 ?_
        refine lv_aload_n hx hb dX6_readStatements_72 rfl (lv_at hl 3 rfl) ?_
        refine g6_trial hx hb hts hin6 hown hK hP (hts (.fieldLink RX6 16 "LoadedForTheLane" "trial" "LLoadedForTheLane$Wagon;") (by decide +kernel)) dX6_readStatements_73 ?_
        refine va_callv (va_runVN (As := [.ref (ad 1 0)]) (rest := []) ⟨hx, hb, hml, hown, hts⟩ (kX4_become l D cI cC cQ (ad 0) (ad 1) (w_17 0) (w_17 1) (mdd_01 hd) (R6I_0 hI_17) (R6I_1 hI_17)) ⟨va_cnB 1 hts gX6_readStatements_X4_become_n66 rfl rfl rfl (nm_RX6_66 hN) (hts (.initialized RX4) (by decide +kernel)) mdsX4_become ⟨Nat.le_of_ble_eq_true rfl, Nat.le_of_ble_eq_true rfl⟩, hts (.instanceMethod yX4_become) (by decide +kernel), hts (.selects RX4 yX4_become yX4_become) (by decide +kernel)⟩ (x4b_pre rfl hK ((mp_0 hP).app (mp_1 hP)) hN) rfl rfl hl.1 rfl (lv_room (Nat.le_of_ble_eq_true rfl)) dX6_readStatements_76 ⟨Nat.zero_le _, Nat.zero_le _⟩) hS (fun _ _ h => mab_01 h) (fun _ h => mab_01 h) (fun un_4 t H locs ht hvm hp_4 hB hz hfr hS => ?_)
        obtain ⟨hp_4, hJ_4⟩ := hp_4
        have E := bns_e E hp_4
        have hP : va_P D vwCl (MWL cI cC cQ ad (sc w_17 0 un_4)) H := mp_bc01 hd hP (ht ▸ hB) hfr
        obtain ⟨wn_4, hwn_4⟩ : ∃ x, x = sc w_17 0 un_4 := ⟨_, rfl⟩
        rw [← hwn_4] at hP
        have E := bns_e E hwn_4
        have hI_4 : R6I wn_4 := by rw [hwn_4]; exact R6I_up0 hI_17 hJ_4
        refine lv_iload_n hx hb dX6_readStatements_79 rfl (lv_at hl 2 rfl) ?_
        exact W.iret (v := x1_17) hx hb hr (fun t ht hW => ⟨⟨_, wn_4, rfl, ⟨E.symm, hI_4⟩, by show va_P _ _ _ t.heap; rw [ht]; exact hP⟩, hS.F ht⟩) hS.2.2 dX6_readStatements_80
      · have E := E.trans (if_neg c_3)
        have fc_3 := i_nle c_3
        refine lv_aload_n hx hb dX6_readStatements_28 rfl (lv_at hl 3 rfl) ?_
        refine g6_letters hx hb hts hin6 hown hK hP (hts (.fieldLink RX6 29 "LoadedForTheLane" "letters" "LLoadedForTheLane$Letters;") (by decide +kernel)) dX6_readStatements_29 ?_
        refine lv_iload_n hx hb dX6_readStatements_32 rfl (lv_at hl 0 rfl) ?_
        refine vp_callSi (va_Run.run (va_runVN (As := [.int x3_17]) (rest := []) ⟨hx, hb, hml, hown, hts⟩ (kX1_at l D cI cC cQ (ad 3) (w_17 3) x3_17 (R6I_3 hI_17)) ⟨va_cnB 1 hts gX6_readStatements_X1_at_n70 rfl rfl rfl (nm_RX6_70 hN) (hts (.initialized RX1) (by decide +kernel)) mdsX1_at ⟨Nat.le_of_ble_eq_true rfl, Nat.le_of_ble_eq_true rfl⟩, hts (.instanceMethod yX1_at) (by decide +kernel), hts (.selects RX1 yX1_at yX1_at) (by decide +kernel)⟩ (x1_pre hK (mp_3 hP)) rfl rfl hl.1 rfl (lv_room (Nat.le_of_ble_eq_true rfl)) dX6_readStatements_33 ⟨Nat.zero_le _, Nat.zero_le _⟩)) (fun rn_5 hr_5 => ?_)
        obtain ⟨rfl, hc_5⟩ := hr_5
        refine lv_bipush (v := 59) hx hb dX6_readStatements_36 (by decide +kernel) ?_
        refine lv_icmp_ne (tgt := 62) hx hb dX6_readStatements_38 (by decide) (fun c_6 => ?_) (fun c_6 => ?_)
        · have E := E.trans (if_neg c_6)
          have fc_6 := i_ne c_6
          rw [q_59] at fc_6
          refine lv_iinc (v := x3_17 + 1) (lv' := [(3, .int (x3_17 + 1)), (2, .int x2_17), (1, .int x1_17), (0, .ref (ad 5 0))]) hx hb dX6_readStatements_62 hl (k := 0) rfl rfl (by decide) rfl (fun ls hl => ?_)
          refine lv_goto (tgt := 17) hx hb dX6_readStatements_65 (by decide) ?_
          try have := i_addr (a := x3_17) (b := 1) (n := 1) q_1 (by omega) (by omega)
          exact ih_17 x1_17 x2_17 (x3_17 + 1) w_17 H locs ls ⟨by omega, by omega⟩ (by omega) hI_17 hP hS (lv_sub hl [0, 1, 2, 3] rfl) E
        · have E := E.trans (if_pos c_6)
          have fc_6 := i_eq c_6
          rw [q_59] at fc_6
          refine lv_aload_n hx hb dX6_readStatements_41 rfl (lv_at hl 3 rfl) ?_
          refine lv_iload_n hx hb dX6_readStatements_42 rfl (lv_at hl 1 rfl) ?_
          refine va_calli (va_runV (As := [.int x2_17]) (rest := []) ⟨hx, hb, hml, hown, hts⟩ (kX6_readStatement l D cI cC cQ ad sd aK aV w_17 x2_17 hd hI_17) (cwV 1 hts gX6_readStatements_X6_readStatement rfl rfl rfl mdX6_readStatement ⟨Nat.le_of_ble_eq_true rfl, Nat.le_of_ble_eq_true rfl⟩) (x6_pre hK hP hN hSE hST hS) rfl rfl hl.1 rfl (lv_room (Nat.le_of_ble_eq_true rfl)) dX6_readStatements_43 ⟨Nat.zero_le _, Nat.zero_le _⟩) hS (fun _ _ h => h) (fun _ h => h) (fun rn_7 wn_7 t H locs ht hvm hp_7 hB hz hfr hS => ?_)
          obtain ⟨hp_7, hz_7, hJ_7⟩ := hp_7
          have E := bnd_e E hp_7
          have hzi_7 := z_int hz_7
          have hP : va_P D vwCl (MWL cI cC cQ ad wn_7) H := ht ▸ hB
          refine lv_if_ne (tgt := 55) hx hb dX6_readStatements_46 (by decide) (fun c_8 => ?_) (fun c_8 => ?_)
          · have E := E.trans (if_neg c_8)
            have fc_8 := i_ne c_8
            rw [q_0] at fc_8
            refine lv_iinc (v := x1_17 + 1) (lv' := [(1, .int (x1_17 + 1)), (3, .int x3_17), (2, .int x2_17), (0, .ref (ad 5 0))]) hx hb dX6_readStatements_55 hl (k := 2) rfl rfl (by decide) rfl (fun ls hl => ?_)
            refine lv_iload_n hx hb dX6_readStatements_58 rfl (lv_at hl 1 rfl) ?_
            refine lv_iconst (v := 1) hx hb dX6_readStatements_59 (by decide) ?_
            refine lv_iadd hx hb dX6_readStatements_60 ?_
            refine lv_istore_n (lv' := [(2, .int (x3_17 + 1)), (1, .int (x1_17 + 1)), (3, .int x3_17), (0, .ref (ad 5 0))]) hx hb dX6_readStatements_61 rfl hl (by decide) rfl (fun ls hl => ?_)
            refine lv_iinc (v := x3_17 + 1) (lv' := [(3, .int (x3_17 + 1)), (2, .int (x3_17 + 1)), (1, .int (x1_17 + 1)), (0, .ref (ad 5 0))]) hx hb dX6_readStatements_62 hl (k := 2) rfl rfl (by decide) rfl (fun ls hl => ?_)
            refine lv_goto (tgt := 17) hx hb dX6_readStatements_65 (by decide) ?_
            try have := i_addr (a := x3_17) (b := 1) (n := 1) q_1 (by omega) (by omega)
            exact ih_17 (x1_17 + 1) (x3_17 + 1) (x3_17 + 1) wn_7 H locs ls ⟨by omega, by omega⟩ (by omega) hJ_7 hP hS (lv_sub hl [0, 1, 2, 3] rfl) E
          · have E := E.trans (if_pos c_8)
            have fc_8 := i_eq c_8
            rw [q_0] at fc_8
            refine lv_sipush (v := (-2000)) hx hb dX6_readStatements_49 (by decide +kernel) ?_
            refine lv_iload_n hx hb dX6_readStatements_52 rfl (lv_at hl 1 rfl) ?_
            refine lv_isub hx hb dX6_readStatements_53 ?_
            exact W.iret (v := (-2000) - x2_17) hx hb hr (fun t ht hW => ⟨⟨_, wn_7, rfl, ⟨E.symm, hJ_7⟩, by show va_P _ _ _ t.heap; rw [ht]; exact hP⟩, hS.F ht⟩) hS.2.2 dX6_readStatements_54
  have := q_0
  exact L_17 97 0 0 0 wn_1 H locs ls ⟨by omega, by omega⟩ (by omega) hI_1 hP hS (lv_sub hl [0, 1, 2, 3] rfl) E
abbrev rmX6_load : Room := { frames := 8, cells := 0, slots := 0, locals := 179 }
set_option maxHeartbeats 4000000 in
set_option maxRecDepth 100000 in
theorem kX6_load (l : Launch) (D : va_G) (cI cC cQ : ClassId) (ad : Nat → Nat → Nat) (sd aK aV : Nat → Nat) (w : Nat → Nat → Nat → Int32) (hd : MD ad) (hI : R6I w)  : Met l yX6_load wsX6_load rmX6_load (va_Pc [Value.ref (ad 5 0)] (fun U => va_P D vwCl (MWL cI cC cQ ad w) U.heap ∧ va_K D vwCl [(cI, .int), (cC, .char), (cQ, .object "LoadedForTheLane$Way")] U ∧ NW U ∧ SE sd (MA ad) U U.heap ∧ STR aK aV (MA ad) U U.heap)) (va_Qi (fun r u => (r, u) = sX6_load w ∧ R6I u) (fun u t => va_P D vwCl (MWL cI cC cQ ad u) t.heap) (MA ad)) 0 0 (MA ad) := by
  refine Met.ofW (cc := cX6_load) (maxL := 3) (ret := (some .int)) (by decide) rfl ?_
  intro p e s m args below meth c s₁ B hml hv
  obtain ⟨rfl, hP, hK, hN, hSE, hST⟩ := hv
  have hx := B.exec
  have hb := B.bytes
  have hr := B.returns
  have hts := atoms_spec (ws := wsX6_load) B.pre
  have hown : s.vm.findClass RX6 = some m.cls := findClass_of_methodNamed B.named
  have hlocks := B.notSynchronized
  have hin6 : ∀ q ∈ wsX60, q ∈ wsX6_load := by decide +kernel
  have hl := lv_entry ([.ref (ad 5 0)]) (n := 3) (Nat.le_of_ble_eq_true rfl)
  rw [lg_entry_eq]
  generalize (lg_sl ([.ref (ad 5 0)]) ++ List.replicate (3 - (lg_sl ([.ref (ad 5 0)])).length) Slot.unset).toArray = ls at hl ⊢
  have hl : lv_has ls 3 [(0, .ref (ad 5 0))] := hl
  suffices hgo : ∀ (H : Heap) (locs : List Loc), va_P D vwCl (MWL cI cC cQ ad w) H → va_S (MA ad) s.heap H locs → W p l e (headSpec wsX6_load rmX6_load).room s m [Value.ref (ad 5 0)].toArray below meth c H locs 0 0 (MQ below (va_Qi (fun r u => (r, u) = sX6_load w ∧ R6I u) (fun u t => va_P D vwCl (MWL cI cC cQ ad u) t.heap) (MA ad)) [Value.ref (ad 5 0)].toArray s 0 0 (MA ad)) (F0 m 0 ls []) from hgo s.heap [] hP va_S.rf
  intro H locs hP hS
  have E := sX6_load.eq_1 w
  refine lv_aload_n hx hb dX6_load_0 rfl (lv_at hl 0 rfl) ?_
  refine g6_letters hx hb hts hin6 hown hK hP (hts (.fieldLink RX6 29 "LoadedForTheLane" "letters" "LLoadedForTheLane$Letters;") (by decide +kernel)) dX6_load_1 ?_
  refine vp_callSi (va_Run.run (va_runVN (As := []) (rest := []) ⟨hx, hb, hml, hown, hts⟩ (kX1_firstOutOfForm l D cI cC cQ (ad 3) aK aV (w 3) (R6I_3 hI)) ⟨va_cnB 0 hts gX6_load_X1_firstOutOfForm_n56 rfl rfl rfl (nm_RX6_56 hN) (hts (.initialized RX1) (by decide +kernel)) mdsX1_firstOutOfForm ⟨Nat.le_of_ble_eq_true rfl, Nat.le_of_ble_eq_true rfl⟩, hts (.instanceMethod yX1_firstOutOfForm) (by decide +kernel), hts (.selects RX1 yX1_firstOutOfForm yX1_firstOutOfForm) (by decide +kernel)⟩ (x1_preS hK (mp_3 hP) hN ((hST.kept hS.2.1).narrow (fun _ h => MA_3 h))) rfl rfl hl.1 rfl (lv_room (Nat.le_of_ble_eq_true rfl)) dX6_load_4 ⟨Nat.zero_le _, Nat.zero_le _⟩)) (fun rn_1 hr_1 => ?_)
  subst hr_1
  refine lv_istore_n (lv' := [(1, .int (sX1_firstOutOfForm (w 3))), (0, .ref (ad 5 0))]) hx hb dX6_load_7 rfl hl (by decide) rfl (fun ls hl => ?_)
  refine lv_iload_n hx hb dX6_load_8 rfl (lv_at hl 0 rfl) ?_
  refine lv_if_lt (tgt := 20) hx hb dX6_load_9 (by decide) (fun c_2 => ?_) (fun c_2 => ?_)
  · have E := E.trans (if_pos c_2)
    have fc_2 := i_lt c_2
    rw [q_0] at fc_2
    refine lv_aload_n hx hb dX6_load_20 rfl (lv_at hl 1 rfl) ?_
    refine va_calli (va_runV (As := []) (rest := []) ⟨hx, hb, hml, hown, hts⟩ (kX6_readStatements l D cI cC cQ ad sd aK aV w hd hI) (cwV 0 hts gX6_load_X6_readStatements rfl rfl rfl mdX6_readStatements ⟨Nat.le_of_ble_eq_true rfl, Nat.le_of_ble_eq_true rfl⟩) (x6_pre hK hP hN hSE hST hS) rfl rfl hl.1 rfl (lv_room (Nat.le_of_ble_eq_true rfl)) dX6_load_21 ⟨Nat.zero_le _, Nat.zero_le _⟩) hS (fun _ _ h => h) (fun _ h => h) (fun rn_3 wn_3 t H locs ht hvm hp_3 hB hz hfr hS => ?_)
    obtain ⟨hp_3, hJ_3⟩ := hp_3
    have E := bnd_e E hp_3
    have hP : va_P D vwCl (MWL cI cC cQ ad wn_3) H := ht ▸ hB
    refine lv_istore_n (lv' := [(2, .int rn_3), (1, .int (sX1_firstOutOfForm (w 3))), (0, .ref (ad 5 0))]) hx hb dX6_load_24 rfl hl (by decide) rfl (fun ls hl => ?_)
    refine lv_aload_n hx hb dX6_load_25 rfl (lv_at hl 2 rfl) ?_
    refine g6_letters hx hb hts hin6 hown hK hP (hts (.fieldLink RX6 29 "LoadedForTheLane" "letters" "LLoadedForTheLane$Letters;") (by decide +kernel)) dX6_load_26 ?_
    refine va_callv (va_runVN (As := []) (rest := []) ⟨hx, hb, hml, hown, hts⟩ (kX1_clear l D cI cC cQ (ad 3) (wn_3 3) (MD_3 hd) (R6I_3 hJ_3)) ⟨va_cnB 0 hts gX6_load_X1_clear_n63 rfl rfl rfl (nm_RX6_63 hN) (hts (.initialized RX1) (by decide +kernel)) mdsX1_clear ⟨Nat.le_of_ble_eq_true rfl, Nat.le_of_ble_eq_true rfl⟩, hts (.instanceMethod yX1_clear) (by decide +kernel), hts (.selects RX1 yX1_clear yX1_clear) (by decide +kernel)⟩ (x1_pre hK (mp_3 hP)) rfl rfl hl.1 rfl (lv_room (Nat.le_of_ble_eq_true rfl)) dX6_load_29 ⟨Nat.zero_le _, Nat.zero_le _⟩) hS (fun _ _ h => MA_3 h) (fun _ h => MA_3 h) (fun un_4 t H locs ht hvm hp_4 hB hz hfr hS => ?_)
    obtain ⟨hp_4, hJ_4⟩ := hp_4
    have E := bns_e E hp_4
    have hP : va_P D vwCl (MWL cI cC cQ ad (sc wn_3 3 un_4)) H := mp_up3 hd hP (ht ▸ hB) hfr
    obtain ⟨wn_4, hwn_4⟩ : ∃ x, x = sc wn_3 3 un_4 := ⟨_, rfl⟩
    rw [← hwn_4] at hP
    have E := bns_e E hwn_4
    have hI_4 : R6I wn_4 := by rw [hwn_4]; exact R6I_up3 hJ_3 hJ_4
    refine lv_iload_n hx hb dX6_load_32 rfl (lv_at hl 0 rfl) ?_
    exact W.iret (v := rn_3) hx hb hr (fun t ht hW => ⟨⟨_, wn_4, rfl, ⟨E.symm, hI_4⟩, by show va_P _ _ _ t.heap; rw [ht]; exact hP⟩, hS.F ht⟩) hS.2.2 dX6_load_33
  · have E := E.trans (if_neg c_2)
    have fc_2 := i_nlt c_2
    rw [q_0] at fc_2
    refine lv_sipush (v := (-1000)) hx hb dX6_load_12 (by decide +kernel) ?_
    refine lv_iload_n hx hb dX6_load_15 rfl (lv_at hl 0 rfl) ?_
    refine lv_isub hx hb dX6_load_16 ?_
    refine lv_goto (tgt := 24) hx hb dX6_load_17 (by decide) ?_
    refine lv_istore_n (lv' := [(2, .int ((-1000) - (sX1_firstOutOfForm (w 3)))), (1, .int (sX1_firstOutOfForm (w 3))), (0, .ref (ad 5 0))]) hx hb dX6_load_24 rfl hl (by decide) rfl (fun ls hl => ?_)
    refine lv_aload_n hx hb dX6_load_25 rfl (lv_at hl 2 rfl) ?_
    refine g6_letters hx hb hts hin6 hown hK hP (hts (.fieldLink RX6 29 "LoadedForTheLane" "letters" "LLoadedForTheLane$Letters;") (by decide +kernel)) dX6_load_26 ?_
    refine va_callv (va_runVN (As := []) (rest := []) ⟨hx, hb, hml, hown, hts⟩ (kX1_clear l D cI cC cQ (ad 3) (w 3) (MD_3 hd) (R6I_3 hI)) ⟨va_cnB 0 hts gX6_load_X1_clear_n63 rfl rfl rfl (nm_RX6_63 hN) (hts (.initialized RX1) (by decide +kernel)) mdsX1_clear ⟨Nat.le_of_ble_eq_true rfl, Nat.le_of_ble_eq_true rfl⟩, hts (.instanceMethod yX1_clear) (by decide +kernel), hts (.selects RX1 yX1_clear yX1_clear) (by decide +kernel)⟩ (x1_pre hK (mp_3 hP)) rfl rfl hl.1 rfl (lv_room (Nat.le_of_ble_eq_true rfl)) dX6_load_29 ⟨Nat.zero_le _, Nat.zero_le _⟩) hS (fun _ _ h => MA_3 h) (fun _ h => MA_3 h) (fun un_5 t H locs ht hvm hp_5 hB hz hfr hS => ?_)
    obtain ⟨hp_5, hJ_5⟩ := hp_5
    have E := bns_e E hp_5
    have hP : va_P D vwCl (MWL cI cC cQ ad (sc w 3 un_5)) H := mp_up3 hd hP (ht ▸ hB) hfr
    obtain ⟨wn_5, hwn_5⟩ : ∃ x, x = sc w 3 un_5 := ⟨_, rfl⟩
    rw [← hwn_5] at hP
    have E := bns_e E hwn_5
    have hI_5 : R6I wn_5 := by rw [hwn_5]; exact R6I_up3 hI hJ_5
    refine lv_iload_n hx hb dX6_load_32 rfl (lv_at hl 0 rfl) ?_
    exact W.iret (v := (-1000) - (sX1_firstOutOfForm (w 3))) hx hb hr (fun t ht hW => ⟨⟨_, wn_5, rfl, ⟨E.symm, hI_5⟩, by show va_P _ _ _ t.heap; rw [ht]; exact hP⟩, hS.F ht⟩) hS.2.2 dX6_load_33
