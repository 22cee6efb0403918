abbrev rmX7_high : Room := { frames := 7, cells := 0, slots := 0, locals := 159 }
set_option maxHeartbeats 4000000 in
set_option maxRecDepth 100000 in
theorem kX7_high (l : Launch) (D : va_G) (cI : ClassId) (ad : Nat → Nat) (w : Nat → Nat → Int32) (a1 : Int32) (hd : RD ad) (hI : R7I w) (h1 : (w 11 0).toInt ≤ 11) : Met l yX7_high wsX7_high rmX7_high (va_Pc [Value.ref (ad 0), Value.int a1] (fun U => va_P D vwCl (RM cI ad w) U.heap ∧ va_K D vwCl [(cI, .int)] U)) (va_Qi (fun r u => (r, u) = sX7_high w a1 ∧ R7I u) (fun u t => va_P D vwCl (RM cI ad u) t.heap) (RA ad)) 0 0 (RA ad) := by
  refine Met.ofW (cc := cX7_high) (maxL := 4) (ret := (some .int)) (by decide) rfl ?_
  intro p e s m args below meth c s₁ B hml hv
  obtain ⟨rfl, hP, hK⟩ := hv
  have hx := B.exec
  have hb := B.bytes
  have hr := B.returns
  have hts := atoms_spec (ws := wsX7_high) B.pre
  have hown : s.vm.findClass RX7 = some m.cls := findClass_of_methodNamed B.named
  have hlocks := B.notSynchronized
  have hin : ∀ q ∈ wsX70, q ∈ wsX7_high := by decide +kernel
  have hl := lv_entry ([.ref (ad 0), .int a1]) (n := 4) (Nat.le_of_ble_eq_true rfl)
  rw [lg_entry_eq]
  generalize (lg_sl ([.ref (ad 0), .int a1]) ++ List.replicate (4 - (lg_sl ([.ref (ad 0), .int a1])).length) Slot.unset).toArray = ls at hl ⊢
  have hl : lv_has ls 4 [(0, .ref (ad 0)), (1, .int a1)] := hl
  suffices hgo : ∀ (H : Heap) (locs : List Loc), va_P D vwCl (RM cI ad w) H → va_S (RA ad) s.heap H locs → W p l e (headSpec wsX7_high rmX7_high).room s m [Value.ref (ad 0), Value.int a1].toArray below meth c H locs 0 0 (MQ below (va_Qi (fun r u => (r, u) = sX7_high w a1 ∧ R7I u) (fun u t => va_P D vwCl (RM cI ad u) t.heap) (RA ad)) [Value.ref (ad 0), Value.int a1].toArray s 0 0 (RA ad)) (F0 m 0 ls []) from hgo s.heap [] hP va_S.rf
  intro H locs hP hS
  have E := sX7_high.eq_1 w a1
  refine lv_iload_n hx hb dX7_high_0 rfl (lv_at hl 1 rfl) ?_
  refine vp_callSi (va_Run.run (va_runS (As := [.int a1]) (rest := []) ⟨hx, hb, hml, hown, hts⟩ (kX7_isWay l a1) (va_cwS 1 hts gX7_high_X7_isWay rfl rfl rfl mdX7_isWay ⟨Nat.le_of_ble_eq_true rfl, Nat.le_of_ble_eq_true rfl⟩) s_pre rfl rfl hl.1 rfl (lv_room (Nat.le_of_ble_eq_true rfl)) dX7_high_1 ⟨Nat.zero_le _, Nat.zero_le _⟩)) (fun r_1 hr_1 => ?_)
  obtain ⟨rfl, hz_1⟩ := hr_1
  refine lv_if_ne (tgt := 13) hx hb dX7_high_4 (by decide) (fun c_2 => ?_) (fun c_2 => ?_)
  · have E := E.trans (if_neg c_2)
    have fc_2 := i_ne c_2
    rw [q_0] at fc_2
    have gc_2 := fX7_isWay c_2
    refine lv_aload_n hx hb dX7_high_13 rfl (lv_at hl 0 rfl) ?_
    refine g7_layers hx hb hts hin hown hK hP (hts (.fieldLink RX7 67 "LoadedForTheLaneModel" "layers" "I") (by decide +kernel)) dX7_high_14 ?_
    have f_3 := R7I_layers hI
    refine lv_istore_n (lv' := [(2, .int (w 11 0)), (0, .ref (ad 0)), (1, .int a1)]) hx hb dX7_high_17 rfl hl (by decide) rfl (fun ls hl => ?_)
    refine lv_iconst (v := 0) hx hb dX7_high_18 (by decide) ?_
    refine lv_istore_n (lv' := [(3, .int 0), (2, .int (w 11 0)), (0, .ref (ad 0)), (1, .int a1)]) hx hb dX7_high_19 rfl hl (by decide) rfl (fun ls hl => ?_)
    refine lv_aload_n hx hb dX7_high_20 rfl (lv_at hl 2 rfl) ?_
    refine lv_iconst (v := 1) hx hb dX7_high_21 (by decide) ?_
    refine p7_layers hx hb hts hin hown hK hP hd hS (hts (.fieldLink RX7 67 "LoadedForTheLaneModel" "layers" "I") (by decide +kernel)) dX7_high_22 (fun H locs hP hS => ?_)
    obtain ⟨wn_4, hwn_4⟩ : ∃ x, x = st w 11 0 1 := ⟨_, rfl⟩
    rw [← hwn_4] at hP
    have E := bns_e E hwn_4
    have ft4_layers : (wn_4 11 0).toInt = (1 : Int32).toInt := by rw [hwn_4]; rfl
    have := q_1
    have := q_1
    have hI_4 : R7I wn_4 := by rw [hwn_4]; exact R7I_put_layers hI (by omega) (by omega)
    have L_25 : ∀ (n_25 : Nat) (x3_25 : Int32) (w_25 : Nat → Nat → Int32) (H : Heap) (locs : List Loc) (ls : Array Slot), ((1 ≤ (w_25 11 0).toInt) ∧ ((w_25 11 0).toInt ≤ 12) ∧ ((w_25 11 0).toInt ≤ (w 11 0).toInt + 1)) → (13 - (w_25 11 0).toInt < (n_25 : Int)) → R7I w_25 → va_P D vwCl (RM cI ad w_25) H → va_S (RA ad) s.heap H locs → lv_has ls 4 [(3, .int x3_25), (2, .int (w 11 0)), (0, .ref (ad 0)), (1, .int a1)] → sX7_high w a1 = sX7_high_25 w a1 n_25 x3_25 w_25 → W p l e (headSpec wsX7_high rmX7_high).room s m [Value.ref (ad 0), Value.int a1].toArray below meth c H locs 0 0 (MQ below (va_Qi (fun r u => (r, u) = sX7_high w a1 ∧ R7I u) (fun u t => va_P D vwCl (RM cI ad u) t.heap) (RA ad)) [Value.ref (ad 0), Value.int a1].toArray s 0 0 (RA ad)) (F0 m 25 ls []) := by
      intro n_25
      induction n_25 with
      | zero =>
        intro x3_25 w_25 H locs ls hinv hm
        obtain ⟨v0_25, v1_25, v2_25⟩ := hinv
        exact absurd hm (by omega)
      | succ n_25 ih_25 =>
        intro x3_25 w_25 H locs ls hinv hm_25 hI_25 hP hS hl E
        obtain ⟨v0_25, v1_25, v2_25⟩ := hinv
        have E := E.trans (sX7_high_25.eq_2 ..)
        refine lv_aload_n hx hb dX7_high_25 rfl (lv_at hl 2 rfl) ?_
        refine g7_layers hx hb hts hin hown hK hP (hts (.fieldLink RX7 67 "LoadedForTheLaneModel" "layers" "I") (by decide +kernel)) dX7_high_26 ?_
        have f_5 := R7I_layers hI_25
        refine lv_iload_n hx hb dX7_high_29 rfl (lv_at hl 1 rfl) ?_
        refine lv_icmp_gt (tgt := 63) hx hb dX7_high_30 (by decide) (fun c_6 => ?_) (fun c_6 => ?_)
        · have E := E.trans (if_pos c_6)
          have fc_6 := i_lt c_6
          refine lv_aload_n hx hb dX7_high_63 rfl (lv_at hl 2 rfl) ?_
          refine lv_iload_n hx hb dX7_high_64 rfl (lv_at hl 1 rfl) ?_
          refine p7_layers hx hb hts hin hown hK hP hd hS (hts (.fieldLink RX7 67 "LoadedForTheLaneModel" "layers" "I") (by decide +kernel)) dX7_high_65 (fun H locs hP hS => ?_)
          obtain ⟨wn_7, hwn_7⟩ : ∃ x, x = st w_25 11 0 (w 11 0) := ⟨_, rfl⟩
          rw [← hwn_7] at hP
          have E := bns_e E hwn_7
          have ft7_layers : (wn_7 11 0).toInt = (w 11 0 : Int32).toInt := by rw [hwn_7]; rfl
          have hI_7 : R7I wn_7 := by rw [hwn_7]; exact R7I_put_layers hI_25 (by omega) (by omega)
          refine lv_iload_n hx hb dX7_high_68 rfl (lv_at hl 0 rfl) ?_
          exact W.iret (v := x3_25) hx hb hr (fun t ht hW => ⟨⟨_, wn_7, rfl, ⟨E.symm, hI_7⟩, by show va_P _ _ _ t.heap; rw [ht]; exact hP⟩, hS.F ht⟩) hS.2.2 dX7_high_69
        · have E := E.trans (if_neg c_6)
          have fc_6 := i_nlt c_6
          refine lv_aload_n hx hb dX7_high_33 rfl (lv_at hl 2 rfl) ?_
          refine lv_iload_n hx hb dX7_high_34 rfl (lv_at hl 3 rfl) ?_
          refine va_calli (va_runV (As := [.int a1]) (rest := []) ⟨hx, hb, hml, hown, hts⟩ (kX7_doesHold l D cI ad w_25 a1 hd hI_25 (by omega) (by omega)) (cwV 1 hts gX7_high_X7_doesHold rfl rfl rfl mdX7_doesHold ⟨Nat.le_of_ble_eq_true rfl, Nat.le_of_ble_eq_true rfl⟩) (r7_pre hK hP) rfl rfl hl.1 rfl (lv_room (Nat.le_of_ble_eq_true rfl)) dX7_high_35 ⟨Nat.zero_le _, Nat.zero_le _⟩) hS (fun _ _ h => h) (fun _ h => h) (fun rn_8 wn_8 t H locs ht hvm hp_8 hB hz hfr hS => ?_)
          have hP : va_P D vwCl (RM cI ad wn_8) H := ht ▸ hB
          obtain ⟨hp_8, hz_8, hI_8, hq0_8⟩ := hp_8
          have E := bnd_e E hp_8
          have hzi_8 := z_int hz_8
          have ft8_layers : (wn_8 11 0).toInt = (w_25 11 0).toInt := by rw [hq0_8 11 (by decide) (by decide)]
          refine lv_if_eq (tgt := 48) hx hb dX7_high_38 (by decide) (fun c_9 => ?_) (fun c_9 => ?_)
          · have E := E.trans (if_pos c_9)
            have fc_9 := i_eq c_9
            rw [q_0] at fc_9
            refine lv_iload_n hx hb dX7_high_48 rfl (lv_at hl 0 rfl) ?_
            refine lv_istore_n (lv' := [(3, .int x3_25), (2, .int (w 11 0)), (0, .ref (ad 0)), (1, .int a1)]) hx hb dX7_high_49 rfl hl (by decide) rfl (fun ls hl => ?_)
            refine lv_aload_n hx hb dX7_high_50 rfl (lv_at hl 2 rfl) ?_
            refine lv_dup hx hb dX7_high_51 rfl ?_
            refine g7_layers hx hb hts hin hown hK hP (hts (.fieldLink RX7 67 "LoadedForTheLaneModel" "layers" "I") (by decide +kernel)) dX7_high_52 ?_
            have f_10 := R7I_layers hI_8
            refine lv_iconst (v := 1) hx hb dX7_high_55 (by decide) ?_
            refine lv_iadd hx hb dX7_high_56 ?_
            refine p7_layers hx hb hts hin hown hK hP hd hS (hts (.fieldLink RX7 67 "LoadedForTheLaneModel" "layers" "I") (by decide +kernel)) dX7_high_57 (fun H locs hP hS => ?_)
            obtain ⟨wn_11, hwn_11⟩ : ∃ x, x = st wn_8 11 0 ((wn_8 11 0) + 1) := ⟨_, rfl⟩
            rw [← hwn_11] at hP
            have E := bns_e E hwn_11
            have ft11_layers : (wn_11 11 0).toInt = ((wn_8 11 0) + 1 : Int32).toInt := by rw [hwn_11]; rfl
            have := i_addr (a := wn_8 11 0) (b := 1) (n := 1) q_1 (by omega) (by omega)
            have := i_addr (a := wn_8 11 0) (b := 1) (n := 1) q_1 (by omega) (by omega)
            have hI_11 : R7I wn_11 := by rw [hwn_11]; exact R7I_put_layers hI_8 (by omega) (by omega)
            refine lv_goto (tgt := 25) hx hb dX7_high_60 (by decide) ?_
            exact ih_25 x3_25 wn_11 H locs ls ⟨by omega, by omega, by omega⟩ (by omega) hI_11 hP hS (lv_sub hl [0, 1, 2, 3] rfl) E
          · have E := E.trans (if_neg c_9)
            have fc_9 := i_ne c_9
            rw [q_0] at fc_9
            refine lv_aload_n hx hb dX7_high_41 rfl (lv_at hl 2 rfl) ?_
            refine g7_layers hx hb hts hin hown hK hP (hts (.fieldLink RX7 67 "LoadedForTheLaneModel" "layers" "I") (by decide +kernel)) dX7_high_42 ?_
            have f_12 := R7I_layers hI_8
            refine lv_goto (tgt := 49) hx hb dX7_high_45 (by decide) ?_
            refine lv_istore_n (lv' := [(3, .int (wn_8 11 0)), (2, .int (w 11 0)), (0, .ref (ad 0)), (1, .int a1)]) hx hb dX7_high_49 rfl hl (by decide) rfl (fun ls hl => ?_)
            refine lv_aload_n hx hb dX7_high_50 rfl (lv_at hl 2 rfl) ?_
            refine lv_dup hx hb dX7_high_51 rfl ?_
            refine g7_layers hx hb hts hin hown hK hP (hts (.fieldLink RX7 67 "LoadedForTheLaneModel" "layers" "I") (by decide +kernel)) dX7_high_52 ?_
            have f_13 := R7I_layers hI_8
            refine lv_iconst (v := 1) hx hb dX7_high_55 (by decide) ?_
            refine lv_iadd hx hb dX7_high_56 ?_
            refine p7_layers hx hb hts hin hown hK hP hd hS (hts (.fieldLink RX7 67 "LoadedForTheLaneModel" "layers" "I") (by decide +kernel)) dX7_high_57 (fun H locs hP hS => ?_)
            obtain ⟨wn_14, hwn_14⟩ : ∃ x, x = st wn_8 11 0 ((wn_8 11 0) + 1) := ⟨_, rfl⟩
            rw [← hwn_14] at hP
            have E := bns_e E hwn_14
            have ft14_layers : (wn_14 11 0).toInt = ((wn_8 11 0) + 1 : Int32).toInt := by rw [hwn_14]; rfl
            have := i_addr (a := wn_8 11 0) (b := 1) (n := 1) q_1 (by omega) (by omega)
            have := i_addr (a := wn_8 11 0) (b := 1) (n := 1) q_1 (by omega) (by omega)
            have hI_14 : R7I wn_14 := by rw [hwn_14]; exact R7I_put_layers hI_8 (by omega) (by omega)
            refine lv_goto (tgt := 25) hx hb dX7_high_60 (by decide) ?_
            exact ih_25 (wn_8 11 0) wn_14 H locs ls ⟨by omega, by omega, by omega⟩ (by omega) hI_14 hP hS (lv_sub hl [0, 1, 2, 3] rfl) E
    exact L_25 13 0 wn_4 H locs ls ⟨by omega, by omega, by omega⟩ (by omega) hI_4 hP hS (lv_sub hl [0, 1, 2, 3] rfl) E
  · have E := E.trans (if_pos c_2)
    have fc_2 := i_eq c_2
    rw [q_0] at fc_2
    refine lv_aload_n hx hb dX7_high_7 rfl (lv_at hl 0 rfl) ?_
    refine lv_iconst (v := (-1)) hx hb dX7_high_8 (by decide) ?_
    have := q_m1
    refine va_calli (va_runV (As := [.int (-1)]) (rest := []) ⟨hx, hb, hml, hown, hts⟩ (kX7_no l D cI ad w (-1) hd hI (by omega) (by omega)) (cwV 1 hts gX7_high_X7_no rfl rfl rfl mdX7_no ⟨Nat.le_of_ble_eq_true rfl, Nat.le_of_ble_eq_true rfl⟩) (r7_pre hK hP) rfl rfl hl.1 rfl (lv_room (Nat.le_of_ble_eq_true rfl)) dX7_high_9 ⟨Nat.zero_le _, Nat.zero_le _⟩) hS (fun _ _ h => h) (fun _ h => h) (fun rn_15 wn_15 t H locs ht hvm hp_15 hB hz hfr hS => ?_)
    have hP : va_P D vwCl (RM cI ad wn_15) H := ht ▸ hB
    obtain ⟨hp_15, hI_15⟩ := hp_15
    have E := bnd_e E hp_15
    exact W.iret (v := rn_15) hx hb hr (fun t ht hW => ⟨⟨_, wn_15, rfl, ⟨E.symm, hI_15⟩, by show va_P _ _ _ t.heap; rw [ht]; exact hP⟩, hS.F ht⟩) hS.2.2 dX7_high_12
abbrev rmX7_more : Room := { frames := 7, cells := 0, slots := 0, locals := 159 }
set_option maxHeartbeats 4000000 in
set_option maxRecDepth 100000 in
theorem kX7_more (l : Launch) (D : va_G) (cI : ClassId) (ad : Nat → Nat) (w : Nat → Nat → Int32) (a1 : Int32) (hd : RD ad) (hI : R7I w) (h1 : (w 11 0).toInt ≤ 11) : Met l yX7_more wsX7_more rmX7_more (va_Pc [Value.ref (ad 0), Value.int a1] (fun U => va_P D vwCl (RM cI ad w) U.heap ∧ va_K D vwCl [(cI, .int)] U)) (va_Qi (fun r u => (r, u) = sX7_more w a1 ∧ R7I u) (fun u t => va_P D vwCl (RM cI ad u) t.heap) (RA ad)) 0 0 (RA ad) := by
  refine Met.ofW (cc := cX7_more) (maxL := 4) (ret := (some .int)) (by decide) rfl ?_
  intro p e s m args below meth c s₁ B hml hv
  obtain ⟨rfl, hP, hK⟩ := hv
  have hx := B.exec
  have hb := B.bytes
  have hr := B.returns
  have hts := atoms_spec (ws := wsX7_more) B.pre
  have hown : s.vm.findClass RX7 = some m.cls := findClass_of_methodNamed B.named
  have hlocks := B.notSynchronized
  have hin : ∀ q ∈ wsX70, q ∈ wsX7_more := by decide +kernel
  have hl := lv_entry ([.ref (ad 0), .int a1]) (n := 4) (Nat.le_of_ble_eq_true rfl)
  rw [lg_entry_eq]
  generalize (lg_sl ([.ref (ad 0), .int a1]) ++ List.replicate (4 - (lg_sl ([.ref (ad 0), .int a1])).length) Slot.unset).toArray = ls at hl ⊢
  have hl : lv_has ls 4 [(0, .ref (ad 0)), (1, .int a1)] := hl
  suffices hgo : ∀ (H : Heap) (locs : List Loc), va_P D vwCl (RM cI ad w) H → va_S (RA ad) s.heap H locs → W p l e (headSpec wsX7_more rmX7_more).room s m [Value.ref (ad 0), Value.int a1].toArray below meth c H locs 0 0 (MQ below (va_Qi (fun r u => (r, u) = sX7_more w a1 ∧ R7I u) (fun u t => va_P D vwCl (RM cI ad u) t.heap) (RA ad)) [Value.ref (ad 0), Value.int a1].toArray s 0 0 (RA ad)) (F0 m 0 ls []) from hgo s.heap [] hP va_S.rf
  intro H locs hP hS
  have E := sX7_more.eq_1 w a1
  refine lv_iload_n hx hb dX7_more_0 rfl (lv_at hl 1 rfl) ?_
  refine vp_callSi (va_Run.run (va_runS (As := [.int a1]) (rest := []) ⟨hx, hb, hml, hown, hts⟩ (kX7_isWay l a1) (va_cwS 1 hts gX7_more_X7_isWay rfl rfl rfl mdX7_isWay ⟨Nat.le_of_ble_eq_true rfl, Nat.le_of_ble_eq_true rfl⟩) s_pre rfl rfl hl.1 rfl (lv_room (Nat.le_of_ble_eq_true rfl)) dX7_more_1 ⟨Nat.zero_le _, Nat.zero_le _⟩)) (fun r_1 hr_1 => ?_)
  obtain ⟨rfl, hz_1⟩ := hr_1
  refine lv_if_ne (tgt := 11) hx hb dX7_more_4 (by decide) (fun c_2 => ?_) (fun c_2 => ?_)
  · have E := E.trans (if_neg c_2)
    have fc_2 := i_ne c_2
    rw [q_0] at fc_2
    have gc_2 := fX7_isWay c_2
    refine lv_aload_n hx hb dX7_more_11 rfl (lv_at hl 0 rfl) ?_
    refine g7_layers hx hb hts hin hown hK hP (hts (.fieldLink RX7 67 "LoadedForTheLaneModel" "layers" "I") (by decide +kernel)) dX7_more_12 ?_
    have f_3 := R7I_layers hI
    refine lv_if_ne (tgt := 23) hx hb dX7_more_15 (by decide) (fun c_4 => ?_) (fun c_4 => ?_)
    · have E := E.trans (if_neg c_4)
      have fc_4 := i_ne c_4
      rw [q_0] at fc_4
      refine lv_iconst (v := 0) hx hb dX7_more_23 (by decide) ?_
      refine lv_istore_n (lv' := [(2, .int 0), (0, .ref (ad 0)), (1, .int a1)]) hx hb dX7_more_24 rfl hl (by decide) rfl (fun ls hl => ?_)
      refine lv_iload_n hx hb dX7_more_25 rfl (lv_at hl 0 rfl) ?_
      refine lv_if_eq (tgt := 35) hx hb dX7_more_26 (by decide) (fun _ => ?_) (fun z => absurd z (by decide))
      refine lv_aload_n hx hb dX7_more_35 rfl (lv_at hl 1 rfl) ?_
      refine g7_kind hx hb hts hin hown hK hP (hts (.fieldLink RX7 16 "LoadedForTheLaneModel" "kind" "[I") (by decide +kernel)) dX7_more_36 ?_
      refine lv_aload_n hx hb dX7_more_39 rfl (lv_at hl 1 rfl) ?_
      refine g7_layers hx hb hts hin hown hK hP (hts (.fieldLink RX7 67 "LoadedForTheLaneModel" "layers" "I") (by decide +kernel)) dX7_more_40 ?_
      have f_5 := R7I_layers hI
      refine lv_aload_n hx hb dX7_more_43 rfl (lv_at hl 1 rfl) ?_
      refine g7_kind hx hb hts hin hown hK hP (hts (.fieldLink RX7 16 "LoadedForTheLaneModel" "kind" "[I") (by decide +kernel)) dX7_more_44 ?_
      refine lv_aload_n hx hb dX7_more_47 rfl (lv_at hl 1 rfl) ?_
      refine g7_layers hx hb hts hin hown hK hP (hts (.fieldLink RX7 67 "LoadedForTheLaneModel" "layers" "I") (by decide +kernel)) dX7_more_48 ?_
      have f_6 := R7I_layers hI
      refine lv_iconst (v := 1) hx hb dX7_more_51 (by decide) ?_
      refine lv_isub hx hb dX7_more_52 ?_
      have := i_subr (a := w 11 0) (b := 1) (n := 1) q_1 (by omega) (by omega)
      have ix_7 : vp_in ((w 11 0) - 1) 12 := ix_of (by omega) (by omega)
      refine l7_kind (j := ((w 11 0) - 1).toNatClampNeg) hx hb hK hP ix_7 rfl dX7_more_53 ?_
      have ix_8 : vp_in (w 11 0) 12 := ix_of (by omega) (by omega)
      refine a7_kind (j := (w 11 0).toNatClampNeg) hx hb hK hP hd hS ix_8 rfl dX7_more_54 (fun H locs hP hS => ?_)
      obtain ⟨wn_8, hwn_8⟩ : ∃ x, x = st w 2 ((w 11 0).toNatClampNeg) (w 2 (((w 11 0) - 1).toNatClampNeg)) := ⟨_, rfl⟩
      rw [← hwn_8] at hP
      have E := bns_e E hwn_8
      have ft8_layers : (wn_8 11 0).toInt = (w 11 0).toInt := by rw [hwn_8]; rfl
      have fv_8 : (wn_8 2 ((w 11 0).toNatClampNeg)).toInt = (w 2 (((w 11 0) - 1).toNatClampNeg) : Int32).toInt := by rw [hwn_8, st_rd]
      have hI_8 : R7I wn_8 := by rw [hwn_8]; exact R7I_put_kind hI
      refine lv_aload_n hx hb dX7_more_55 rfl (lv_at hl 1 rfl) ?_
      refine g7_sheaves hx hb hts hin hown hK hP (hts (.fieldLink RX7 19 "LoadedForTheLaneModel" "sheaves" "[I") (by decide +kernel)) dX7_more_56 ?_
      refine lv_aload_n hx hb dX7_more_59 rfl (lv_at hl 1 rfl) ?_
      refine g7_layers hx hb hts hin hown hK hP (hts (.fieldLink RX7 67 "LoadedForTheLaneModel" "layers" "I") (by decide +kernel)) dX7_more_60 ?_
      have f_9 := R7I_layers hI_8
      refine lv_aload_n hx hb dX7_more_63 rfl (lv_at hl 1 rfl) ?_
      refine g7_sheaves hx hb hts hin hown hK hP (hts (.fieldLink RX7 19 "LoadedForTheLaneModel" "sheaves" "[I") (by decide +kernel)) dX7_more_64 ?_
      refine lv_aload_n hx hb dX7_more_67 rfl (lv_at hl 1 rfl) ?_
      refine g7_layers hx hb hts hin hown hK hP (hts (.fieldLink RX7 67 "LoadedForTheLaneModel" "layers" "I") (by decide +kernel)) dX7_more_68 ?_
      have f_10 := R7I_layers hI_8
      refine lv_iconst (v := 1) hx hb dX7_more_71 (by decide) ?_
      refine lv_isub hx hb dX7_more_72 ?_
      have := i_subr (a := wn_8 11 0) (b := 1) (n := 1) q_1 (by omega) (by omega)
      have ix_11 : vp_in ((wn_8 11 0) - 1) 12 := ix_of (by omega) (by omega)
      refine l7_sheaves (j := ((wn_8 11 0) - 1).toNatClampNeg) hx hb hK hP ix_11 rfl dX7_more_73 ?_
      have ix_12 : vp_in (wn_8 11 0) 12 := ix_of (by omega) (by omega)
      refine a7_sheaves (j := (wn_8 11 0).toNatClampNeg) hx hb hK hP hd hS ix_12 rfl dX7_more_74 (fun H locs hP hS => ?_)
      obtain ⟨wn_12, hwn_12⟩ : ∃ x, x = st wn_8 3 ((wn_8 11 0).toNatClampNeg) (wn_8 3 (((wn_8 11 0) - 1).toNatClampNeg)) := ⟨_, rfl⟩
      rw [← hwn_12] at hP
      have E := bns_e E hwn_12
      have ft12_layers : (wn_12 11 0).toInt = (wn_8 11 0).toInt := by rw [hwn_12]; rfl
      have fv_12 : (wn_12 3 ((wn_8 11 0).toNatClampNeg)).toInt = (wn_8 3 (((wn_8 11 0) - 1).toNatClampNeg) : Int32).toInt := by rw [hwn_12, st_rd]
      have hI_12 : R7I wn_12 := by rw [hwn_12]; exact R7I_put_sheaves hI_8
      refine lv_aload_n hx hb dX7_more_75 rfl (lv_at hl 1 rfl) ?_
      refine g7_out hx hb hts hin hown hK hP (hts (.fieldLink RX7 22 "LoadedForTheLaneModel" "out" "[I") (by decide +kernel)) dX7_more_76 ?_
      refine lv_aload_n hx hb dX7_more_79 rfl (lv_at hl 1 rfl) ?_
      refine g7_layers hx hb hts hin hown hK hP (hts (.fieldLink RX7 67 "LoadedForTheLaneModel" "layers" "I") (by decide +kernel)) dX7_more_80 ?_
      have f_13 := R7I_layers hI_12
      refine lv_aload_n hx hb dX7_more_83 rfl (lv_at hl 1 rfl) ?_
      refine g7_out hx hb hts hin hown hK hP (hts (.fieldLink RX7 22 "LoadedForTheLaneModel" "out" "[I") (by decide +kernel)) dX7_more_84 ?_
      refine lv_aload_n hx hb dX7_more_87 rfl (lv_at hl 1 rfl) ?_
      refine g7_layers hx hb hts hin hown hK hP (hts (.fieldLink RX7 67 "LoadedForTheLaneModel" "layers" "I") (by decide +kernel)) dX7_more_88 ?_
      have f_14 := R7I_layers hI_12
      refine lv_iconst (v := 1) hx hb dX7_more_91 (by decide) ?_
      refine lv_isub hx hb dX7_more_92 ?_
      have := i_subr (a := wn_12 11 0) (b := 1) (n := 1) q_1 (by omega) (by omega)
      have ix_15 : vp_in ((wn_12 11 0) - 1) 12 := ix_of (by omega) (by omega)
      refine l7_out (j := ((wn_12 11 0) - 1).toNatClampNeg) hx hb hK hP ix_15 rfl dX7_more_93 ?_
      have ix_16 : vp_in (wn_12 11 0) 12 := ix_of (by omega) (by omega)
      refine a7_out (j := (wn_12 11 0).toNatClampNeg) hx hb hK hP hd hS ix_16 rfl dX7_more_94 (fun H locs hP hS => ?_)
      obtain ⟨wn_16, hwn_16⟩ : ∃ x, x = st wn_12 4 ((wn_12 11 0).toNatClampNeg) (wn_12 4 (((wn_12 11 0) - 1).toNatClampNeg)) := ⟨_, rfl⟩
      rw [← hwn_16] at hP
      have E := bns_e E hwn_16
      have ft16_layers : (wn_16 11 0).toInt = (wn_12 11 0).toInt := by rw [hwn_16]; rfl
      have fv_16 : (wn_16 4 ((wn_12 11 0).toNatClampNeg)).toInt = (wn_12 4 (((wn_12 11 0) - 1).toNatClampNeg) : Int32).toInt := by rw [hwn_16, st_rd]
      have hI_16 : R7I wn_16 := by rw [hwn_16]; exact R7I_put_out hI_12
      refine lv_aload_n hx hb dX7_more_95 rfl (lv_at hl 1 rfl) ?_
      refine g7_lean hx hb hts hin hown hK hP (hts (.fieldLink RX7 25 "LoadedForTheLaneModel" "lean" "[I") (by decide +kernel)) dX7_more_96 ?_
      refine lv_aload_n hx hb dX7_more_99 rfl (lv_at hl 1 rfl) ?_
      refine g7_layers hx hb hts hin hown hK hP (hts (.fieldLink RX7 67 "LoadedForTheLaneModel" "layers" "I") (by decide +kernel)) dX7_more_100 ?_
      have f_17 := R7I_layers hI_16
      refine lv_aload_n hx hb dX7_more_103 rfl (lv_at hl 1 rfl) ?_
      refine g7_lean hx hb hts hin hown hK hP (hts (.fieldLink RX7 25 "LoadedForTheLaneModel" "lean" "[I") (by decide +kernel)) dX7_more_104 ?_
      refine lv_aload_n hx hb dX7_more_107 rfl (lv_at hl 1 rfl) ?_
      refine g7_layers hx hb hts hin hown hK hP (hts (.fieldLink RX7 67 "LoadedForTheLaneModel" "layers" "I") (by decide +kernel)) dX7_more_108 ?_
      have f_18 := R7I_layers hI_16
      refine lv_iconst (v := 1) hx hb dX7_more_111 (by decide) ?_
      refine lv_isub hx hb dX7_more_112 ?_
      have := i_subr (a := wn_16 11 0) (b := 1) (n := 1) q_1 (by omega) (by omega)
      have ix_19 : vp_in ((wn_16 11 0) - 1) 12 := ix_of (by omega) (by omega)
      refine l7_lean (j := ((wn_16 11 0) - 1).toNatClampNeg) hx hb hK hP ix_19 rfl dX7_more_113 ?_
      have ix_20 : vp_in (wn_16 11 0) 12 := ix_of (by omega) (by omega)
      refine a7_lean (j := (wn_16 11 0).toNatClampNeg) hx hb hK hP hd hS ix_20 rfl dX7_more_114 (fun H locs hP hS => ?_)
      obtain ⟨wn_20, hwn_20⟩ : ∃ x, x = st wn_16 5 ((wn_16 11 0).toNatClampNeg) (wn_16 5 (((wn_16 11 0) - 1).toNatClampNeg)) := ⟨_, rfl⟩
      rw [← hwn_20] at hP
      have E := bns_e E hwn_20
      have ft20_layers : (wn_20 11 0).toInt = (wn_16 11 0).toInt := by rw [hwn_20]; rfl
      have fv_20 : (wn_20 5 ((wn_16 11 0).toNatClampNeg)).toInt = (wn_16 5 (((wn_16 11 0) - 1).toNatClampNeg) : Int32).toInt := by rw [hwn_20, st_rd]
      have hI_20 : R7I wn_20 := by rw [hwn_20]; exact R7I_put_lean hI_16
      refine lv_aload_n hx hb dX7_more_115 rfl (lv_at hl 1 rfl) ?_
      refine lv_dup hx hb dX7_more_116 rfl ?_
      refine g7_layers hx hb hts hin hown hK hP (hts (.fieldLink RX7 67 "LoadedForTheLaneModel" "layers" "I") (by decide +kernel)) dX7_more_117 ?_
      have f_21 := R7I_layers hI_20
      refine lv_iconst (v := 1) hx hb dX7_more_120 (by decide) ?_
      refine lv_iadd hx hb dX7_more_121 ?_
      refine p7_layers hx hb hts hin hown hK hP hd hS (hts (.fieldLink RX7 67 "LoadedForTheLaneModel" "layers" "I") (by decide +kernel)) dX7_more_122 (fun H locs hP hS => ?_)
      obtain ⟨wn_22, hwn_22⟩ : ∃ x, x = st wn_20 11 0 ((wn_20 11 0) + 1) := ⟨_, rfl⟩
      rw [← hwn_22] at hP
      have E := bns_e E hwn_22
      have ft22_layers : (wn_22 11 0).toInt = ((wn_20 11 0) + 1 : Int32).toInt := by rw [hwn_22]; rfl
      have := i_addr (a := wn_20 11 0) (b := 1) (n := 1) q_1 (by omega) (by omega)
      have := i_addr (a := wn_20 11 0) (b := 1) (n := 1) q_1 (by omega) (by omega)
      have hI_22 : R7I wn_22 := by rw [hwn_22]; exact R7I_put_layers hI_20 (by omega) (by omega)
      refine lv_aload_n hx hb dX7_more_125 rfl (lv_at hl 1 rfl) ?_
      refine lv_iload_n hx hb dX7_more_126 rfl (lv_at hl 2 rfl) ?_
      refine va_calli (va_runV (As := [.int a1]) (rest := []) ⟨hx, hb, hml, hown, hts⟩ (kX7_doesHold l D cI ad wn_22 a1 hd hI_22 (by omega) (by omega)) (cwV 1 hts gX7_more_X7_doesHold rfl rfl rfl mdX7_doesHold ⟨Nat.le_of_ble_eq_true rfl, Nat.le_of_ble_eq_true rfl⟩) (r7_pre hK hP) rfl rfl hl.1 rfl (lv_room (Nat.le_of_ble_eq_true rfl)) dX7_more_127 ⟨Nat.zero_le _, Nat.zero_le _⟩) hS (fun _ _ h => h) (fun _ h => h) (fun rn_23 wn_23 t H locs ht hvm hp_23 hB hz hfr hS => ?_)
      have hP : va_P D vwCl (RM cI ad wn_23) H := ht ▸ hB
      obtain ⟨hp_23, hz_23, hI_23, hq0_23⟩ := hp_23
      have E := bnd_e E hp_23
      have hzi_23 := z_int hz_23
      have ft23_layers : (wn_23 11 0).toInt = (wn_22 11 0).toInt := by rw [hq0_23 11 (by decide) (by decide)]
      refine lv_istore_n (lv' := [(3, .int rn_23), (2, .int 0), (0, .ref (ad 0)), (1, .int a1)]) hx hb dX7_more_130 rfl hl (by decide) rfl (fun ls hl => ?_)
      refine lv_aload_n hx hb dX7_more_131 rfl (lv_at hl 2 rfl) ?_
      refine lv_dup hx hb dX7_more_132 rfl ?_
      refine g7_layers hx hb hts hin hown hK hP (hts (.fieldLink RX7 67 "LoadedForTheLaneModel" "layers" "I") (by decide +kernel)) dX7_more_133 ?_
      have f_24 := R7I_layers hI_23
      refine lv_iconst (v := 1) hx hb dX7_more_136 (by decide) ?_
      refine lv_isub hx hb dX7_more_137 ?_
      refine p7_layers hx hb hts hin hown hK hP hd hS (hts (.fieldLink RX7 67 "LoadedForTheLaneModel" "layers" "I") (by decide +kernel)) dX7_more_138 (fun H locs hP hS => ?_)
      obtain ⟨wn_25, hwn_25⟩ : ∃ x, x = st wn_23 11 0 ((wn_23 11 0) - 1) := ⟨_, rfl⟩
      rw [← hwn_25] at hP
      have E := bns_e E hwn_25
      have ft25_layers : (wn_25 11 0).toInt = ((wn_23 11 0) - 1 : Int32).toInt := by rw [hwn_25]; rfl
      have := i_subr (a := wn_23 11 0) (b := 1) (n := 1) q_1 (by omega) (by omega)
      have := i_subr (a := wn_23 11 0) (b := 1) (n := 1) q_1 (by omega) (by omega)
      have hI_25 : R7I wn_25 := by rw [hwn_25]; exact R7I_put_layers hI_23 (by omega) (by omega)
      refine lv_iload_n hx hb dX7_more_141 rfl (lv_at hl 0 rfl) ?_
      refine lv_if_eq (tgt := 149) hx hb dX7_more_142 (by decide) (fun c_26 => ?_) (fun c_26 => ?_)
      · have E := E.trans (if_pos c_26)
        have fc_26 := i_eq c_26
        rw [q_0] at fc_26
        refine lv_iconst (v := 0) hx hb dX7_more_149 (by decide) ?_
        exact W.iret (v := 0) hx hb hr (fun t ht hW => ⟨⟨_, wn_25, rfl, ⟨E.symm, hI_25⟩, by show va_P _ _ _ t.heap; rw [ht]; exact hP⟩, hS.F ht⟩) hS.2.2 dX7_more_150
      · have E := E.trans (if_neg c_26)
        have fc_26 := i_ne c_26
        rw [q_0] at fc_26
        refine lv_iconst (v := 1) hx hb dX7_more_145 (by decide) ?_
        refine lv_goto (tgt := 150) hx hb dX7_more_146 (by decide) ?_
        exact W.iret (v := 1) hx hb hr (fun t ht hW => ⟨⟨_, wn_25, rfl, ⟨E.symm, hI_25⟩, by show va_P _ _ _ t.heap; rw [ht]; exact hP⟩, hS.F ht⟩) hS.2.2 dX7_more_150
    · have E := E.trans (if_pos c_4)
      have fc_4 := i_eq c_4
      rw [q_0] at fc_4
      refine lv_bipush (v := (-3)) hx hb dX7_more_18 (by decide +kernel) ?_
      refine lv_goto (tgt := 24) hx hb dX7_more_20 (by decide) ?_
      refine lv_istore_n (lv' := [(2, .int (-3)), (0, .ref (ad 0)), (1, .int a1)]) hx hb dX7_more_24 rfl hl (by decide) rfl (fun ls hl => ?_)
      refine lv_iload_n hx hb dX7_more_25 rfl (lv_at hl 0 rfl) ?_
      refine lv_if_eq (tgt := 35) hx hb dX7_more_26 (by decide) (fun z => absurd z (by decide)) (fun _ => ?_)
      refine lv_aload_n hx hb dX7_more_29 rfl (lv_at hl 1 rfl) ?_
      refine lv_iload_n hx hb dX7_more_30 rfl (lv_at hl 0 rfl) ?_
      have := q_m3
      refine va_calli (va_runV (As := [.int (-3)]) (rest := []) ⟨hx, hb, hml, hown, hts⟩ (kX7_no l D cI ad w (-3) hd hI (by omega) (by omega)) (cwV 1 hts gX7_more_X7_no rfl rfl rfl mdX7_no ⟨Nat.le_of_ble_eq_true rfl, Nat.le_of_ble_eq_true rfl⟩) (r7_pre hK hP) rfl rfl hl.1 rfl (lv_room (Nat.le_of_ble_eq_true rfl)) dX7_more_31 ⟨Nat.zero_le _, Nat.zero_le _⟩) hS (fun _ _ h => h) (fun _ h => h) (fun rn_27 wn_27 t H locs ht hvm hp_27 hB hz hfr hS => ?_)
      have hP : va_P D vwCl (RM cI ad wn_27) H := ht ▸ hB
      obtain ⟨hp_27, hI_27⟩ := hp_27
      have E := bnd_e E hp_27
      exact W.iret (v := rn_27) hx hb hr (fun t ht hW => ⟨⟨_, wn_27, rfl, ⟨E.symm, hI_27⟩, by show va_P _ _ _ t.heap; rw [ht]; exact hP⟩, hS.F ht⟩) hS.2.2 dX7_more_34
  · have E := E.trans (if_pos c_2)
    have fc_2 := i_eq c_2
    rw [q_0] at fc_2
    refine lv_iconst (v := (-1)) hx hb dX7_more_7 (by decide) ?_
    refine lv_goto (tgt := 24) hx hb dX7_more_8 (by decide) ?_
    refine lv_istore_n (lv' := [(2, .int (-1)), (0, .ref (ad 0)), (1, .int a1)]) hx hb dX7_more_24 rfl hl (by decide) rfl (fun ls hl => ?_)
    refine lv_iload_n hx hb dX7_more_25 rfl (lv_at hl 0 rfl) ?_
    refine lv_if_eq (tgt := 35) hx hb dX7_more_26 (by decide) (fun z => absurd z (by decide)) (fun _ => ?_)
    refine lv_aload_n hx hb dX7_more_29 rfl (lv_at hl 1 rfl) ?_
    refine lv_iload_n hx hb dX7_more_30 rfl (lv_at hl 0 rfl) ?_
    have := q_m1
    refine va_calli (va_runV (As := [.int (-1)]) (rest := []) ⟨hx, hb, hml, hown, hts⟩ (kX7_no l D cI ad w (-1) hd hI (by omega) (by omega)) (cwV 1 hts gX7_more_X7_no rfl rfl rfl mdX7_no ⟨Nat.le_of_ble_eq_true rfl, Nat.le_of_ble_eq_true rfl⟩) (r7_pre hK hP) rfl rfl hl.1 rfl (lv_room (Nat.le_of_ble_eq_true rfl)) dX7_more_31 ⟨Nat.zero_le _, Nat.zero_le _⟩) hS (fun _ _ h => h) (fun _ h => h) (fun rn_28 wn_28 t H locs ht hvm hp_28 hB hz hfr hS => ?_)
    have hP : va_P D vwCl (RM cI ad wn_28) H := ht ▸ hB
    obtain ⟨hp_28, hI_28⟩ := hp_28
    have E := bnd_e E hp_28
    exact W.iret (v := rn_28) hx hb hr (fun t ht hW => ⟨⟨_, wn_28, rfl, ⟨E.symm, hI_28⟩, by show va_P _ _ _ t.heap; rw [ht]; exact hP⟩, hS.F ht⟩) hS.2.2 dX7_more_34
abbrev rmX7_farOut : Room := { frames := 7, cells := 0, slots := 0, locals := 159 }
set_option maxHeartbeats 4000000 in
set_option maxRecDepth 100000 in
theorem kX7_farOut (l : Launch) (D : va_G) (cI : ClassId) (ad : Nat → Nat) (w : Nat → Nat → Int32) (a1 : Int32) (a2 : Int32) (hd : RD ad) (hI : R7I w)  : Met l yX7_farOut wsX7_farOut rmX7_farOut (va_Pc [Value.ref (ad 0), Value.int a1, Value.int a2] (fun U => va_P D vwCl (RM cI ad w) U.heap ∧ va_K D vwCl [(cI, .int)] U)) (va_Qi (fun r u => (r, u) = sX7_farOut w a1 a2 ∧ R7I u) (fun u t => va_P D vwCl (RM cI ad u) t.heap) (RA ad)) 0 0 (RA ad) := by
  refine Met.ofW (cc := cX7_farOut) (maxL := 6) (ret := (some .int)) (by decide) rfl ?_
  intro p e s m args below meth c s₁ B hml hv
  obtain ⟨rfl, hP, hK⟩ := hv
  have hx := B.exec
  have hb := B.bytes
  have hr := B.returns
  have hts := atoms_spec (ws := wsX7_farOut) B.pre
  have hown : s.vm.findClass RX7 = some m.cls := findClass_of_methodNamed B.named
  have hlocks := B.notSynchronized
  have hin : ∀ q ∈ wsX70, q ∈ wsX7_farOut := by decide +kernel
  have hl := lv_entry ([.ref (ad 0), .int a1, .int a2]) (n := 6) (Nat.le_of_ble_eq_true rfl)
  rw [lg_entry_eq]
  generalize (lg_sl ([.ref (ad 0), .int a1, .int a2]) ++ List.replicate (6 - (lg_sl ([.ref (ad 0), .int a1, .int a2])).length) Slot.unset).toArray = ls at hl ⊢
  have hl : lv_has ls 6 [(0, .ref (ad 0)), (1, .int a1), (2, .int a2)] := hl
  suffices hgo : ∀ (H : Heap) (locs : List Loc), va_P D vwCl (RM cI ad w) H → va_S (RA ad) s.heap H locs → W p l e (headSpec wsX7_farOut rmX7_farOut).room s m [Value.ref (ad 0), Value.int a1, Value.int a2].toArray below meth c H locs 0 0 (MQ below (va_Qi (fun r u => (r, u) = sX7_farOut w a1 a2 ∧ R7I u) (fun u t => va_P D vwCl (RM cI ad u) t.heap) (RA ad)) [Value.ref (ad 0), Value.int a1, Value.int a2].toArray s 0 0 (RA ad)) (F0 m 0 ls []) from hgo s.heap [] hP va_S.rf
  intro H locs hP hS
  have E := sX7_farOut.eq_1 w a1 a2
  refine lv_iload_n hx hb dX7_farOut_0 rfl (lv_at hl 1 rfl) ?_
  refine vp_callSi (va_Run.run (va_runS (As := [.int a1]) (rest := []) ⟨hx, hb, hml, hown, hts⟩ (kX7_isWay l a1) (va_cwS 1 hts gX7_farOut_X7_isWay rfl rfl rfl mdX7_isWay ⟨Nat.le_of_ble_eq_true rfl, Nat.le_of_ble_eq_true rfl⟩) s_pre rfl rfl hl.1 rfl (lv_room (Nat.le_of_ble_eq_true rfl)) dX7_farOut_1 ⟨Nat.zero_le _, Nat.zero_le _⟩)) (fun r_1 hr_1 => ?_)
  obtain ⟨rfl, hz_1⟩ := hr_1
  refine lv_if_eq (tgt := 15) hx hb dX7_farOut_4 (by decide) (fun c_2 => ?_) (fun c_2 => ?_)
  · have E := E.trans (if_pos c_2)
    have fc_2 := i_eq c_2
    rw [q_0] at fc_2
    refine lv_aload_n hx hb dX7_farOut_15 rfl (lv_at hl 0 rfl) ?_
    refine lv_iconst (v := (-1)) hx hb dX7_farOut_16 (by decide) ?_
    have := q_m1
    refine va_calli (va_runV (As := [.int (-1)]) (rest := []) ⟨hx, hb, hml, hown, hts⟩ (kX7_no l D cI ad w (-1) hd hI (by omega) (by omega)) (cwV 1 hts gX7_farOut_X7_no rfl rfl rfl mdX7_no ⟨Nat.le_of_ble_eq_true rfl, Nat.le_of_ble_eq_true rfl⟩) (r7_pre hK hP) rfl rfl hl.1 rfl (lv_room (Nat.le_of_ble_eq_true rfl)) dX7_farOut_17 ⟨Nat.zero_le _, Nat.zero_le _⟩) hS (fun _ _ h => h) (fun _ h => h) (fun rn_3 wn_3 t H locs ht hvm hp_3 hB hz hfr hS => ?_)
    have hP : va_P D vwCl (RM cI ad wn_3) H := ht ▸ hB
    obtain ⟨hp_3, hI_3⟩ := hp_3
    have E := bnd_e E hp_3
    exact W.iret (v := rn_3) hx hb hr (fun t ht hW => ⟨⟨_, wn_3, rfl, ⟨E.symm, hI_3⟩, by show va_P _ _ _ t.heap; rw [ht]; exact hP⟩, hS.F ht⟩) hS.2.2 dX7_farOut_20
  · have E := E.trans (if_neg c_2)
    have fc_2 := i_ne c_2
    rw [q_0] at fc_2
    have gc_2 := fX7_isWay c_2
    refine lv_aload_n hx hb dX7_farOut_7 rfl (lv_at hl 0 rfl) ?_
    refine lv_iload_n hx hb dX7_farOut_8 rfl (lv_at hl 2 rfl) ?_
    refine vp_callSi (va_Run.run (va_runV (As := [.int a2]) (rest := []) ⟨hx, hb, hml, hown, hts⟩ (kX7_isLayer l D cI ad w a2) (cwV 1 hts gX7_farOut_X7_isLayer rfl rfl rfl mdX7_isLayer ⟨Nat.le_of_ble_eq_true rfl, Nat.le_of_ble_eq_true rfl⟩) (r7_pre hK hP) rfl rfl hl.1 rfl (lv_room (Nat.le_of_ble_eq_true rfl)) dX7_farOut_9 ⟨Nat.zero_le _, Nat.zero_le _⟩)) (fun r_4 hr_4 => ?_)
    obtain ⟨rfl, hz_4⟩ := hr_4
    refine lv_if_ne (tgt := 21) hx hb dX7_farOut_12 (by decide) (fun c_5 => ?_) (fun c_5 => ?_)
    · have E := E.trans (if_neg c_5)
      have fc_5 := i_ne c_5
      rw [q_0] at fc_5
      have gc_5 := fX7_isLayer c_5
      have glc_5 := R7I_layers hI
      refine lv_aload_n hx hb dX7_farOut_21 rfl (lv_at hl 0 rfl) ?_
      refine g7_out hx hb hts hin hown hK hP (hts (.fieldLink RX7 22 "LoadedForTheLaneModel" "out" "[I") (by decide +kernel)) dX7_farOut_22 ?_
      refine lv_iload_n hx hb dX7_farOut_25 rfl (lv_at hl 2 rfl) ?_
      have ix_6 : vp_in a2 12 := ix_of (by omega) (by omega)
      refine l7_out (j := a2.toNatClampNeg) hx hb hK hP ix_6 rfl dX7_farOut_26 ?_
      refine lv_istore_n (lv' := [(3, .int (w 4 (a2.toNatClampNeg))), (0, .ref (ad 0)), (1, .int a1), (2, .int a2)]) hx hb dX7_farOut_27 rfl hl (by decide) rfl (fun ls hl => ?_)
      refine lv_bipush (v := (-9)) hx hb dX7_farOut_28 (by decide +kernel) ?_
      refine lv_istore (lv' := [(4, .int (-9)), (3, .int (w 4 (a2.toNatClampNeg))), (0, .ref (ad 0)), (1, .int a1), (2, .int a2)]) hx hb dX7_farOut_30 hl (by decide) rfl (fun ls hl => ?_)
      refine lv_bipush (v := 9) hx hb dX7_farOut_32 (by decide +kernel) ?_
      refine lv_istore (lv' := [(5, .int 9), (4, .int (-9)), (3, .int (w 4 (a2.toNatClampNeg))), (0, .ref (ad 0)), (1, .int a1), (2, .int a2)]) hx hb dX7_farOut_34 hl (by decide) rfl (fun ls hl => ?_)
      have L_36 : ∀ (n_36 : Nat) (x4_36 : Int32) (x5_36 : Int32) (w_36 : Nat → Nat → Int32) (H : Heap) (locs : List Loc) (ls : Array Slot), ((-1 ≤ x5_36.toInt) ∧ (x5_36.toInt ≤ 9)) → (x5_36.toInt + 1 < (n_36 : Int)) → R7I w_36 → va_P D vwCl (RM cI ad w_36) H → va_S (RA ad) s.heap H locs → lv_has ls 6 [(5, .int x5_36), (4, .int x4_36), (3, .int (w 4 (a2.toNatClampNeg))), (0, .ref (ad 0)), (1, .int a1), (2, .int a2)] → sX7_farOut w a1 a2 = sX7_farOut_36 w a1 a2 n_36 x4_36 x5_36 w_36 → W p l e (headSpec wsX7_farOut rmX7_farOut).room s m [Value.ref (ad 0), Value.int a1, Value.int a2].toArray below meth c H locs 0 0 (MQ below (va_Qi (fun r u => (r, u) = sX7_farOut w a1 a2 ∧ R7I u) (fun u t => va_P D vwCl (RM cI ad u) t.heap) (RA ad)) [Value.ref (ad 0), Value.int a1, Value.int a2].toArray s 0 0 (RA ad)) (F0 m 36 ls []) := by
        intro n_36
        induction n_36 with
        | zero =>
          intro x4_36 x5_36 w_36 H locs ls hinv hm
          obtain ⟨v0_36, v1_36⟩ := hinv
          exact absurd hm (by omega)
        | succ n_36 ih_36 =>
          intro x4_36 x5_36 w_36 H locs ls hinv hm_36 hI_36 hP hS hl E
          obtain ⟨v0_36, v1_36⟩ := hinv
          have E := E.trans (sX7_farOut_36.eq_2 ..)
          refine lv_iload hx hb dX7_farOut_36 (lv_at hl 0 rfl) ?_
          refine lv_if_lt (tgt := 77) hx hb dX7_farOut_38 (by decide) (fun c_7 => ?_) (fun c_7 => ?_)
          · have E := E.trans (if_pos c_7)
            have fc_7 := i_lt c_7
            rw [q_0] at fc_7
            refine lv_aload_n hx hb dX7_farOut_77 rfl (lv_at hl 3 rfl) ?_
            refine g7_out hx hb hts hin hown hK hP (hts (.fieldLink RX7 22 "LoadedForTheLaneModel" "out" "[I") (by decide +kernel)) dX7_farOut_78 ?_
            refine lv_iload_n hx hb dX7_farOut_81 rfl (lv_at hl 5 rfl) ?_
            refine lv_iload_n hx hb dX7_farOut_82 rfl (lv_at hl 2 rfl) ?_
            have ix_8 : vp_in a2 12 := ix_of (by omega) (by omega)
            refine a7_out (j := a2.toNatClampNeg) hx hb hK hP hd hS ix_8 rfl dX7_farOut_83 (fun H locs hP hS => ?_)
            obtain ⟨wn_8, hwn_8⟩ : ∃ x, x = st w_36 4 (a2.toNatClampNeg) (w 4 (a2.toNatClampNeg)) := ⟨_, rfl⟩
            rw [← hwn_8] at hP
            have E := bns_e E hwn_8
            have hI_8 : R7I wn_8 := by rw [hwn_8]; exact R7I_put_out hI_36
            refine lv_iload hx hb dX7_farOut_84 (lv_at hl 1 rfl) ?_
            exact W.iret (v := x4_36) hx hb hr (fun t ht hW => ⟨⟨_, wn_8, rfl, ⟨E.symm, hI_8⟩, by show va_P _ _ _ t.heap; rw [ht]; exact hP⟩, hS.F ht⟩) hS.2.2 dX7_farOut_86
          · have E := E.trans (if_neg c_7)
            have fc_7 := i_nlt c_7
            rw [q_0] at fc_7
            refine lv_iload hx hb dX7_farOut_41 (lv_at hl 1 rfl) ?_
            refine lv_if_ge (tgt := 77) hx hb dX7_farOut_43 (by decide) (fun c_9 => ?_) (fun c_9 => ?_)
            · have E := E.trans (if_pos c_9)
              have fc_9 := i_le c_9
              rw [q_0] at fc_9
              refine lv_aload_n hx hb dX7_farOut_77 rfl (lv_at hl 3 rfl) ?_
              refine g7_out hx hb hts hin hown hK hP (hts (.fieldLink RX7 22 "LoadedForTheLaneModel" "out" "[I") (by decide +kernel)) dX7_farOut_78 ?_
              refine lv_iload_n hx hb dX7_farOut_81 rfl (lv_at hl 5 rfl) ?_
              refine lv_iload_n hx hb dX7_farOut_82 rfl (lv_at hl 2 rfl) ?_
              have ix_10 : vp_in a2 12 := ix_of (by omega) (by omega)
              refine a7_out (j := a2.toNatClampNeg) hx hb hK hP hd hS ix_10 rfl dX7_farOut_83 (fun H locs hP hS => ?_)
              obtain ⟨wn_10, hwn_10⟩ : ∃ x, x = st w_36 4 (a2.toNatClampNeg) (w 4 (a2.toNatClampNeg)) := ⟨_, rfl⟩
              rw [← hwn_10] at hP
              have E := bns_e E hwn_10
              have hI_10 : R7I wn_10 := by rw [hwn_10]; exact R7I_put_out hI_36
              refine lv_iload hx hb dX7_farOut_84 (lv_at hl 1 rfl) ?_
              exact W.iret (v := x4_36) hx hb hr (fun t ht hW => ⟨⟨_, wn_10, rfl, ⟨E.symm, hI_10⟩, by show va_P _ _ _ t.heap; rw [ht]; exact hP⟩, hS.F ht⟩) hS.2.2 dX7_farOut_86
            · have E := E.trans (if_neg c_9)
              have fc_9 := i_nle c_9
              rw [q_0] at fc_9
              refine lv_aload_n hx hb dX7_farOut_46 rfl (lv_at hl 3 rfl) ?_
              refine g7_out hx hb hts hin hown hK hP (hts (.fieldLink RX7 22 "LoadedForTheLaneModel" "out" "[I") (by decide +kernel)) dX7_farOut_47 ?_
              refine lv_iload_n hx hb dX7_farOut_50 rfl (lv_at hl 5 rfl) ?_
              refine lv_iload hx hb dX7_farOut_51 (lv_at hl 0 rfl) ?_
              have ix_11 : vp_in a2 12 := ix_of (by omega) (by omega)
              refine a7_out (j := a2.toNatClampNeg) hx hb hK hP hd hS ix_11 rfl dX7_farOut_53 (fun H locs hP hS => ?_)
              obtain ⟨wn_11, hwn_11⟩ : ∃ x, x = st w_36 4 (a2.toNatClampNeg) x5_36 := ⟨_, rfl⟩
              rw [← hwn_11] at hP
              have E := bns_e E hwn_11
              have hI_11 : R7I wn_11 := by rw [hwn_11]; exact R7I_put_out hI_36
              refine lv_aload_n hx hb dX7_farOut_54 rfl (lv_at hl 3 rfl) ?_
              refine lv_iload_n hx hb dX7_farOut_55 rfl (lv_at hl 4 rfl) ?_
              refine va_calli (va_runV (As := [.int a1]) (rest := []) ⟨hx, hb, hml, hown, hts⟩ (kX7_doesHold l D cI ad wn_11 a1 hd hI_11 (by omega) (by omega)) (cwV 1 hts gX7_farOut_X7_doesHold rfl rfl rfl mdX7_doesHold ⟨Nat.le_of_ble_eq_true rfl, Nat.le_of_ble_eq_true rfl⟩) (r7_pre hK hP) rfl rfl hl.1 rfl (lv_room (Nat.le_of_ble_eq_true rfl)) dX7_farOut_56 ⟨Nat.zero_le _, Nat.zero_le _⟩) hS (fun _ _ h => h) (fun _ h => h) (fun rn_12 wn_12 t H locs ht hvm hp_12 hB hz hfr hS => ?_)
              have hP : va_P D vwCl (RM cI ad wn_12) H := ht ▸ hB
              obtain ⟨hp_12, hz_12, hI_12, hq0_12⟩ := hp_12
              have E := bnd_e E hp_12
              have hzi_12 := z_int hz_12
              refine lv_if_eq (tgt := 67) hx hb dX7_farOut_59 (by decide) (fun c_13 => ?_) (fun c_13 => ?_)
              · have E := E.trans (if_pos c_13)
                have fc_13 := i_eq c_13
                rw [q_0] at fc_13
                refine lv_bipush (v := (-9)) hx hb dX7_farOut_67 (by decide +kernel) ?_
                refine lv_istore (lv' := [(4, .int (-9)), (5, .int x5_36), (3, .int (w 4 (a2.toNatClampNeg))), (0, .ref (ad 0)), (1, .int a1), (2, .int a2)]) hx hb dX7_farOut_69 hl (by decide) rfl (fun ls hl => ?_)
                obtain ⟨xn_14, hxn_14⟩ : ∃ y : Int32, y = x5_36 + (-1) := ⟨_, rfl⟩
                have E := bns_e E hxn_14
                have fxn_14 : xn_14.toInt = x5_36.toInt + (-1) := by rw [hxn_14]; exact i_addr (a := x5_36) (b := (-1)) (n := -1) q_m1 (by omega) (by omega)
                refine lv_iinc (v := xn_14) (lv' := [(5, .int xn_14), (4, .int (-9)), (3, .int (w 4 (a2.toNatClampNeg))), (0, .ref (ad 0)), (1, .int a1), (2, .int a2)]) hx hb dX7_farOut_71 hl (k := 1) rfl (by rw [hxn_14]; rfl) (by decide) rfl (fun ls hl => ?_)
                refine lv_goto (tgt := 36) hx hb dX7_farOut_74 (by decide) ?_
                exact ih_36 ((-9)) xn_14 wn_12 H locs ls ⟨by omega, by omega⟩ (by omega) hI_12 hP hS (lv_sub hl [0, 1, 2, 3, 4, 5] rfl) E
              · have E := E.trans (if_neg c_13)
                have fc_13 := i_ne c_13
                rw [q_0] at fc_13
                refine lv_iload hx hb dX7_farOut_62 (lv_at hl 0 rfl) ?_
                refine lv_goto (tgt := 69) hx hb dX7_farOut_64 (by decide) ?_
                refine lv_istore (lv' := [(4, .int x5_36), (5, .int x5_36), (3, .int (w 4 (a2.toNatClampNeg))), (0, .ref (ad 0)), (1, .int a1), (2, .int a2)]) hx hb dX7_farOut_69 hl (by decide) rfl (fun ls hl => ?_)
                obtain ⟨xn_15, hxn_15⟩ : ∃ y : Int32, y = x5_36 + (-1) := ⟨_, rfl⟩
                have E := bns_e E hxn_15
                have fxn_15 : xn_15.toInt = x5_36.toInt + (-1) := by rw [hxn_15]; exact i_addr (a := x5_36) (b := (-1)) (n := -1) q_m1 (by omega) (by omega)
                refine lv_iinc (v := xn_15) (lv' := [(5, .int xn_15), (4, .int x5_36), (3, .int (w 4 (a2.toNatClampNeg))), (0, .ref (ad 0)), (1, .int a1), (2, .int a2)]) hx hb dX7_farOut_71 hl (k := 1) rfl (by rw [hxn_15]; rfl) (by decide) rfl (fun ls hl => ?_)
                refine lv_goto (tgt := 36) hx hb dX7_farOut_74 (by decide) ?_
                exact ih_36 x5_36 xn_15 wn_12 H locs ls ⟨by omega, by omega⟩ (by omega) hI_12 hP hS (lv_sub hl [0, 1, 2, 3, 4, 5] rfl) E
      have := q_9
      exact L_36 11 ((-9)) 9 w H locs ls ⟨by omega, by omega⟩ (by omega) hI hP hS (lv_sub hl [0, 1, 2, 3, 4, 5] rfl) E
    · have E := E.trans (if_pos c_5)
      have fc_5 := i_eq c_5
      rw [q_0] at fc_5
      refine lv_aload_n hx hb dX7_farOut_15 rfl (lv_at hl 0 rfl) ?_
      refine lv_iconst (v := (-1)) hx hb dX7_farOut_16 (by decide) ?_
      have := q_m1
      refine va_calli (va_runV (As := [.int (-1)]) (rest := []) ⟨hx, hb, hml, hown, hts⟩ (kX7_no l D cI ad w (-1) hd hI (by omega) (by omega)) (cwV 1 hts gX7_farOut_X7_no rfl rfl rfl mdX7_no ⟨Nat.le_of_ble_eq_true rfl, Nat.le_of_ble_eq_true rfl⟩) (r7_pre hK hP) rfl rfl hl.1 rfl (lv_room (Nat.le_of_ble_eq_true rfl)) dX7_farOut_17 ⟨Nat.zero_le _, Nat.zero_le _⟩) hS (fun _ _ h => h) (fun _ h => h) (fun rn_16 wn_16 t H locs ht hvm hp_16 hB hz hfr hS => ?_)
      have hP : va_P D vwCl (RM cI ad wn_16) H := ht ▸ hB
      obtain ⟨hp_16, hI_16⟩ := hp_16
      have E := bnd_e E hp_16
      exact W.iret (v := rn_16) hx hb hr (fun t ht hW => ⟨⟨_, wn_16, rfl, ⟨E.symm, hI_16⟩, by show va_P _ _ _ t.heap; rw [ht]; exact hP⟩, hS.F ht⟩) hS.2.2 dX7_farOut_20
abbrev rmX7_marginBy : Room := { frames := 5, cells := 0, slots := 0, locals := 116 }
set_option maxHeartbeats 4000000 in
set_option maxRecDepth 100000 in
theorem kX7_marginBy (l : Launch) (D : va_G) (cI : ClassId) (ad : Nat → Nat) (w : Nat → Nat → Int32) (a1 : Int32) (a2 : Int32) (hd : RD ad) (hI : R7I w) (h1 : 0 ≤ a1.toInt) (h2 : a1.toInt < 2) : Met l yX7_marginBy wsX7_marginBy rmX7_marginBy (va_Pc [Value.ref (ad 0), Value.int a1, Value.int a2] (fun U => va_P D vwCl (RM cI ad w) U.heap ∧ va_K D vwCl [(cI, .int)] U)) (va_Qi (fun r u => (r, u) = sX7_marginBy w a1 a2 ∧ R7I u) (fun u t => va_P D vwCl (RM cI ad u) t.heap) (RA ad)) 0 0 (RA ad) := by
  refine Met.ofW (cc := cX7_marginBy) (maxL := 4) (ret := (some .int)) (by decide) rfl ?_
  intro p e s m args below meth c s₁ B hml hv
  obtain ⟨rfl, hP, hK⟩ := hv
  have hx := B.exec
  have hb := B.bytes
  have hr := B.returns
  have hts := atoms_spec (ws := wsX7_marginBy) B.pre
  have hown : s.vm.findClass RX7 = some m.cls := findClass_of_methodNamed B.named
  have hlocks := B.notSynchronized
  have hin : ∀ q ∈ wsX70, q ∈ wsX7_marginBy := by decide +kernel
  have hl := lv_entry ([.ref (ad 0), .int a1, .int a2]) (n := 4) (Nat.le_of_ble_eq_true rfl)
  rw [lg_entry_eq]
  generalize (lg_sl ([.ref (ad 0), .int a1, .int a2]) ++ List.replicate (4 - (lg_sl ([.ref (ad 0), .int a1, .int a2])).length) Slot.unset).toArray = ls at hl ⊢
  have hl : lv_has ls 4 [(0, .ref (ad 0)), (1, .int a1), (2, .int a2)] := hl
  suffices hgo : ∀ (H : Heap) (locs : List Loc), va_P D vwCl (RM cI ad w) H → va_S (RA ad) s.heap H locs → W p l e (headSpec wsX7_marginBy rmX7_marginBy).room s m [Value.ref (ad 0), Value.int a1, Value.int a2].toArray below meth c H locs 0 0 (MQ below (va_Qi (fun r u => (r, u) = sX7_marginBy w a1 a2 ∧ R7I u) (fun u t => va_P D vwCl (RM cI ad u) t.heap) (RA ad)) [Value.ref (ad 0), Value.int a1, Value.int a2].toArray s 0 0 (RA ad)) (F0 m 0 ls []) from hgo s.heap [] hP va_S.rf
  intro H locs hP hS
  have E := sX7_marginBy.eq_1 w a1 a2
  refine lv_aload_n hx hb dX7_marginBy_0 rfl (lv_at hl 0 rfl) ?_
  refine lv_iconst (v := 1) hx hb dX7_marginBy_1 (by decide) ?_
  refine lv_iconst (v := 1) hx hb dX7_marginBy_2 (by decide) ?_
  have := q_1
  refine va_callv (va_runV (As := [.int 1, .int 1]) (rest := []) ⟨hx, hb, hml, hown, hts⟩ (kX7_passesAll l D cI ad w 1 1 hd (by omega) (by omega) (Or.inr rfl)) (cwV 2 hts gX7_marginBy_X7_passesAll rfl rfl rfl mdX7_passesAll ⟨Nat.le_of_ble_eq_true rfl, Nat.le_of_ble_eq_true rfl⟩) (r7_pre hK hP) rfl rfl hl.1 rfl (lv_room (Nat.le_of_ble_eq_true rfl)) dX7_marginBy_3 ⟨Nat.zero_le _, Nat.zero_le _⟩) hS (fun _ _ h => h) (fun _ h => h) (fun wn_1 t H locs ht hvm hp_1 hB hz hfr hS => ?_)
  have hP : va_P D vwCl (RM cI ad wn_1) H := ht ▸ hB
  have E := bns_e E hp_1
  have e_1 := fun k h1 h2 h3 => (congrFun hp_1 k).trans (iX7_save (w := w) (a := 1) k h1 h2 h3)
  have hI_1 : R7I wn_1 := R7I_eq hI (e_1 10 (by decide) (by decide) (by decide)) (e_1 11 (by decide) (by decide) (by decide)) (e_1 16 (by decide) (by decide) (by decide)) (e_1 17 (by decide) (by decide) (by decide)) (e_1 18 (by decide) (by decide) (by decide)) (e_1 27 (by decide) (by decide) (by decide))
  have el_1 : (wn_1 11 0).toInt = (w 11 0).toInt := by rw [e_1 11 (by decide) (by decide) (by decide)]
  have es_1 : (wn_1 18 0).toInt = (w 18 0).toInt := by rw [e_1 18 (by decide) (by decide) (by decide)]
  have hk19 : wn_1 19 = (sX7_passesAll w 1 1) 19 := congrFun hp_1 19
  refine lv_iconst (v := 0) hx hb dX7_marginBy_6 (by decide) ?_
  refine lv_istore_n (lv' := [(3, .int 0), (0, .ref (ad 0)), (1, .int a1), (2, .int a2)]) hx hb dX7_marginBy_7 rfl hl (by decide) rfl (fun ls hl => ?_)
  have L_8 : ∀ (n_8 : Nat) (x3_8 : Int32) (w_8 : Nat → Nat → Int32) (H : Heap) (locs : List Loc) (ls : Array Slot), ((0 ≤ x3_8.toInt) ∧ (x3_8.toInt ≤ 12) ∧ (w_8 19 = (sX7_passesAll w 1 1) 19)) → (12 - x3_8.toInt < (n_8 : Int)) → R7I w_8 → va_P D vwCl (RM cI ad w_8) H → va_S (RA ad) s.heap H locs → lv_has ls 4 [(3, .int x3_8), (0, .ref (ad 0)), (1, .int a1), (2, .int a2)] → sX7_marginBy w a1 a2 = sX7_marginBy_8 a1 a2 n_8 x3_8 w_8 → W p l e (headSpec wsX7_marginBy rmX7_marginBy).room s m [Value.ref (ad 0), Value.int a1, Value.int a2].toArray below meth c H locs 0 0 (MQ below (va_Qi (fun r u => (r, u) = sX7_marginBy w a1 a2 ∧ R7I u) (fun u t => va_P D vwCl (RM cI ad u) t.heap) (RA ad)) [Value.ref (ad 0), Value.int a1, Value.int a2].toArray s 0 0 (RA ad)) (F0 m 8 ls []) := by
    intro n_8
    induction n_8 with
    | zero =>
      intro x3_8 w_8 H locs ls hinv hm
      obtain ⟨v0_8, v1_8, v2_8⟩ := hinv
      exact absurd hm (by omega)
    | succ n_8 ih_8 =>
      intro x3_8 w_8 H locs ls hinv hm_8 hI_8 hP hS hl E
      obtain ⟨v0_8, v1_8, v2_8⟩ := hinv
      have E := E.trans (sX7_marginBy_8.eq_2 ..)
      have hk19 := v2_8
      refine lv_iload_n hx hb dX7_marginBy_8 rfl (lv_at hl 0 rfl) ?_
      refine lv_aload_n hx hb dX7_marginBy_9 rfl (lv_at hl 1 rfl) ?_
      refine g7_layers hx hb hts hin hown hK hP (hts (.fieldLink RX7 67 "LoadedForTheLaneModel" "layers" "I") (by decide +kernel)) dX7_marginBy_10 ?_
      have f_2 := R7I_layers hI_8
      refine lv_icmp_ge (tgt := 39) hx hb dX7_marginBy_13 (by decide) (fun c_3 => ?_) (fun c_3 => ?_)
      · have E := E.trans (if_pos c_3)
        have fc_3 := i_le c_3
        refine lv_aload_n hx hb dX7_marginBy_39 rfl (lv_at hl 1 rfl) ?_
        refine lv_iload_n hx hb dX7_marginBy_40 rfl (lv_at hl 2 rfl) ?_
        refine vp_callSi (va_Run.run (va_runV (As := [.int a1]) (rest := []) ⟨hx, hb, hml, hown, hts⟩ (kX7_marginOf l D cI ad w_8 a1 hI_8 (by omega) (by omega)) (cwV 1 hts gX7_marginBy_X7_marginOf rfl rfl rfl mdX7_marginOf ⟨Nat.le_of_ble_eq_true rfl, Nat.le_of_ble_eq_true rfl⟩) (r7_pre hK hP) rfl rfl hl.1 rfl (lv_room (Nat.le_of_ble_eq_true rfl)) dX7_marginBy_41 ⟨Nat.zero_le _, Nat.zero_le _⟩)) (fun r_4 hr_4 => ?_)
        subst hr_4
        refine lv_istore_n (lv' := [(3, .int (sX7_marginOf w_8 a1)), (0, .ref (ad 0)), (1, .int a1), (2, .int a2)]) hx hb dX7_marginBy_44 rfl hl (by decide) rfl (fun ls hl => ?_)
        refine lv_aload_n hx hb dX7_marginBy_45 rfl (lv_at hl 1 rfl) ?_
        refine lv_iconst (v := 1) hx hb dX7_marginBy_46 (by decide) ?_
        refine lv_iconst (v := 0) hx hb dX7_marginBy_47 (by decide) ?_
        have := q_1
        have := q_0
        refine va_callv (va_runV (As := [.int 1, .int 0]) (rest := []) ⟨hx, hb, hml, hown, hts⟩ (kX7_passesAll l D cI ad w_8 1 0 hd (by omega) (by omega) (Or.inl rfl)) (cwV 2 hts gX7_marginBy_X7_passesAll rfl rfl rfl mdX7_passesAll ⟨Nat.le_of_ble_eq_true rfl, Nat.le_of_ble_eq_true rfl⟩) (r7_pre hK hP) rfl rfl hl.1 rfl (lv_room (Nat.le_of_ble_eq_true rfl)) dX7_marginBy_48 ⟨Nat.zero_le _, Nat.zero_le _⟩) hS (fun _ _ h => h) (fun _ h => h) (fun wn_5 t H locs ht hvm hp_5 hB hz hfr hS => ?_)
        have hP : va_P D vwCl (RM cI ad wn_5) H := ht ▸ hB
        have E := bns_e E hp_5
        have hI_5 : R7I wn_5 := by rw [show wn_5 = _ from hp_5]; exact iX7_restore hI hI_8 hk19
        refine lv_iload_n hx hb dX7_marginBy_51 rfl (lv_at hl 0 rfl) ?_
        exact W.iret (v := (sX7_marginOf w_8 a1)) hx hb hr (fun t ht hW => ⟨⟨_, wn_5, rfl, ⟨E.symm, hI_5⟩, by show va_P _ _ _ t.heap; rw [ht]; exact hP⟩, hS.F ht⟩) hS.2.2 dX7_marginBy_52
      · have E := E.trans (if_neg c_3)
        have fc_3 := i_nle c_3
        refine lv_aload_n hx hb dX7_marginBy_16 rfl (lv_at hl 1 rfl) ?_
        refine g7_lean hx hb hts hin hown hK hP (hts (.fieldLink RX7 25 "LoadedForTheLaneModel" "lean" "[I") (by decide +kernel)) dX7_marginBy_17 ?_
        refine lv_iload_n hx hb dX7_marginBy_20 rfl (lv_at hl 0 rfl) ?_
        refine lv_aload_n hx hb dX7_marginBy_21 rfl (lv_at hl 1 rfl) ?_
        refine g7_lean hx hb hts hin hown hK hP (hts (.fieldLink RX7 25 "LoadedForTheLaneModel" "lean" "[I") (by decide +kernel)) dX7_marginBy_22 ?_
        refine lv_iload_n hx hb dX7_marginBy_25 rfl (lv_at hl 0 rfl) ?_
        have ix_6 : vp_in x3_8 12 := ix_of (by omega) (by omega)
        refine l7_lean (j := x3_8.toNatClampNeg) hx hb hK hP ix_6 rfl dX7_marginBy_26 ?_
        refine lv_iload_n hx hb dX7_marginBy_27 rfl (lv_at hl 3 rfl) ?_
        refine lv_iadd hx hb dX7_marginBy_28 ?_
        refine vp_callSi (va_Run.run (va_runS (As := [.int ((w_8 5 (x3_8.toNatClampNeg)) + a2)]) (rest := [.int x3_8, .ref (ad 6)]) ⟨hx, hb, hml, hown, hts⟩ (kX7_heldLean l ((w_8 5 (x3_8.toNatClampNeg)) + a2)) (va_cwS 1 hts gX7_marginBy_X7_heldLean rfl rfl rfl mdX7_heldLean ⟨Nat.le_of_ble_eq_true rfl, Nat.le_of_ble_eq_true rfl⟩) s_pre rfl rfl hl.1 rfl (lv_room (Nat.le_of_ble_eq_true rfl)) dX7_marginBy_29 ⟨Nat.zero_le _, Nat.zero_le _⟩)) (fun r_7 hr_7 => ?_)
        subst hr_7
        have ix_8 : vp_in x3_8 12 := ix_of (by omega) (by omega)
        refine a7_lean (j := x3_8.toNatClampNeg) hx hb hK hP hd hS ix_8 rfl dX7_marginBy_32 (fun H locs hP hS => ?_)
        obtain ⟨wn_8, hwn_8⟩ : ∃ x, x = st w_8 5 (x3_8.toNatClampNeg) (sX7_heldLean ((w_8 5 (x3_8.toNatClampNeg)) + a2)) := ⟨_, rfl⟩
        rw [← hwn_8] at hP
        have E := bns_e E hwn_8
        have hk19 := (show wn_8 19 = w_8 19 by rw [hwn_8]; rfl).trans hk19
        have hI_8 : R7I wn_8 := by rw [hwn_8]; exact R7I_put_lean hI_8
        refine lv_iinc (v := x3_8 + 1) (lv' := [(3, .int (x3_8 + 1)), (0, .ref (ad 0)), (1, .int a1), (2, .int a2)]) hx hb dX7_marginBy_33 hl (k := 0) rfl rfl (by decide) rfl (fun ls hl => ?_)
        refine lv_goto (tgt := 8) hx hb dX7_marginBy_36 (by decide) ?_
        try have := i_addr (a := x3_8) (b := 1) (n := 1) q_1 (by omega) (by omega)
        exact ih_8 (x3_8 + 1) wn_8 H locs ls ⟨by omega, by omega, hk19⟩ (by omega) hI_8 hP hS (lv_sub hl [0, 1, 2, 3] rfl) E
  have := q_0
  exact L_8 13 0 wn_1 H locs ls ⟨by omega, by omega, hk19⟩ (by omega) hI_1 hP hS (lv_sub hl [0, 1, 2, 3] rfl) E
abbrev rmX7_leaning : Room := { frames := 6, cells := 0, slots := 0, locals := 139 }
set_option maxHeartbeats 4000000 in
set_option maxRecDepth 100000 in
theorem kX7_leaning (l : Launch) (D : va_G) (cI : ClassId) (ad : Nat → Nat) (w : Nat → Nat → Int32) (a1 : Int32) (hd : RD ad) (hI : R7I w)  : Met l yX7_leaning wsX7_leaning rmX7_leaning (va_Pc [Value.ref (ad 0), Value.int a1] (fun U => va_P D vwCl (RM cI ad w) U.heap ∧ va_K D vwCl [(cI, .int)] U)) (va_Qi (fun r u => (r, u) = sX7_leaning w a1 ∧ R7I u) (fun u t => va_P D vwCl (RM cI ad u) t.heap) (RA ad)) 0 0 (RA ad) := by
  refine Met.ofW (cc := cX7_leaning) (maxL := 4) (ret := (some .int)) (by decide) rfl ?_
  intro p e s m args below meth c s₁ B hml hv
  obtain ⟨rfl, hP, hK⟩ := hv
  have hx := B.exec
  have hb := B.bytes
  have hr := B.returns
  have hts := atoms_spec (ws := wsX7_leaning) B.pre
  have hown : s.vm.findClass RX7 = some m.cls := findClass_of_methodNamed B.named
  have hlocks := B.notSynchronized
  have hin : ∀ q ∈ wsX70, q ∈ wsX7_leaning := by decide +kernel
  have hl := lv_entry ([.ref (ad 0), .int a1]) (n := 4) (Nat.le_of_ble_eq_true rfl)
  rw [lg_entry_eq]
  generalize (lg_sl ([.ref (ad 0), .int a1]) ++ List.replicate (4 - (lg_sl ([.ref (ad 0), .int a1])).length) Slot.unset).toArray = ls at hl ⊢
  have hl : lv_has ls 4 [(0, .ref (ad 0)), (1, .int a1)] := hl
  suffices hgo : ∀ (H : Heap) (locs : List Loc), va_P D vwCl (RM cI ad w) H → va_S (RA ad) s.heap H locs → W p l e (headSpec wsX7_leaning rmX7_leaning).room s m [Value.ref (ad 0), Value.int a1].toArray below meth c H locs 0 0 (MQ below (va_Qi (fun r u => (r, u) = sX7_leaning w a1 ∧ R7I u) (fun u t => va_P D vwCl (RM cI ad u) t.heap) (RA ad)) [Value.ref (ad 0), Value.int a1].toArray s 0 0 (RA ad)) (F0 m 0 ls []) from hgo s.heap [] hP va_S.rf
  intro H locs hP hS
  have E := sX7_leaning.eq_1 w a1
  refine lv_iload_n hx hb dX7_leaning_0 rfl (lv_at hl 1 rfl) ?_
  refine vp_callSi (va_Run.run (va_runS (As := [.int a1]) (rest := []) ⟨hx, hb, hml, hown, hts⟩ (kX7_isWay l a1) (va_cwS 1 hts gX7_leaning_X7_isWay rfl rfl rfl mdX7_isWay ⟨Nat.le_of_ble_eq_true rfl, Nat.le_of_ble_eq_true rfl⟩) s_pre rfl rfl hl.1 rfl (lv_room (Nat.le_of_ble_eq_true rfl)) dX7_leaning_1 ⟨Nat.zero_le _, Nat.zero_le _⟩)) (fun r_1 hr_1 => ?_)
  obtain ⟨rfl, hz_1⟩ := hr_1
  refine lv_if_ne (tgt := 13) hx hb dX7_leaning_4 (by decide) (fun c_2 => ?_) (fun c_2 => ?_)
  · have E := E.trans (if_neg c_2)
    have fc_2 := i_ne c_2
    rw [q_0] at fc_2
    have gc_2 := fX7_isWay c_2
    refine lv_bipush (v := (-5)) hx hb dX7_leaning_13 (by decide +kernel) ?_
    refine lv_istore_n (lv' := [(2, .int (-5)), (0, .ref (ad 0)), (1, .int a1)]) hx hb dX7_leaning_15 rfl hl (by decide) rfl (fun ls hl => ?_)
    refine lv_bipush (v := (-4)) hx hb dX7_leaning_16 (by decide +kernel) ?_
    refine lv_istore_n (lv' := [(3, .int (-4)), (2, .int (-5)), (0, .ref (ad 0)), (1, .int a1)]) hx hb dX7_leaning_18 rfl hl (by decide) rfl (fun ls hl => ?_)
    have L_19 : ∀ (n_19 : Nat) (x2_19 : Int32) (x3_19 : Int32) (w_19 : Nat → Nat → Int32) (H : Heap) (locs : List Loc) (ls : Array Slot), ((-4 ≤ x3_19.toInt) ∧ (x3_19.toInt ≤ 6)) → (6 - x3_19.toInt < (n_19 : Int)) → R7I w_19 → va_P D vwCl (RM cI ad w_19) H → va_S (RA ad) s.heap H locs → lv_has ls 4 [(3, .int x3_19), (2, .int x2_19), (0, .ref (ad 0)), (1, .int a1)] → sX7_leaning w a1 = sX7_leaning_19 a1 n_19 x2_19 x3_19 w_19 → W p l e (headSpec wsX7_leaning rmX7_leaning).room s m [Value.ref (ad 0), Value.int a1].toArray below meth c H locs 0 0 (MQ below (va_Qi (fun r u => (r, u) = sX7_leaning w a1 ∧ R7I u) (fun u t => va_P D vwCl (RM cI ad u) t.heap) (RA ad)) [Value.ref (ad 0), Value.int a1].toArray s 0 0 (RA ad)) (F0 m 19 ls []) := by
      intro n_19
      induction n_19 with
      | zero =>
        intro x2_19 x3_19 w_19 H locs ls hinv hm
        obtain ⟨v0_19, v1_19⟩ := hinv
        exact absurd hm (by omega)
      | succ n_19 ih_19 =>
        intro x2_19 x3_19 w_19 H locs ls hinv hm_19 hI_19 hP hS hl E
        obtain ⟨v0_19, v1_19⟩ := hinv
        have E := E.trans (sX7_leaning_19.eq_2 ..)
        refine lv_iload_n hx hb dX7_leaning_19 rfl (lv_at hl 0 rfl) ?_
        refine lv_bipush (v := 6) hx hb dX7_leaning_20 (by decide +kernel) ?_
        refine lv_icmp_ge (tgt := 52) hx hb dX7_leaning_22 (by decide) (fun c_3 => ?_) (fun c_3 => ?_)
        · have E := E.trans (if_pos c_3)
          have fc_3 := i_le c_3
          rw [q_6] at fc_3
          refine lv_iload_n hx hb dX7_leaning_52 rfl (lv_at hl 1 rfl) ?_
          exact W.iret (v := x2_19) hx hb hr (fun t ht hW => ⟨⟨_, w_19, rfl, ⟨E.symm, hI_19⟩, by show va_P _ _ _ t.heap; rw [ht]; exact hP⟩, hS.F ht⟩) hS.2.2 dX7_leaning_53
        · have E := E.trans (if_neg c_3)
          have fc_3 := i_nle c_3
          rw [q_6] at fc_3
          refine lv_aload_n hx hb dX7_leaning_25 rfl (lv_at hl 2 rfl) ?_
          refine lv_iload_n hx hb dX7_leaning_26 rfl (lv_at hl 3 rfl) ?_
          refine lv_iload_n hx hb dX7_leaning_27 rfl (lv_at hl 0 rfl) ?_
          refine va_calli (va_runV (As := [.int a1, .int x3_19]) (rest := []) ⟨hx, hb, hml, hown, hts⟩ (kX7_marginBy l D cI ad w_19 a1 x3_19 hd hI_19 (by omega) (by omega)) (cwV 2 hts gX7_leaning_X7_marginBy rfl rfl rfl mdX7_marginBy ⟨Nat.le_of_ble_eq_true rfl, Nat.le_of_ble_eq_true rfl⟩) (r7_pre hK hP) rfl rfl hl.1 rfl (lv_room (Nat.le_of_ble_eq_true rfl)) dX7_leaning_28 ⟨Nat.zero_le _, Nat.zero_le _⟩) hS (fun _ _ h => h) (fun _ h => h) (fun rn_4 wn_4 t H locs ht hvm hp_4 hB hz hfr hS => ?_)
          have hP : va_P D vwCl (RM cI ad wn_4) H := ht ▸ hB
          obtain ⟨hp_4, hI_4⟩ := hp_4
          have E := bnd_e E hp_4
          refine lv_aload_n hx hb dX7_leaning_31 rfl (lv_at hl 2 rfl) ?_
          refine lv_iload_n hx hb dX7_leaning_32 rfl (lv_at hl 3 rfl) ?_
          refine lv_iload_n hx hb dX7_leaning_33 rfl (lv_at hl 1 rfl) ?_
          refine va_calli (va_runV (As := [.int a1, .int x2_19]) (rest := [.int rn_4]) ⟨hx, hb, hml, hown, hts⟩ (kX7_marginBy l D cI ad wn_4 a1 x2_19 hd hI_4 (by omega) (by omega)) (cwV 2 hts gX7_leaning_X7_marginBy rfl rfl rfl mdX7_marginBy ⟨Nat.le_of_ble_eq_true rfl, Nat.le_of_ble_eq_true rfl⟩) (r7_pre hK hP) rfl rfl hl.1 rfl (lv_room (Nat.le_of_ble_eq_true rfl)) dX7_leaning_34 ⟨Nat.zero_le _, Nat.zero_le _⟩) hS (fun _ _ h => h) (fun _ h => h) (fun rn_5 wn_5 t H locs ht hvm hp_5 hB hz hfr hS => ?_)
          have hP : va_P D vwCl (RM cI ad wn_5) H := ht ▸ hB
          obtain ⟨hp_5, hI_5⟩ := hp_5
          have E := bnd_e E hp_5
          refine lv_icmp_le (tgt := 44) hx hb dX7_leaning_37 (by decide) (fun c_6 => ?_) (fun c_6 => ?_)
          · have E := E.trans (if_pos c_6)
            have fc_6 := i_le c_6
            refine lv_iload_n hx hb dX7_leaning_44 rfl (lv_at hl 1 rfl) ?_
            refine lv_istore_n (lv' := [(2, .int x2_19), (3, .int x3_19), (0, .ref (ad 0)), (1, .int a1)]) hx hb dX7_leaning_45 rfl hl (by decide) rfl (fun ls hl => ?_)
            refine lv_iinc (v := x3_19 + 1) (lv' := [(3, .int (x3_19 + 1)), (2, .int x2_19), (0, .ref (ad 0)), (1, .int a1)]) hx hb dX7_leaning_46 hl (k := 1) rfl rfl (by decide) rfl (fun ls hl => ?_)
            refine lv_goto (tgt := 19) hx hb dX7_leaning_49 (by decide) ?_
            try have := i_addr (a := x3_19) (b := 1) (n := 1) q_1 (by omega) (by omega)
            exact ih_19 x2_19 (x3_19 + 1) wn_5 H locs ls ⟨by omega, by omega⟩ (by omega) hI_5 hP hS (lv_sub hl [0, 1, 2, 3] rfl) E
          · have E := E.trans (if_neg c_6)
            have fc_6 := i_nle c_6
            refine lv_iload_n hx hb dX7_leaning_40 rfl (lv_at hl 0 rfl) ?_
            refine lv_goto (tgt := 45) hx hb dX7_leaning_41 (by decide) ?_
            refine lv_istore_n (lv' := [(2, .int x3_19), (3, .int x3_19), (0, .ref (ad 0)), (1, .int a1)]) hx hb dX7_leaning_45 rfl hl (by decide) rfl (fun ls hl => ?_)
            refine lv_iinc (v := x3_19 + 1) (lv' := [(3, .int (x3_19 + 1)), (2, .int x3_19), (0, .ref (ad 0)), (1, .int a1)]) hx hb dX7_leaning_46 hl (k := 1) rfl rfl (by decide) rfl (fun ls hl => ?_)
            refine lv_goto (tgt := 19) hx hb dX7_leaning_49 (by decide) ?_
            try have := i_addr (a := x3_19) (b := 1) (n := 1) q_1 (by omega) (by omega)
            exact ih_19 x3_19 (x3_19 + 1) wn_5 H locs ls ⟨by omega, by omega⟩ (by omega) hI_5 hP hS (lv_sub hl [0, 1, 2, 3] rfl) E
    have := q_m4
    exact L_19 11 ((-5)) ((-4)) w H locs ls ⟨by omega, by omega⟩ (by omega) hI hP hS (lv_sub hl [0, 1, 2, 3] rfl) E
  · have E := E.trans (if_pos c_2)
    have fc_2 := i_eq c_2
    rw [q_0] at fc_2
    refine lv_aload_n hx hb dX7_leaning_7 rfl (lv_at hl 0 rfl) ?_
    refine lv_iconst (v := (-1)) hx hb dX7_leaning_8 (by decide) ?_
    have := q_m1
    refine va_calli (va_runV (As := [.int (-1)]) (rest := []) ⟨hx, hb, hml, hown, hts⟩ (kX7_lower l D cI ad w (-1) hd hI (by omega) (by omega)) (cwV 1 hts gX7_leaning_X7_lower rfl rfl rfl mdX7_lower ⟨Nat.le_of_ble_eq_true rfl, Nat.le_of_ble_eq_true rfl⟩) (r7_pre hK hP) rfl rfl hl.1 rfl (lv_room (Nat.le_of_ble_eq_true rfl)) dX7_leaning_9 ⟨Nat.zero_le _, Nat.zero_le _⟩) hS (fun _ _ h => h) (fun _ h => h) (fun rn_7 wn_7 t H locs ht hvm hp_7 hB hz hfr hS => ?_)
    have hP : va_P D vwCl (RM cI ad wn_7) H := ht ▸ hB
    obtain ⟨hp_7, hI_7⟩ := hp_7
    have E := bnd_e E hp_7
    exact W.iret (v := rn_7) hx hb hr (fun t ht hW => ⟨⟨_, wn_7, rfl, ⟨E.symm, hI_7⟩, by show va_P _ _ _ t.heap; rw [ht]; exact hP⟩, hS.F ht⟩) hS.2.2 dX7_leaning_12
abbrev rmX7_enough : Room := { frames := 7, cells := 0, slots := 0, locals := 159 }
set_option maxHeartbeats 4000000 in
set_option maxRecDepth 100000 in
theorem kX7_enough (l : Launch) (D : va_G) (cI : ClassId) (ad : Nat → Nat) (w : Nat → Nat → Int32) (a1 : Int32) (hd : RD ad) (hI : R7I w)  : Met l yX7_enough wsX7_enough rmX7_enough (va_Pc [Value.ref (ad 0), Value.int a1] (fun U => va_P D vwCl (RM cI ad w) U.heap ∧ va_K D vwCl [(cI, .int)] U)) (va_Qi (fun r u => (r, u) = sX7_enough w a1 ∧ R7I u) (fun u t => va_P D vwCl (RM cI ad u) t.heap) (RA ad)) 0 0 (RA ad) := by
  refine Met.ofW (cc := cX7_enough) (maxL := 5) (ret := (some .int)) (by decide) rfl ?_
  intro p e s m args below meth c s₁ B hml hv
  obtain ⟨rfl, hP, hK⟩ := hv
  have hx := B.exec
  have hb := B.bytes
  have hr := B.returns
  have hts := atoms_spec (ws := wsX7_enough) B.pre
  have hown : s.vm.findClass RX7 = some m.cls := findClass_of_methodNamed B.named
  have hlocks := B.notSynchronized
  have hin : ∀ q ∈ wsX70, q ∈ wsX7_enough := by decide +kernel
  have hl := lv_entry ([.ref (ad 0), .int a1]) (n := 5) (Nat.le_of_ble_eq_true rfl)
  rw [lg_entry_eq]
  generalize (lg_sl ([.ref (ad 0), .int a1]) ++ List.replicate (5 - (lg_sl ([.ref (ad 0), .int a1])).length) Slot.unset).toArray = ls at hl ⊢
  have hl : lv_has ls 5 [(0, .ref (ad 0)), (1, .int a1)] := hl
  suffices hgo : ∀ (H : Heap) (locs : List Loc), va_P D vwCl (RM cI ad w) H → va_S (RA ad) s.heap H locs → W p l e (headSpec wsX7_enough rmX7_enough).room s m [Value.ref (ad 0), Value.int a1].toArray below meth c H locs 0 0 (MQ below (va_Qi (fun r u => (r, u) = sX7_enough w a1 ∧ R7I u) (fun u t => va_P D vwCl (RM cI ad u) t.heap) (RA ad)) [Value.ref (ad 0), Value.int a1].toArray s 0 0 (RA ad)) (F0 m 0 ls []) from hgo s.heap [] hP va_S.rf
  intro H locs hP hS
  have E := sX7_enough.eq_1 w a1
  refine lv_iload_n hx hb dX7_enough_0 rfl (lv_at hl 1 rfl) ?_
  refine vp_callSi (va_Run.run (va_runS (As := [.int a1]) (rest := []) ⟨hx, hb, hml, hown, hts⟩ (kX7_isWay l a1) (va_cwS 1 hts gX7_enough_X7_isWay rfl rfl rfl mdX7_isWay ⟨Nat.le_of_ble_eq_true rfl, Nat.le_of_ble_eq_true rfl⟩) s_pre rfl rfl hl.1 rfl (lv_room (Nat.le_of_ble_eq_true rfl)) dX7_enough_1 ⟨Nat.zero_le _, Nat.zero_le _⟩)) (fun r_1 hr_1 => ?_)
  obtain ⟨rfl, hz_1⟩ := hr_1
  refine lv_if_ne (tgt := 13) hx hb dX7_enough_4 (by decide) (fun c_2 => ?_) (fun c_2 => ?_)
  · have E := E.trans (if_neg c_2)
    have fc_2 := i_ne c_2
    rw [q_0] at fc_2
    have gc_2 := fX7_isWay c_2
    refine lv_aload_n hx hb dX7_enough_13 rfl (lv_at hl 0 rfl) ?_
    refine g7_setting hx hb hts hin hown hK hP (hts (.fieldLink RX7 13 "LoadedForTheLaneModel" "setting" "[I") (by decide +kernel)) dX7_enough_14 ?_
    refine lv_iconst (v := 0) hx hb dX7_enough_17 (by decide) ?_
    have ix_3 : vp_in 0 4 := by unfold vp_in; decide
    refine l7_setting (j := 0) hx hb hK hP ix_3 (by decide) dX7_enough_18 ?_
    refine lv_istore_n (lv' := [(2, .int (w 1 0)), (0, .ref (ad 0)), (1, .int a1)]) hx hb dX7_enough_19 rfl hl (by decide) rfl (fun ls hl => ?_)
    refine lv_bipush (v := (-9)) hx hb dX7_enough_20 (by decide +kernel) ?_
    refine lv_istore_n (lv' := [(3, .int (-9)), (2, .int (w 1 0)), (0, .ref (ad 0)), (1, .int a1)]) hx hb dX7_enough_22 rfl hl (by decide) rfl (fun ls hl => ?_)
    refine lv_iconst (v := 0) hx hb dX7_enough_23 (by decide) ?_
    refine lv_istore (lv' := [(4, .int 0), (3, .int (-9)), (2, .int (w 1 0)), (0, .ref (ad 0)), (1, .int a1)]) hx hb dX7_enough_24 hl (by decide) rfl (fun ls hl => ?_)
    have L_26 : ∀ (n_26 : Nat) (x3_26 : Int32) (x4_26 : Int32) (w_26 : Nat → Nat → Int32) (H : Heap) (locs : List Loc) (ls : Array Slot), ((0 ≤ x4_26.toInt) ∧ (x4_26.toInt ≤ 6)) → (6 - x4_26.toInt < (n_26 : Int)) → R7I w_26 → va_P D vwCl (RM cI ad w_26) H → va_S (RA ad) s.heap H locs → lv_has ls 5 [(4, .int x4_26), (3, .int x3_26), (2, .int (w 1 0)), (0, .ref (ad 0)), (1, .int a1)] → sX7_enough w a1 = sX7_enough_26 w a1 n_26 x3_26 x4_26 w_26 → W p l e (headSpec wsX7_enough rmX7_enough).room s m [Value.ref (ad 0), Value.int a1].toArray below meth c H locs 0 0 (MQ below (va_Qi (fun r u => (r, u) = sX7_enough w a1 ∧ R7I u) (fun u t => va_P D vwCl (RM cI ad u) t.heap) (RA ad)) [Value.ref (ad 0), Value.int a1].toArray s 0 0 (RA ad)) (F0 m 26 ls []) := by
      intro n_26
      induction n_26 with
      | zero =>
        intro x3_26 x4_26 w_26 H locs ls hinv hm
        obtain ⟨v0_26, v1_26⟩ := hinv
        exact absurd hm (by omega)
      | succ n_26 ih_26 =>
        intro x3_26 x4_26 w_26 H locs ls hinv hm_26 hI_26 hP hS hl E
        obtain ⟨v0_26, v1_26⟩ := hinv
        have E := E.trans (sX7_enough_26.eq_2 ..)
        refine lv_iload hx hb dX7_enough_26 (lv_at hl 0 rfl) ?_
        refine lv_bipush (v := 6) hx hb dX7_enough_28 (by decide +kernel) ?_
        refine lv_icmp_ge (tgt := 67) hx hb dX7_enough_30 (by decide) (fun c_4 => ?_) (fun c_4 => ?_)
        · have E := E.trans (if_pos c_4)
          have fc_4 := i_le c_4
          rw [q_6] at fc_4
          refine lv_aload_n hx hb dX7_enough_67 rfl (lv_at hl 3 rfl) ?_
          refine g7_setting hx hb hts hin hown hK hP (hts (.fieldLink RX7 13 "LoadedForTheLaneModel" "setting" "[I") (by decide +kernel)) dX7_enough_68 ?_
          refine lv_iconst (v := 0) hx hb dX7_enough_71 (by decide) ?_
          refine lv_iload_n hx hb dX7_enough_72 rfl (lv_at hl 2 rfl) ?_
          have ix_5 : vp_in 0 4 := by unfold vp_in; decide
          refine a7_setting (j := 0) hx hb hK hP hd hS ix_5 (by decide) dX7_enough_73 (fun H locs hP hS => ?_)
          obtain ⟨wn_5, hwn_5⟩ : ∃ x, x = st w_26 1 0 (w 1 0) := ⟨_, rfl⟩
          rw [← hwn_5] at hP
          have E := bns_e E hwn_5
          have hI_5 : R7I wn_5 := by rw [hwn_5]; exact R7I_put_setting hI_26
          refine lv_iload_n hx hb dX7_enough_74 rfl (lv_at hl 1 rfl) ?_
          exact W.iret (v := x3_26) hx hb hr (fun t ht hW => ⟨⟨_, wn_5, rfl, ⟨E.symm, hI_5⟩, by show va_P _ _ _ t.heap; rw [ht]; exact hP⟩, hS.F ht⟩) hS.2.2 dX7_enough_75
        · have E := E.trans (if_neg c_4)
          have fc_4 := i_nle c_4
          rw [q_6] at fc_4
          refine lv_iload_n hx hb dX7_enough_33 rfl (lv_at hl 1 rfl) ?_
          refine lv_if_ge (tgt := 67) hx hb dX7_enough_34 (by decide) (fun c_6 => ?_) (fun c_6 => ?_)
          · have E := E.trans (if_pos c_6)
            have fc_6 := i_le c_6
            rw [q_0] at fc_6
            refine lv_aload_n hx hb dX7_enough_67 rfl (lv_at hl 3 rfl) ?_
            refine g7_setting hx hb hts hin hown hK hP (hts (.fieldLink RX7 13 "LoadedForTheLaneModel" "setting" "[I") (by decide +kernel)) dX7_enough_68 ?_
            refine lv_iconst (v := 0) hx hb dX7_enough_71 (by decide) ?_
            refine lv_iload_n hx hb dX7_enough_72 rfl (lv_at hl 2 rfl) ?_
            have ix_7 : vp_in 0 4 := by unfold vp_in; decide
            refine a7_setting (j := 0) hx hb hK hP hd hS ix_7 (by decide) dX7_enough_73 (fun H locs hP hS => ?_)
            obtain ⟨wn_7, hwn_7⟩ : ∃ x, x = st w_26 1 0 (w 1 0) := ⟨_, rfl⟩
            rw [← hwn_7] at hP
            have E := bns_e E hwn_7
            have hI_7 : R7I wn_7 := by rw [hwn_7]; exact R7I_put_setting hI_26
            refine lv_iload_n hx hb dX7_enough_74 rfl (lv_at hl 1 rfl) ?_
            exact W.iret (v := x3_26) hx hb hr (fun t ht hW => ⟨⟨_, wn_7, rfl, ⟨E.symm, hI_7⟩, by show va_P _ _ _ t.heap; rw [ht]; exact hP⟩, hS.F ht⟩) hS.2.2 dX7_enough_75
          · have E := E.trans (if_neg c_6)
            have fc_6 := i_nle c_6
            rw [q_0] at fc_6
            refine lv_aload_n hx hb dX7_enough_37 rfl (lv_at hl 3 rfl) ?_
            refine g7_setting hx hb hts hin hown hK hP (hts (.fieldLink RX7 13 "LoadedForTheLaneModel" "setting" "[I") (by decide +kernel)) dX7_enough_38 ?_
            refine lv_iconst (v := 0) hx hb dX7_enough_41 (by decide) ?_
            refine lv_iload hx hb dX7_enough_42 (lv_at hl 0 rfl) ?_
            have ix_8 : vp_in 0 4 := by unfold vp_in; decide
            refine a7_setting (j := 0) hx hb hK hP hd hS ix_8 (by decide) dX7_enough_44 (fun H locs hP hS => ?_)
            obtain ⟨wn_8, hwn_8⟩ : ∃ x, x = st w_26 1 0 x4_26 := ⟨_, rfl⟩
            rw [← hwn_8] at hP
            have E := bns_e E hwn_8
            have hI_8 : R7I wn_8 := by rw [hwn_8]; exact R7I_put_setting hI_26
            refine lv_aload_n hx hb dX7_enough_45 rfl (lv_at hl 3 rfl) ?_
            refine lv_iload_n hx hb dX7_enough_46 rfl (lv_at hl 4 rfl) ?_
            refine va_calli (va_runV (As := [.int a1]) (rest := []) ⟨hx, hb, hml, hown, hts⟩ (kX7_doesHold l D cI ad wn_8 a1 hd hI_8 (by omega) (by omega)) (cwV 1 hts gX7_enough_X7_doesHold rfl rfl rfl mdX7_doesHold ⟨Nat.le_of_ble_eq_true rfl, Nat.le_of_ble_eq_true rfl⟩) (r7_pre hK hP) rfl rfl hl.1 rfl (lv_room (Nat.le_of_ble_eq_true rfl)) dX7_enough_47 ⟨Nat.zero_le _, Nat.zero_le _⟩) hS (fun _ _ h => h) (fun _ h => h) (fun rn_9 wn_9 t H locs ht hvm hp_9 hB hz hfr hS => ?_)
            have hP : va_P D vwCl (RM cI ad wn_9) H := ht ▸ hB
            obtain ⟨hp_9, hz_9, hI_9, hq0_9⟩ := hp_9
            have E := bnd_e E hp_9
            have hzi_9 := z_int hz_9
            refine lv_if_eq (tgt := 58) hx hb dX7_enough_50 (by decide) (fun c_10 => ?_) (fun c_10 => ?_)
            · have E := E.trans (if_pos c_10)
              have fc_10 := i_eq c_10
              rw [q_0] at fc_10
              refine lv_bipush (v := (-9)) hx hb dX7_enough_58 (by decide +kernel) ?_
              refine lv_istore_n (lv' := [(3, .int (-9)), (4, .int x4_26), (2, .int (w 1 0)), (0, .ref (ad 0)), (1, .int a1)]) hx hb dX7_enough_60 rfl hl (by decide) rfl (fun ls hl => ?_)
              refine lv_iinc (v := x4_26 + 1) (lv' := [(4, .int (x4_26 + 1)), (3, .int (-9)), (2, .int (w 1 0)), (0, .ref (ad 0)), (1, .int a1)]) hx hb dX7_enough_61 hl (k := 1) rfl rfl (by decide) rfl (fun ls hl => ?_)
              refine lv_goto (tgt := 26) hx hb dX7_enough_64 (by decide) ?_
              try have := i_addr (a := x4_26) (b := 1) (n := 1) q_1 (by omega) (by omega)
              exact ih_26 ((-9)) (x4_26 + 1) wn_9 H locs ls ⟨by omega, by omega⟩ (by omega) hI_9 hP hS (lv_sub hl [0, 1, 2, 3, 4] rfl) E
            · have E := E.trans (if_neg c_10)
              have fc_10 := i_ne c_10
              rw [q_0] at fc_10
              refine lv_iload hx hb dX7_enough_53 (lv_at hl 0 rfl) ?_
              refine lv_goto (tgt := 60) hx hb dX7_enough_55 (by decide) ?_
              refine lv_istore_n (lv' := [(3, .int x4_26), (4, .int x4_26), (2, .int (w 1 0)), (0, .ref (ad 0)), (1, .int a1)]) hx hb dX7_enough_60 rfl hl (by decide) rfl (fun ls hl => ?_)
              refine lv_iinc (v := x4_26 + 1) (lv' := [(4, .int (x4_26 + 1)), (3, .int x4_26), (2, .int (w 1 0)), (0, .ref (ad 0)), (1, .int a1)]) hx hb dX7_enough_61 hl (k := 1) rfl rfl (by decide) rfl (fun ls hl => ?_)
              refine lv_goto (tgt := 26) hx hb dX7_enough_64 (by decide) ?_
              try have := i_addr (a := x4_26) (b := 1) (n := 1) q_1 (by omega) (by omega)
              exact ih_26 x4_26 (x4_26 + 1) wn_9 H locs ls ⟨by omega, by omega⟩ (by omega) hI_9 hP hS (lv_sub hl [0, 1, 2, 3, 4] rfl) E
    have := q_0
    exact L_26 7 ((-9)) 0 w H locs ls ⟨by omega, by omega⟩ (by omega) hI hP hS (lv_sub hl [0, 1, 2, 3, 4] rfl) E
  · have E := E.trans (if_pos c_2)
    have fc_2 := i_eq c_2
    rw [q_0] at fc_2
    refine lv_aload_n hx hb dX7_enough_7 rfl (lv_at hl 0 rfl) ?_
    refine lv_iconst (v := (-1)) hx hb dX7_enough_8 (by decide) ?_
    have := q_m1
    refine va_calli (va_runV (As := [.int (-1)]) (rest := []) ⟨hx, hb, hml, hown, hts⟩ (kX7_no l D cI ad w (-1) hd hI (by omega) (by omega)) (cwV 1 hts gX7_enough_X7_no rfl rfl rfl mdX7_no ⟨Nat.le_of_ble_eq_true rfl, Nat.le_of_ble_eq_true rfl⟩) (r7_pre hK hP) rfl rfl hl.1 rfl (lv_room (Nat.le_of_ble_eq_true rfl)) dX7_enough_9 ⟨Nat.zero_le _, Nat.zero_le _⟩) hS (fun _ _ h => h) (fun _ h => h) (fun rn_11 wn_11 t H locs ht hvm hp_11 hB hz hfr hS => ?_)
    have hP : va_P D vwCl (RM cI ad wn_11) H := ht ▸ hB
    obtain ⟨hp_11, hI_11⟩ := hp_11
    have E := bnd_e E hp_11
    exact W.iret (v := rn_11) hx hb hr (fun t ht hW => ⟨⟨_, wn_11, rfl, ⟨E.symm, hI_11⟩, by show va_P _ _ _ t.heap; rw [ht]; exact hP⟩, hS.F ht⟩) hS.2.2 dX7_enough_12
abbrev rmX7_homeBy : Room := { frames := 7, cells := 0, slots := 0, locals := 159 }
set_option maxHeartbeats 4000000 in
set_option maxRecDepth 100000 in
theorem kX7_homeBy (l : Launch) (D : va_G) (cI : ClassId) (ad : Nat → Nat) (w : Nat → Nat → Int32) (a1 : Int32) (hd : RD ad) (hI : R7I w) (h1 : 0 ≤ a1.toInt) (h2 : a1.toInt < 2) : Met l yX7_homeBy wsX7_homeBy rmX7_homeBy (va_Pc [Value.ref (ad 0), Value.int a1] (fun U => va_P D vwCl (RM cI ad w) U.heap ∧ va_K D vwCl [(cI, .int)] U)) (va_Qi (fun r u => (r, u) = sX7_homeBy w a1 ∧ R7I u) (fun u t => va_P D vwCl (RM cI ad u) t.heap) (RA ad)) 0 0 (RA ad) := by
  refine Met.ofW (cc := cX7_homeBy) (maxL := 2) (ret := (some .int)) (by decide) rfl ?_
  intro p e s m args below meth c s₁ B hml hv
  obtain ⟨rfl, hP, hK⟩ := hv
  have hx := B.exec
  have hb := B.bytes
  have hr := B.returns
  have hts := atoms_spec (ws := wsX7_homeBy) B.pre
  have hown : s.vm.findClass RX7 = some m.cls := findClass_of_methodNamed B.named
  have hlocks := B.notSynchronized
  have hin : ∀ q ∈ wsX70, q ∈ wsX7_homeBy := by decide +kernel
  have hl := lv_entry ([.ref (ad 0), .int a1]) (n := 2) (Nat.le_of_ble_eq_true rfl)
  rw [lg_entry_eq]
  generalize (lg_sl ([.ref (ad 0), .int a1]) ++ List.replicate (2 - (lg_sl ([.ref (ad 0), .int a1])).length) Slot.unset).toArray = ls at hl ⊢
  have hl : lv_has ls 2 [(0, .ref (ad 0)), (1, .int a1)] := hl
  suffices hgo : ∀ (H : Heap) (locs : List Loc), va_P D vwCl (RM cI ad w) H → va_S (RA ad) s.heap H locs → W p l e (headSpec wsX7_homeBy rmX7_homeBy).room s m [Value.ref (ad 0), Value.int a1].toArray below meth c H locs 0 0 (MQ below (va_Qi (fun r u => (r, u) = sX7_homeBy w a1 ∧ R7I u) (fun u t => va_P D vwCl (RM cI ad u) t.heap) (RA ad)) [Value.ref (ad 0), Value.int a1].toArray s 0 0 (RA ad)) (F0 m 0 ls []) from hgo s.heap [] hP va_S.rf
  intro H locs hP hS
  have E := sX7_homeBy.eq_1 w a1
  refine lv_aload_n hx hb dX7_homeBy_0 rfl (lv_at hl 0 rfl) ?_
  refine lv_iload_n hx hb dX7_homeBy_1 rfl (lv_at hl 1 rfl) ?_
  refine va_calli (va_runV (As := [.int a1]) (rest := []) ⟨hx, hb, hml, hown, hts⟩ (kX7_doesHold l D cI ad w a1 hd hI (by omega) (by omega)) (cwV 1 hts gX7_homeBy_X7_doesHold rfl rfl rfl mdX7_doesHold ⟨Nat.le_of_ble_eq_true rfl, Nat.le_of_ble_eq_true rfl⟩) (r7_pre hK hP) rfl rfl hl.1 rfl (lv_room (Nat.le_of_ble_eq_true rfl)) dX7_homeBy_2 ⟨Nat.zero_le _, Nat.zero_le _⟩) hS (fun _ _ h => h) (fun _ h => h) (fun rn_1 wn_1 t H locs ht hvm hp_1 hB hz hfr hS => ?_)
  have hP : va_P D vwCl (RM cI ad wn_1) H := ht ▸ hB
  obtain ⟨hp_1, hz_1, hI_1, hq0_1⟩ := hp_1
  have E := bnd_e E hp_1
  have hzi_1 := z_int hz_1
  refine lv_if_eq (tgt := 16) hx hb dX7_homeBy_5 (by decide) (fun c_2 => ?_) (fun c_2 => ?_)
  · have E := E.trans (if_pos c_2)
    have fc_2 := i_eq c_2
    rw [q_0] at fc_2
    refine lv_bipush (v := (-9)) hx hb dX7_homeBy_16 (by decide +kernel) ?_
    exact W.iret (v := (-9)) hx hb hr (fun t ht hW => ⟨⟨_, wn_1, rfl, ⟨E.symm, hI_1⟩, by show va_P _ _ _ t.heap; rw [ht]; exact hP⟩, hS.F ht⟩) hS.2.2 dX7_homeBy_18
  · have E := E.trans (if_neg c_2)
    have fc_2 := i_ne c_2
    rw [q_0] at fc_2
    refine lv_aload_n hx hb dX7_homeBy_8 rfl (lv_at hl 0 rfl) ?_
    refine lv_iload_n hx hb dX7_homeBy_9 rfl (lv_at hl 1 rfl) ?_
    refine vp_callSi (va_Run.run (va_runV (As := [.int a1]) (rest := []) ⟨hx, hb, hml, hown, hts⟩ (kX7_minutesOf l D cI ad wn_1 a1 hI_1 (by omega) (by omega)) (cwV 1 hts gX7_homeBy_X7_minutesOf rfl rfl rfl mdX7_minutesOf ⟨Nat.le_of_ble_eq_true rfl, Nat.le_of_ble_eq_true rfl⟩) (r7_pre hK hP) rfl rfl hl.1 rfl (lv_room (Nat.le_of_ble_eq_true rfl)) dX7_homeBy_10 ⟨Nat.zero_le _, Nat.zero_le _⟩)) (fun r_3 hr_3 => ?_)
    subst hr_3
    refine lv_goto (tgt := 18) hx hb dX7_homeBy_13 (by decide) ?_
    exact W.iret (v := (sX7_minutesOf wn_1 a1)) hx hb hr (fun t ht hW => ⟨⟨_, wn_1, rfl, ⟨E.symm, hI_1⟩, by show va_P _ _ _ t.heap; rw [ht]; exact hP⟩, hS.F ht⟩) hS.2.2 dX7_homeBy_18
abbrev rmX7_home : Room := { frames := 8, cells := 0, slots := 0, locals := 180 }
set_option maxHeartbeats 4000000 in
set_option maxRecDepth 100000 in
theorem kX7_home (l : Launch) (D : va_G) (cI : ClassId) (ad : Nat → Nat) (w : Nat → Nat → Int32) (a1 : Int32) (hd : RD ad) (hI : R7I w)  : Met l yX7_home wsX7_home rmX7_home (va_Pc [Value.ref (ad 0), Value.int a1] (fun U => va_P D vwCl (RM cI ad w) U.heap ∧ va_K D vwCl [(cI, .int)] U)) (va_Qi (fun r u => (r, u) = sX7_home w a1 ∧ R7I u) (fun u t => va_P D vwCl (RM cI ad u) t.heap) (RA ad)) 0 0 (RA ad) := by
  refine Met.ofW (cc := cX7_home) (maxL := 2) (ret := (some .int)) (by decide) rfl ?_
  intro p e s m args below meth c s₁ B hml hv
  obtain ⟨rfl, hP, hK⟩ := hv
  have hx := B.exec
  have hb := B.bytes
  have hr := B.returns
  have hts := atoms_spec (ws := wsX7_home) B.pre
  have hown : s.vm.findClass RX7 = some m.cls := findClass_of_methodNamed B.named
  have hlocks := B.notSynchronized
  have hin : ∀ q ∈ wsX70, q ∈ wsX7_home := by decide +kernel
  have hl := lv_entry ([.ref (ad 0), .int a1]) (n := 2) (Nat.le_of_ble_eq_true rfl)
  rw [lg_entry_eq]
  generalize (lg_sl ([.ref (ad 0), .int a1]) ++ List.replicate (2 - (lg_sl ([.ref (ad 0), .int a1])).length) Slot.unset).toArray = ls at hl ⊢
  have hl : lv_has ls 2 [(0, .ref (ad 0)), (1, .int a1)] := hl
  suffices hgo : ∀ (H : Heap) (locs : List Loc), va_P D vwCl (RM cI ad w) H → va_S (RA ad) s.heap H locs → W p l e (headSpec wsX7_home rmX7_home).room s m [Value.ref (ad 0), Value.int a1].toArray below meth c H locs 0 0 (MQ below (va_Qi (fun r u => (r, u) = sX7_home w a1 ∧ R7I u) (fun u t => va_P D vwCl (RM cI ad u) t.heap) (RA ad)) [Value.ref (ad 0), Value.int a1].toArray s 0 0 (RA ad)) (F0 m 0 ls []) from hgo s.heap [] hP va_S.rf
  intro H locs hP hS
  have E := sX7_home.eq_1 w a1
  refine lv_iload_n hx hb dX7_home_0 rfl (lv_at hl 1 rfl) ?_
  refine vp_callSi (va_Run.run (va_runS (As := [.int a1]) (rest := []) ⟨hx, hb, hml, hown, hts⟩ (kX7_isWay l a1) (va_cwS 1 hts gX7_home_X7_isWay rfl rfl rfl mdX7_isWay ⟨Nat.le_of_ble_eq_true rfl, Nat.le_of_ble_eq_true rfl⟩) s_pre rfl rfl hl.1 rfl (lv_room (Nat.le_of_ble_eq_true rfl)) dX7_home_1 ⟨Nat.zero_le _, Nat.zero_le _⟩)) (fun r_1 hr_1 => ?_)
  obtain ⟨rfl, hz_1⟩ := hr_1
  refine lv_if_eq (tgt := 15) hx hb dX7_home_4 (by decide) (fun c_2 => ?_) (fun c_2 => ?_)
  · have E := E.trans (if_pos c_2)
    have fc_2 := i_eq c_2
    rw [q_0] at fc_2
    refine lv_aload_n hx hb dX7_home_15 rfl (lv_at hl 0 rfl) ?_
    refine lv_iconst (v := (-1)) hx hb dX7_home_16 (by decide) ?_
    have := q_m1
    refine va_calli (va_runV (As := [.int (-1)]) (rest := []) ⟨hx, hb, hml, hown, hts⟩ (kX7_no l D cI ad w (-1) hd hI (by omega) (by omega)) (cwV 1 hts gX7_home_X7_no rfl rfl rfl mdX7_no ⟨Nat.le_of_ble_eq_true rfl, Nat.le_of_ble_eq_true rfl⟩) (r7_pre hK hP) rfl rfl hl.1 rfl (lv_room (Nat.le_of_ble_eq_true rfl)) dX7_home_17 ⟨Nat.zero_le _, Nat.zero_le _⟩) hS (fun _ _ h => h) (fun _ h => h) (fun rn_3 wn_3 t H locs ht hvm hp_3 hB hz hfr hS => ?_)
    have hP : va_P D vwCl (RM cI ad wn_3) H := ht ▸ hB
    obtain ⟨hp_3, hI_3⟩ := hp_3
    have E := bnd_e E hp_3
    exact W.iret (v := rn_3) hx hb hr (fun t ht hW => ⟨⟨_, wn_3, rfl, ⟨E.symm, hI_3⟩, by show va_P _ _ _ t.heap; rw [ht]; exact hP⟩, hS.F ht⟩) hS.2.2 dX7_home_20
  · have E := E.trans (if_neg c_2)
    have fc_2 := i_ne c_2
    rw [q_0] at fc_2
    have gc_2 := fX7_isWay c_2
    refine lv_aload_n hx hb dX7_home_7 rfl (lv_at hl 0 rfl) ?_
    refine lv_iload_n hx hb dX7_home_8 rfl (lv_at hl 1 rfl) ?_
    refine va_calli (va_runV (As := [.int a1]) (rest := []) ⟨hx, hb, hml, hown, hts⟩ (kX7_homeBy l D cI ad w a1 hd hI (by omega) (by omega)) (cwV 1 hts gX7_home_X7_homeBy rfl rfl rfl mdX7_homeBy ⟨Nat.le_of_ble_eq_true rfl, Nat.le_of_ble_eq_true rfl⟩) (r7_pre hK hP) rfl rfl hl.1 rfl (lv_room (Nat.le_of_ble_eq_true rfl)) dX7_home_9 ⟨Nat.zero_le _, Nat.zero_le _⟩) hS (fun _ _ h => h) (fun _ h => h) (fun rn_4 wn_4 t H locs ht hvm hp_4 hB hz hfr hS => ?_)
    have hP : va_P D vwCl (RM cI ad wn_4) H := ht ▸ hB
    obtain ⟨hp_4, hI_4⟩ := hp_4
    have E := bnd_e E hp_4
    refine lv_goto (tgt := 20) hx hb dX7_home_12 (by decide) ?_
    exact W.iret (v := rn_4) hx hb hr (fun t ht hW => ⟨⟨_, wn_4, rfl, ⟨E.symm, hI_4⟩, by show va_P _ _ _ t.heap; rw [ht]; exact hP⟩, hS.F ht⟩) hS.2.2 dX7_home_20
abbrev rmX7_which : Room := { frames := 8, cells := 0, slots := 0, locals := 180 }
set_option maxHeartbeats 4000000 in
set_option maxRecDepth 100000 in
theorem kX7_which (l : Launch) (D : va_G) (cI : ClassId) (ad : Nat → Nat) (w : Nat → Nat → Int32) (hd : RD ad) (hI : R7I w)  : Met l yX7_which wsX7_which rmX7_which (va_Pc [Value.ref (ad 0)] (fun U => va_P D vwCl (RM cI ad w) U.heap ∧ va_K D vwCl [(cI, .int)] U)) (va_Qi (fun r u => (r, u) = sX7_which w ∧ R7I u) (fun u t => va_P D vwCl (RM cI ad u) t.heap) (RA ad)) 0 0 (RA ad) := by
  refine Met.ofW (cc := cX7_which) (maxL := 3) (ret := (some .int)) (by decide) rfl ?_
  intro p e s m args below meth c s₁ B hml hv
  obtain ⟨rfl, hP, hK⟩ := hv
  have hx := B.exec
  have hb := B.bytes
  have hr := B.returns
  have hts := atoms_spec (ws := wsX7_which) B.pre
  have hown : s.vm.findClass RX7 = some m.cls := findClass_of_methodNamed B.named
  have hlocks := B.notSynchronized
  have hin : ∀ q ∈ wsX70, q ∈ wsX7_which := by decide +kernel
  have hl := lv_entry ([.ref (ad 0)]) (n := 3) (Nat.le_of_ble_eq_true rfl)
  rw [lg_entry_eq]
  generalize (lg_sl ([.ref (ad 0)]) ++ List.replicate (3 - (lg_sl ([.ref (ad 0)])).length) Slot.unset).toArray = ls at hl ⊢
  have hl : lv_has ls 3 [(0, .ref (ad 0))] := hl
  suffices hgo : ∀ (H : Heap) (locs : List Loc), va_P D vwCl (RM cI ad w) H → va_S (RA ad) s.heap H locs → W p l e (headSpec wsX7_which rmX7_which).room s m [Value.ref (ad 0)].toArray below meth c H locs 0 0 (MQ below (va_Qi (fun r u => (r, u) = sX7_which w ∧ R7I u) (fun u t => va_P D vwCl (RM cI ad u) t.heap) (RA ad)) [Value.ref (ad 0)].toArray s 0 0 (RA ad)) (F0 m 0 ls []) from hgo s.heap [] hP va_S.rf
  intro H locs hP hS
  have E := sX7_which.eq_1 w
  refine lv_aload_n hx hb dX7_which_0 rfl (lv_at hl 0 rfl) ?_
  refine lv_iconst (v := 0) hx hb dX7_which_1 (by decide) ?_
  have := q_0
  refine va_calli (va_runV (As := [.int 0]) (rest := []) ⟨hx, hb, hml, hown, hts⟩ (kX7_homeBy l D cI ad w 0 hd hI (by omega) (by omega)) (cwV 1 hts gX7_which_X7_homeBy rfl rfl rfl mdX7_homeBy ⟨Nat.le_of_ble_eq_true rfl, Nat.le_of_ble_eq_true rfl⟩) (r7_pre hK hP) rfl rfl hl.1 rfl (lv_room (Nat.le_of_ble_eq_true rfl)) dX7_which_2 ⟨Nat.zero_le _, Nat.zero_le _⟩) hS (fun _ _ h => h) (fun _ h => h) (fun rn_1 wn_1 t H locs ht hvm hp_1 hB hz hfr hS => ?_)
  have hP : va_P D vwCl (RM cI ad wn_1) H := ht ▸ hB
  obtain ⟨hp_1, hI_1⟩ := hp_1
  have E := bnd_e E hp_1
  refine lv_istore_n (lv' := [(1, .int rn_1), (0, .ref (ad 0))]) hx hb dX7_which_5 rfl hl (by decide) rfl (fun ls hl => ?_)
  refine lv_aload_n hx hb dX7_which_6 rfl (lv_at hl 1 rfl) ?_
  refine lv_iconst (v := 1) hx hb dX7_which_7 (by decide) ?_
  have := q_1
  refine va_calli (va_runV (As := [.int 1]) (rest := []) ⟨hx, hb, hml, hown, hts⟩ (kX7_homeBy l D cI ad wn_1 1 hd hI_1 (by omega) (by omega)) (cwV 1 hts gX7_which_X7_homeBy rfl rfl rfl mdX7_homeBy ⟨Nat.le_of_ble_eq_true rfl, Nat.le_of_ble_eq_true rfl⟩) (r7_pre hK hP) rfl rfl hl.1 rfl (lv_room (Nat.le_of_ble_eq_true rfl)) dX7_which_8 ⟨Nat.zero_le _, Nat.zero_le _⟩) hS (fun _ _ h => h) (fun _ h => h) (fun rn_2 wn_2 t H locs ht hvm hp_2 hB hz hfr hS => ?_)
  have hP : va_P D vwCl (RM cI ad wn_2) H := ht ▸ hB
  obtain ⟨hp_2, hI_2⟩ := hp_2
  have E := bnd_e E hp_2
  refine lv_istore_n (lv' := [(2, .int rn_2), (1, .int rn_1), (0, .ref (ad 0))]) hx hb dX7_which_11 rfl hl (by decide) rfl (fun ls hl => ?_)
  refine lv_iload_n hx hb dX7_which_12 rfl (lv_at hl 1 rfl) ?_
  refine lv_if_ge (tgt := 25) hx hb dX7_which_13 (by decide) (fun c_3 => ?_) (fun c_3 => ?_)
  · have E := E.trans (if_pos c_3)
    have fc_3 := i_le c_3
    rw [q_0] at fc_3
    refine lv_iload_n hx hb dX7_which_25 rfl (lv_at hl 1 rfl) ?_
    refine lv_if_lt (tgt := 38) hx hb dX7_which_26 (by decide) (fun c_4 => ?_) (fun c_4 => ?_)
    · have E := E.trans (if_pos c_4)
      have fc_4 := i_lt c_4
      rw [q_0] at fc_4
      refine lv_iconst (v := 1) hx hb dX7_which_38 (by decide) ?_
      refine lv_goto (tgt := 43) hx hb dX7_which_39 (by decide) ?_
      exact W.iret (v := 1) hx hb hr (fun t ht hW => ⟨⟨_, wn_2, rfl, ⟨E.symm, hI_2⟩, by show va_P _ _ _ t.heap; rw [ht]; exact hP⟩, hS.F ht⟩) hS.2.2 dX7_which_43
    · have E := E.trans (if_neg c_4)
      have fc_4 := i_nlt c_4
      rw [q_0] at fc_4
      refine lv_iload_n hx hb dX7_which_29 rfl (lv_at hl 0 rfl) ?_
      refine lv_if_lt (tgt := 42) hx hb dX7_which_30 (by decide) (fun c_5 => ?_) (fun c_5 => ?_)
      · have E := E.trans (if_pos c_5)
        have fc_5 := i_lt c_5
        rw [q_0] at fc_5
        refine lv_iconst (v := 0) hx hb dX7_which_42 (by decide) ?_
        exact W.iret (v := 0) hx hb hr (fun t ht hW => ⟨⟨_, wn_2, rfl, ⟨E.symm, hI_2⟩, by show va_P _ _ _ t.heap; rw [ht]; exact hP⟩, hS.F ht⟩) hS.2.2 dX7_which_43
      · have E := E.trans (if_neg c_5)
        have fc_5 := i_nlt c_5
        rw [q_0] at fc_5
        refine lv_iload_n hx hb dX7_which_33 rfl (lv_at hl 0 rfl) ?_
        refine lv_iload_n hx hb dX7_which_34 rfl (lv_at hl 1 rfl) ?_
        refine lv_icmp_ge (tgt := 42) hx hb dX7_which_35 (by decide) (fun c_6 => ?_) (fun c_6 => ?_)
        · have E := E.trans (if_pos c_6)
          have fc_6 := i_le c_6
          refine lv_iconst (v := 0) hx hb dX7_which_42 (by decide) ?_
          exact W.iret (v := 0) hx hb hr (fun t ht hW => ⟨⟨_, wn_2, rfl, ⟨E.symm, hI_2⟩, by show va_P _ _ _ t.heap; rw [ht]; exact hP⟩, hS.F ht⟩) hS.2.2 dX7_which_43
        · have E := E.trans (if_neg c_6)
          have fc_6 := i_nle c_6
          refine lv_iconst (v := 1) hx hb dX7_which_38 (by decide) ?_
          refine lv_goto (tgt := 43) hx hb dX7_which_39 (by decide) ?_
          exact W.iret (v := 1) hx hb hr (fun t ht hW => ⟨⟨_, wn_2, rfl, ⟨E.symm, hI_2⟩, by show va_P _ _ _ t.heap; rw [ht]; exact hP⟩, hS.F ht⟩) hS.2.2 dX7_which_43
  · have E := E.trans (if_neg c_3)
    have fc_3 := i_nle c_3
    rw [q_0] at fc_3
    refine lv_iload_n hx hb dX7_which_16 rfl (lv_at hl 0 rfl) ?_
    refine lv_if_ge (tgt := 25) hx hb dX7_which_17 (by decide) (fun c_7 => ?_) (fun c_7 => ?_)
    · have E := E.trans (if_pos c_7)
      have fc_7 := i_le c_7
      rw [q_0] at fc_7
      refine lv_iload_n hx hb dX7_which_25 rfl (lv_at hl 1 rfl) ?_
      refine lv_if_lt (tgt := 38) hx hb dX7_which_26 (by decide) (fun c_8 => ?_) (fun c_8 => ?_)
      · have E := E.trans (if_pos c_8)
        have fc_8 := i_lt c_8
        rw [q_0] at fc_8
        refine lv_iconst (v := 1) hx hb dX7_which_38 (by decide) ?_
        refine lv_goto (tgt := 43) hx hb dX7_which_39 (by decide) ?_
        exact W.iret (v := 1) hx hb hr (fun t ht hW => ⟨⟨_, wn_2, rfl, ⟨E.symm, hI_2⟩, by show va_P _ _ _ t.heap; rw [ht]; exact hP⟩, hS.F ht⟩) hS.2.2 dX7_which_43
      · have E := E.trans (if_neg c_8)
        have fc_8 := i_nlt c_8
        rw [q_0] at fc_8
        refine lv_iload_n hx hb dX7_which_29 rfl (lv_at hl 0 rfl) ?_
        refine lv_if_lt (tgt := 42) hx hb dX7_which_30 (by decide) (fun c_9 => ?_) (fun c_9 => ?_)
        · have E := E.trans (if_pos c_9)
          have fc_9 := i_lt c_9
          rw [q_0] at fc_9
          refine lv_iconst (v := 0) hx hb dX7_which_42 (by decide) ?_
          exact W.iret (v := 0) hx hb hr (fun t ht hW => ⟨⟨_, wn_2, rfl, ⟨E.symm, hI_2⟩, by show va_P _ _ _ t.heap; rw [ht]; exact hP⟩, hS.F ht⟩) hS.2.2 dX7_which_43
        · have E := E.trans (if_neg c_9)
          have fc_9 := i_nlt c_9
          rw [q_0] at fc_9
          refine lv_iload_n hx hb dX7_which_33 rfl (lv_at hl 0 rfl) ?_
          refine lv_iload_n hx hb dX7_which_34 rfl (lv_at hl 1 rfl) ?_
          refine lv_icmp_ge (tgt := 42) hx hb dX7_which_35 (by decide) (fun c_10 => ?_) (fun c_10 => ?_)
          · have E := E.trans (if_pos c_10)
            have fc_10 := i_le c_10
            refine lv_iconst (v := 0) hx hb dX7_which_42 (by decide) ?_
            exact W.iret (v := 0) hx hb hr (fun t ht hW => ⟨⟨_, wn_2, rfl, ⟨E.symm, hI_2⟩, by show va_P _ _ _ t.heap; rw [ht]; exact hP⟩, hS.F ht⟩) hS.2.2 dX7_which_43
          · have E := E.trans (if_neg c_10)
            have fc_10 := i_nle c_10
            refine lv_iconst (v := 1) hx hb dX7_which_38 (by decide) ?_
            refine lv_goto (tgt := 43) hx hb dX7_which_39 (by decide) ?_
            exact W.iret (v := 1) hx hb hr (fun t ht hW => ⟨⟨_, wn_2, rfl, ⟨E.symm, hI_2⟩, by show va_P _ _ _ t.heap; rw [ht]; exact hP⟩, hS.F ht⟩) hS.2.2 dX7_which_43
    · have E := E.trans (if_neg c_7)
      have fc_7 := i_nle c_7
      rw [q_0] at fc_7
      refine lv_bipush (v := (-9)) hx hb dX7_which_20 (by decide +kernel) ?_
      refine lv_goto (tgt := 43) hx hb dX7_which_22 (by decide) ?_
      exact W.iret (v := (-9)) hx hb hr (fun t ht hW => ⟨⟨_, wn_2, rfl, ⟨E.symm, hI_2⟩, by show va_P _ _ _ t.heap; rw [ht]; exact hP⟩, hS.F ht⟩) hS.2.2 dX7_which_43
abbrev rmX7_pitching : Room := { frames := 2, cells := 0, slots := 0, locals := 43 }
set_option maxHeartbeats 4000000 in
set_option maxRecDepth 100000 in
theorem kX7_pitching (l : Launch) (D : va_G) (cI : ClassId) (ad : Nat → Nat) (w : Nat → Nat → Int32) (a1 : Int32) (hd : RD ad) (hI : R7I w)  : Met l yX7_pitching wsX7_pitching rmX7_pitching (va_Pc [Value.ref (ad 0), Value.int a1] (fun U => va_P D vwCl (RM cI ad w) U.heap ∧ va_K D vwCl [(cI, .int)] U)) (va_Qi (fun r u => (r, u) = sX7_pitching w a1 ∧ R7I u) (fun u t => va_P D vwCl (RM cI ad u) t.heap) (RA ad)) 0 0 (RA ad) := by
  refine Met.ofW (cc := cX7_pitching) (maxL := 3) (ret := (some .int)) (by decide) rfl ?_
  intro p e s m args below meth c s₁ B hml hv
  obtain ⟨rfl, hP, hK⟩ := hv
  have hx := B.exec
  have hb := B.bytes
  have hr := B.returns
  have hts := atoms_spec (ws := wsX7_pitching) B.pre
  have hown : s.vm.findClass RX7 = some m.cls := findClass_of_methodNamed B.named
  have hlocks := B.notSynchronized
  have hin : ∀ q ∈ wsX70, q ∈ wsX7_pitching := by decide +kernel
  have hl := lv_entry ([.ref (ad 0), .int a1]) (n := 3) (Nat.le_of_ble_eq_true rfl)
  rw [lg_entry_eq]
  generalize (lg_sl ([.ref (ad 0), .int a1]) ++ List.replicate (3 - (lg_sl ([.ref (ad 0), .int a1])).length) Slot.unset).toArray = ls at hl ⊢
  have hl : lv_has ls 3 [(0, .ref (ad 0)), (1, .int a1)] := hl
  suffices hgo : ∀ (H : Heap) (locs : List Loc), va_P D vwCl (RM cI ad w) H → va_S (RA ad) s.heap H locs → W p l e (headSpec wsX7_pitching rmX7_pitching).room s m [Value.ref (ad 0), Value.int a1].toArray below meth c H locs 0 0 (MQ below (va_Qi (fun r u => (r, u) = sX7_pitching w a1 ∧ R7I u) (fun u t => va_P D vwCl (RM cI ad u) t.heap) (RA ad)) [Value.ref (ad 0), Value.int a1].toArray s 0 0 (RA ad)) (F0 m 0 ls []) from hgo s.heap [] hP va_S.rf
  intro H locs hP hS
  have E := sX7_pitching.eq_1 w a1
  refine lv_iload_n hx hb dX7_pitching_0 rfl (lv_at hl 1 rfl) ?_
  refine lv_iconst (v := 1) hx hb dX7_pitching_1 (by decide) ?_
  refine lv_bipush (v := 9) hx hb dX7_pitching_2 (by decide +kernel) ?_
  refine vp_callSi (va_Run.run (va_runS (As := [.int a1, .int 1, .int 9]) (rest := []) ⟨hx, hb, hml, hown, hts⟩ (kX7_bound l a1 1 9) (va_cwS 3 hts gX7_pitching_X7_bound rfl rfl rfl mdX7_bound ⟨Nat.le_of_ble_eq_true rfl, Nat.le_of_ble_eq_true rfl⟩) s_pre rfl rfl hl.1 rfl (lv_room (Nat.le_of_ble_eq_true rfl)) dX7_pitching_4 ⟨Nat.zero_le _, Nat.zero_le _⟩)) (fun r_1 hr_1 => ?_)
  subst hr_1
  have rf_1 := rX7_bound a1 1 9
  have := q_1
  have := q_9
  refine lv_istore_n (lv' := [(2, .int (sX7_bound a1 1 9)), (0, .ref (ad 0)), (1, .int a1)]) hx hb dX7_pitching_7 rfl hl (by decide) rfl (fun ls hl => ?_)
  refine lv_iload_n hx hb dX7_pitching_8 rfl (lv_at hl 0 rfl) ?_
  refine lv_if_eq (tgt := 20) hx hb dX7_pitching_9 (by decide) (fun c_2 => ?_) (fun c_2 => ?_)
  · have E := E.trans (if_pos c_2)
    have fc_2 := i_eq c_2
    rw [q_0] at fc_2
    refine lv_aload_n hx hb dX7_pitching_20 rfl (lv_at hl 1 rfl) ?_
    refine lv_iload_n hx hb dX7_pitching_21 rfl (lv_at hl 2 rfl) ?_
    refine vp_callSi (va_Run.run (va_runV (As := [.int a1]) (rest := []) ⟨hx, hb, hml, hown, hts⟩ (kX7_pitchMinutes l D cI ad w a1 hI (by omega)) (cwV 1 hts gX7_pitching_X7_pitchMinutes rfl rfl rfl mdX7_pitchMinutes ⟨Nat.le_of_ble_eq_true rfl, Nat.le_of_ble_eq_true rfl⟩) (r7_pre hK hP) rfl rfl hl.1 rfl (lv_room (Nat.le_of_ble_eq_true rfl)) dX7_pitching_22 ⟨Nat.zero_le _, Nat.zero_le _⟩)) (fun r_3 hr_3 => ?_)
    subst hr_3
    exact W.iret (v := (sX7_pitchMinutes w a1)) hx hb hr (fun t ht hW => ⟨⟨_, w, rfl, ⟨E.symm, hI⟩, by show va_P _ _ _ t.heap; rw [ht]; exact hP⟩, hS.F ht⟩) hS.2.2 dX7_pitching_25
  · have E := E.trans (if_neg c_2)
    have fc_2 := i_ne c_2
    rw [q_0] at fc_2
    refine lv_aload_n hx hb dX7_pitching_12 rfl (lv_at hl 1 rfl) ?_
    refine lv_iload_n hx hb dX7_pitching_13 rfl (lv_at hl 0 rfl) ?_
    refine va_calli (va_runV (As := [.int (sX7_bound a1 1 9)]) (rest := []) ⟨hx, hb, hml, hown, hts⟩ (kX7_no l D cI ad w (sX7_bound a1 1 9) hd hI (by omega) (by omega)) (cwV 1 hts gX7_pitching_X7_no rfl rfl rfl mdX7_no ⟨Nat.le_of_ble_eq_true rfl, Nat.le_of_ble_eq_true rfl⟩) (r7_pre hK hP) rfl rfl hl.1 rfl (lv_room (Nat.le_of_ble_eq_true rfl)) dX7_pitching_14 ⟨Nat.zero_le _, Nat.zero_le _⟩) hS (fun _ _ h => h) (fun _ h => h) (fun rn_4 wn_4 t H locs ht hvm hp_4 hB hz hfr hS => ?_)
    have hP : va_P D vwCl (RM cI ad wn_4) H := ht ▸ hB
    obtain ⟨hp_4, hI_4⟩ := hp_4
    have E := bnd_e E hp_4
    refine lv_goto (tgt := 25) hx hb dX7_pitching_17 (by decide) ?_
    exact W.iret (v := rn_4) hx hb hr (fun t ht hW => ⟨⟨_, wn_4, rfl, ⟨E.symm, hI_4⟩, by show va_P _ _ _ t.heap; rw [ht]; exact hP⟩, hS.F ht⟩) hS.2.2 dX7_pitching_25
abbrev rmX7_holdsPitched : Room := { frames := 7, cells := 0, slots := 0, locals := 159 }
set_option maxHeartbeats 4000000 in
set_option maxRecDepth 100000 in
theorem kX7_holdsPitched (l : Launch) (D : va_G) (cI : ClassId) (ad : Nat → Nat) (w : Nat → Nat → Int32) (a1 : Int32) (a2 : Int32) (hd : RD ad) (hI : R7I w) (h1 : 0 ≤ a1.toInt) (h2 : a1.toInt < 2) : Met l yX7_holdsPitched wsX7_holdsPitched rmX7_holdsPitched (va_Pc [Value.ref (ad 0), Value.int a1, Value.int a2] (fun U => va_P D vwCl (RM cI ad w) U.heap ∧ va_K D vwCl [(cI, .int)] U)) (va_Qi (fun r u => (r, u) = sX7_holdsPitched w a1 a2 ∧ (r = 0 ∨ r = 1) ∧ R7I u) (fun u t => va_P D vwCl (RM cI ad u) t.heap) (RA ad)) 0 0 (RA ad) := by
  refine Met.ofW (cc := cX7_holdsPitched) (maxL := 4) (ret := (some .boolean)) (by decide) rfl ?_
  intro p e s m args below meth c s₁ B hml hv
  obtain ⟨rfl, hP, hK⟩ := hv
  have hx := B.exec
  have hb := B.bytes
  have hr := B.returns
  have hts := atoms_spec (ws := wsX7_holdsPitched) B.pre
  have hown : s.vm.findClass RX7 = some m.cls := findClass_of_methodNamed B.named
  have hlocks := B.notSynchronized
  have hin : ∀ q ∈ wsX70, q ∈ wsX7_holdsPitched := by decide +kernel
  have hl := lv_entry ([.ref (ad 0), .int a1, .int a2]) (n := 4) (Nat.le_of_ble_eq_true rfl)
  rw [lg_entry_eq]
  generalize (lg_sl ([.ref (ad 0), .int a1, .int a2]) ++ List.replicate (4 - (lg_sl ([.ref (ad 0), .int a1, .int a2])).length) Slot.unset).toArray = ls at hl ⊢
  have hl : lv_has ls 4 [(0, .ref (ad 0)), (1, .int a1), (2, .int a2)] := hl
  suffices hgo : ∀ (H : Heap) (locs : List Loc), va_P D vwCl (RM cI ad w) H → va_S (RA ad) s.heap H locs → W p l e (headSpec wsX7_holdsPitched rmX7_holdsPitched).room s m [Value.ref (ad 0), Value.int a1, Value.int a2].toArray below meth c H locs 0 0 (MQ below (va_Qi (fun r u => (r, u) = sX7_holdsPitched w a1 a2 ∧ (r = 0 ∨ r = 1) ∧ R7I u) (fun u t => va_P D vwCl (RM cI ad u) t.heap) (RA ad)) [Value.ref (ad 0), Value.int a1, Value.int a2].toArray s 0 0 (RA ad)) (F0 m 0 ls []) from hgo s.heap [] hP va_S.rf
  intro H locs hP hS
  have E := sX7_holdsPitched.eq_1 w a1 a2
  refine lv_aload_n hx hb dX7_holdsPitched_0 rfl (lv_at hl 0 rfl) ?_
  refine lv_iconst (v := 1) hx hb dX7_holdsPitched_1 (by decide) ?_
  refine lv_iconst (v := 1) hx hb dX7_holdsPitched_2 (by decide) ?_
  have := q_1
  refine va_callv (va_runV (As := [.int 1, .int 1]) (rest := []) ⟨hx, hb, hml, hown, hts⟩ (kX7_passesAll l D cI ad w 1 1 hd (by omega) (by omega) (Or.inr rfl)) (cwV 2 hts gX7_holdsPitched_X7_passesAll rfl rfl rfl mdX7_passesAll ⟨Nat.le_of_ble_eq_true rfl, Nat.le_of_ble_eq_true rfl⟩) (r7_pre hK hP) rfl rfl hl.1 rfl (lv_room (Nat.le_of_ble_eq_true rfl)) dX7_holdsPitched_3 ⟨Nat.zero_le _, Nat.zero_le _⟩) hS (fun _ _ h => h) (fun _ h => h) (fun wn_1 t H locs ht hvm hp_1 hB hz hfr hS => ?_)
  have hP : va_P D vwCl (RM cI ad wn_1) H := ht ▸ hB
  have E := bns_e E hp_1
  have e_1 := fun k h1 h2 h3 => (congrFun hp_1 k).trans (iX7_save (w := w) (a := 1) k h1 h2 h3)
  have hI_1 : R7I wn_1 := R7I_eq hI (e_1 10 (by decide) (by decide) (by decide)) (e_1 11 (by decide) (by decide) (by decide)) (e_1 16 (by decide) (by decide) (by decide)) (e_1 17 (by decide) (by decide) (by decide)) (e_1 18 (by decide) (by decide) (by decide)) (e_1 27 (by decide) (by decide) (by decide))
  have el_1 : (wn_1 11 0).toInt = (w 11 0).toInt := by rw [e_1 11 (by decide) (by decide) (by decide)]
  have es_1 : (wn_1 18 0).toInt = (w 18 0).toInt := by rw [e_1 18 (by decide) (by decide) (by decide)]
  have hk19 : wn_1 19 = (sX7_passesAll w 1 1) 19 := congrFun hp_1 19
  refine lv_iconst (v := 0) hx hb dX7_holdsPitched_6 (by decide) ?_
  refine lv_istore_n (lv' := [(3, .int 0), (0, .ref (ad 0)), (1, .int a1), (2, .int a2)]) hx hb dX7_holdsPitched_7 rfl hl (by decide) rfl (fun ls hl => ?_)
  have L_8 : ∀ (n_8 : Nat) (x3_8 : Int32) (w_8 : Nat → Nat → Int32) (H : Heap) (locs : List Loc) (ls : Array Slot), ((0 ≤ x3_8.toInt) ∧ (x3_8.toInt ≤ 12) ∧ (w_8 19 = (sX7_passesAll w 1 1) 19)) → (12 - x3_8.toInt < (n_8 : Int)) → R7I w_8 → va_P D vwCl (RM cI ad w_8) H → va_S (RA ad) s.heap H locs → lv_has ls 4 [(3, .int x3_8), (0, .ref (ad 0)), (1, .int a1), (2, .int a2)] → sX7_holdsPitched w a1 a2 = sX7_holdsPitched_8 a1 a2 n_8 x3_8 w_8 → W p l e (headSpec wsX7_holdsPitched rmX7_holdsPitched).room s m [Value.ref (ad 0), Value.int a1, Value.int a2].toArray below meth c H locs 0 0 (MQ below (va_Qi (fun r u => (r, u) = sX7_holdsPitched w a1 a2 ∧ (r = 0 ∨ r = 1) ∧ R7I u) (fun u t => va_P D vwCl (RM cI ad u) t.heap) (RA ad)) [Value.ref (ad 0), Value.int a1, Value.int a2].toArray s 0 0 (RA ad)) (F0 m 8 ls []) := by
    intro n_8
    induction n_8 with
    | zero =>
      intro x3_8 w_8 H locs ls hinv hm
      obtain ⟨v0_8, v1_8, v2_8⟩ := hinv
      exact absurd hm (by omega)
    | succ n_8 ih_8 =>
      intro x3_8 w_8 H locs ls hinv hm_8 hI_8 hP hS hl E
      obtain ⟨v0_8, v1_8, v2_8⟩ := hinv
      have E := E.trans (sX7_holdsPitched_8.eq_2 ..)
      have hk19 := v2_8
      refine lv_iload_n hx hb dX7_holdsPitched_8 rfl (lv_at hl 0 rfl) ?_
      refine lv_aload_n hx hb dX7_holdsPitched_9 rfl (lv_at hl 1 rfl) ?_
      refine g7_layers hx hb hts hin hown hK hP (hts (.fieldLink RX7 67 "LoadedForTheLaneModel" "layers" "I") (by decide +kernel)) dX7_holdsPitched_10 ?_
      have f_2 := R7I_layers hI_8
      refine lv_icmp_ge (tgt := 56) hx hb dX7_holdsPitched_13 (by decide) (fun c_3 => ?_) (fun c_3 => ?_)
      · have E := E.trans (if_pos c_3)
        have fc_3 := i_le c_3
        refine lv_aload_n hx hb dX7_holdsPitched_56 rfl (lv_at hl 1 rfl) ?_
        refine lv_iload_n hx hb dX7_holdsPitched_57 rfl (lv_at hl 2 rfl) ?_
        refine va_calli (va_runV (As := [.int a1]) (rest := []) ⟨hx, hb, hml, hown, hts⟩ (kX7_doesHold l D cI ad w_8 a1 hd hI_8 (by omega) (by omega)) (cwV 1 hts gX7_holdsPitched_X7_doesHold rfl rfl rfl mdX7_doesHold ⟨Nat.le_of_ble_eq_true rfl, Nat.le_of_ble_eq_true rfl⟩) (r7_pre hK hP) rfl rfl hl.1 rfl (lv_room (Nat.le_of_ble_eq_true rfl)) dX7_holdsPitched_58 ⟨Nat.zero_le _, Nat.zero_le _⟩) hS (fun _ _ h => h) (fun _ h => h) (fun rn_4 wn_4 t H locs ht hvm hp_4 hB hz hfr hS => ?_)
        have hP : va_P D vwCl (RM cI ad wn_4) H := ht ▸ hB
        obtain ⟨hp_4, hz_4, hI_4, hq0_4⟩ := hp_4
        have E := bnd_e E hp_4
        have hzi_4 := z_int hz_4
        have ft4_layers : (wn_4 11 0).toInt = (w_8 11 0).toInt := by rw [hq0_4 11 (by decide) (by decide)]
        have hk19 := (hq0_4 19 (by decide) (by decide)).trans hk19
        refine lv_istore_n (lv' := [(3, .int rn_4), (0, .ref (ad 0)), (1, .int a1), (2, .int a2)]) hx hb dX7_holdsPitched_61 rfl hl (by decide) rfl (fun ls hl => ?_)
        refine lv_aload_n hx hb dX7_holdsPitched_62 rfl (lv_at hl 1 rfl) ?_
        refine lv_iconst (v := 1) hx hb dX7_holdsPitched_63 (by decide) ?_
        refine lv_iconst (v := 0) hx hb dX7_holdsPitched_64 (by decide) ?_
        have := q_1
        have := q_0
        refine va_callv (va_runV (As := [.int 1, .int 0]) (rest := []) ⟨hx, hb, hml, hown, hts⟩ (kX7_passesAll l D cI ad wn_4 1 0 hd (by omega) (by omega) (Or.inl rfl)) (cwV 2 hts gX7_holdsPitched_X7_passesAll rfl rfl rfl mdX7_passesAll ⟨Nat.le_of_ble_eq_true rfl, Nat.le_of_ble_eq_true rfl⟩) (r7_pre hK hP) rfl rfl hl.1 rfl (lv_room (Nat.le_of_ble_eq_true rfl)) dX7_holdsPitched_65 ⟨Nat.zero_le _, Nat.zero_le _⟩) hS (fun _ _ h => h) (fun _ h => h) (fun wn_5 t H locs ht hvm hp_5 hB hz hfr hS => ?_)
        have hP : va_P D vwCl (RM cI ad wn_5) H := ht ▸ hB
        have E := bns_e E hp_5
        have hI_5 : R7I wn_5 := by rw [show wn_5 = _ from hp_5]; exact iX7_restore hI hI_4 hk19
        refine lv_iload_n hx hb dX7_holdsPitched_68 rfl (lv_at hl 0 rfl) ?_
        exact W.zret (ty := .boolean) (v := rn_4) hx hb hr (z_nar hz_4) (fun t ht hW => ⟨⟨_, wn_5, rfl, ⟨E.symm, hz_4, hI_5⟩, by show va_P _ _ _ t.heap; rw [ht]; exact hP⟩, hS.F ht⟩) hS.2.2 dX7_holdsPitched_69
      · have E := E.trans (if_neg c_3)
        have fc_3 := i_nle c_3
        refine lv_iload_n hx hb dX7_holdsPitched_16 rfl (lv_at hl 3 rfl) ?_
        refine lv_aload_n hx hb dX7_holdsPitched_17 rfl (lv_at hl 1 rfl) ?_
        refine g7_setting hx hb hts hin hown hK hP (hts (.fieldLink RX7 13 "LoadedForTheLaneModel" "setting" "[I") (by decide +kernel)) dX7_holdsPitched_18 ?_
        refine lv_iconst (v := 1) hx hb dX7_holdsPitched_21 (by decide) ?_
        have ix_6 : vp_in 1 4 := by unfold vp_in; decide
        refine l7_setting (j := 1) hx hb hK hP ix_6 (by decide) dX7_holdsPitched_22 ?_
        refine lv_icmp_le (tgt := 56) hx hb dX7_holdsPitched_23 (by decide) (fun c_7 => ?_) (fun c_7 => ?_)
        · have E := E.trans (if_pos c_7)
          have fc_7 := i_le c_7
          refine lv_aload_n hx hb dX7_holdsPitched_56 rfl (lv_at hl 1 rfl) ?_
          refine lv_iload_n hx hb dX7_holdsPitched_57 rfl (lv_at hl 2 rfl) ?_
          refine va_calli (va_runV (As := [.int a1]) (rest := []) ⟨hx, hb, hml, hown, hts⟩ (kX7_doesHold l D cI ad w_8 a1 hd hI_8 (by omega) (by omega)) (cwV 1 hts gX7_holdsPitched_X7_doesHold rfl rfl rfl mdX7_doesHold ⟨Nat.le_of_ble_eq_true rfl, Nat.le_of_ble_eq_true rfl⟩) (r7_pre hK hP) rfl rfl hl.1 rfl (lv_room (Nat.le_of_ble_eq_true rfl)) dX7_holdsPitched_58 ⟨Nat.zero_le _, Nat.zero_le _⟩) hS (fun _ _ h => h) (fun _ h => h) (fun rn_8 wn_8 t H locs ht hvm hp_8 hB hz hfr hS => ?_)
          have hP : va_P D vwCl (RM cI ad wn_8) H := ht ▸ hB
          obtain ⟨hp_8, hz_8, hI_8, hq0_8⟩ := hp_8
          have E := bnd_e E hp_8
          have hzi_8 := z_int hz_8
          have ft8_layers : (wn_8 11 0).toInt = (w_8 11 0).toInt := by rw [hq0_8 11 (by decide) (by decide)]
          have hk19 := (hq0_8 19 (by decide) (by decide)).trans hk19
          refine lv_istore_n (lv' := [(3, .int rn_8), (0, .ref (ad 0)), (1, .int a1), (2, .int a2)]) hx hb dX7_holdsPitched_61 rfl hl (by decide) rfl (fun ls hl => ?_)
          refine lv_aload_n hx hb dX7_holdsPitched_62 rfl (lv_at hl 1 rfl) ?_
          refine lv_iconst (v := 1) hx hb dX7_holdsPitched_63 (by decide) ?_
          refine lv_iconst (v := 0) hx hb dX7_holdsPitched_64 (by decide) ?_
          have := q_1
          have := q_0
          refine va_callv (va_runV (As := [.int 1, .int 0]) (rest := []) ⟨hx, hb, hml, hown, hts⟩ (kX7_passesAll l D cI ad wn_8 1 0 hd (by omega) (by omega) (Or.inl rfl)) (cwV 2 hts gX7_holdsPitched_X7_passesAll rfl rfl rfl mdX7_passesAll ⟨Nat.le_of_ble_eq_true rfl, Nat.le_of_ble_eq_true rfl⟩) (r7_pre hK hP) rfl rfl hl.1 rfl (lv_room (Nat.le_of_ble_eq_true rfl)) dX7_holdsPitched_65 ⟨Nat.zero_le _, Nat.zero_le _⟩) hS (fun _ _ h => h) (fun _ h => h) (fun wn_9 t H locs ht hvm hp_9 hB hz hfr hS => ?_)
          have hP : va_P D vwCl (RM cI ad wn_9) H := ht ▸ hB
          have E := bns_e E hp_9
          have hI_9 : R7I wn_9 := by rw [show wn_9 = _ from hp_9]; exact iX7_restore hI hI_8 hk19
          refine lv_iload_n hx hb dX7_holdsPitched_68 rfl (lv_at hl 0 rfl) ?_
          exact W.zret (ty := .boolean) (v := rn_8) hx hb hr (z_nar hz_8) (fun t ht hW => ⟨⟨_, wn_9, rfl, ⟨E.symm, hz_8, hI_9⟩, by show va_P _ _ _ t.heap; rw [ht]; exact hP⟩, hS.F ht⟩) hS.2.2 dX7_holdsPitched_69
        · have E := E.trans (if_neg c_7)
          have fc_7 := i_nle c_7
          refine lv_aload_n hx hb dX7_holdsPitched_26 rfl (lv_at hl 1 rfl) ?_
          refine g7_badly hx hb hts hin hown hK hP (hts (.fieldLink RX7 28 "LoadedForTheLaneModel" "badly" "[I") (by decide +kernel)) dX7_holdsPitched_27 ?_
          refine lv_iload_n hx hb dX7_holdsPitched_30 rfl (lv_at hl 0 rfl) ?_
          refine lv_aload_n hx hb dX7_holdsPitched_31 rfl (lv_at hl 1 rfl) ?_
          refine g7_sheaves hx hb hts hin hown hK hP (hts (.fieldLink RX7 19 "LoadedForTheLaneModel" "sheaves" "[I") (by decide +kernel)) dX7_holdsPitched_32 ?_
          refine lv_iload_n hx hb dX7_holdsPitched_35 rfl (lv_at hl 0 rfl) ?_
          have ix_10 : vp_in x3_8 12 := ix_of (by omega) (by omega)
          refine l7_sheaves (j := x3_8.toNatClampNeg) hx hb hK hP ix_10 rfl dX7_holdsPitched_36 ?_
          refine lv_iload_n hx hb dX7_holdsPitched_37 rfl (lv_at hl 3 rfl) ?_
          refine lv_aload_n hx hb dX7_holdsPitched_38 rfl (lv_at hl 1 rfl) ?_
          refine g7_setting hx hb hts hin hown hK hP (hts (.fieldLink RX7 13 "LoadedForTheLaneModel" "setting" "[I") (by decide +kernel)) dX7_holdsPitched_39 ?_
          refine lv_iconst (v := 1) hx hb dX7_holdsPitched_42 (by decide) ?_
          have ix_11 : vp_in 1 4 := by unfold vp_in; decide
          refine l7_setting (j := 1) hx hb hK hP ix_11 (by decide) dX7_holdsPitched_43 ?_
          refine lv_isub hx hb dX7_holdsPitched_44 ?_
          refine lv_imul hx hb dX7_holdsPitched_45 ?_
          refine lv_bipush (v := 9) hx hb dX7_holdsPitched_46 (by decide +kernel) ?_
          refine lv_idiv hx hb dX7_holdsPitched_48 (by decide) ?_
          have ix_12 : vp_in x3_8 12 := ix_of (by omega) (by omega)
          refine a7_badly (j := x3_8.toNatClampNeg) hx hb hK hP hd hS ix_12 rfl dX7_holdsPitched_49 (fun H locs hP hS => ?_)
          obtain ⟨wn_12, hwn_12⟩ : ∃ x, x = st w_8 6 (x3_8.toNatClampNeg) (((w_8 3 (x3_8.toNatClampNeg)) * (a2 - (w_8 1 1))) / 9) := ⟨_, rfl⟩
          rw [← hwn_12] at hP
          have E := bns_e E hwn_12
          have ft12_layers : (wn_12 11 0).toInt = (w_8 11 0).toInt := by rw [hwn_12]; rfl
          have fv_12 : (wn_12 6 (x3_8.toNatClampNeg)).toInt = (((w_8 3 (x3_8.toNatClampNeg)) * (a2 - (w_8 1 1))) / 9 : Int32).toInt := by rw [hwn_12, st_rd]
          have hk19 := (show wn_12 19 = w_8 19 by rw [hwn_12]; rfl).trans hk19
          have hI_12 : R7I wn_12 := by rw [hwn_12]; exact R7I_put_badly hI_8
          refine lv_iinc (v := x3_8 + 1) (lv' := [(3, .int (x3_8 + 1)), (0, .ref (ad 0)), (1, .int a1), (2, .int a2)]) hx hb dX7_holdsPitched_50 hl (k := 0) rfl rfl (by decide) rfl (fun ls hl => ?_)
          refine lv_goto (tgt := 8) hx hb dX7_holdsPitched_53 (by decide) ?_
          try have := i_addr (a := x3_8) (b := 1) (n := 1) q_1 (by omega) (by omega)
          exact ih_8 (x3_8 + 1) wn_12 H locs ls ⟨by omega, by omega, hk19⟩ (by omega) hI_12 hP hS (lv_sub hl [0, 1, 2, 3] rfl) E
  have := q_0
  exact L_8 13 0 wn_1 H locs ls ⟨by omega, by omega, hk19⟩ (by omega) hI_1 hP hS (lv_sub hl [0, 1, 2, 3] rfl) E
abbrev rmX7_quick : Room := { frames := 8, cells := 0, slots := 0, locals := 182 }
set_option maxHeartbeats 4000000 in
set_option maxRecDepth 100000 in
theorem kX7_quick (l : Launch) (D : va_G) (cI : ClassId) (ad : Nat → Nat) (w : Nat → Nat → Int32) (a1 : Int32) (hd : RD ad) (hI : R7I w)  : Met l yX7_quick wsX7_quick rmX7_quick (va_Pc [Value.ref (ad 0), Value.int a1] (fun U => va_P D vwCl (RM cI ad w) U.heap ∧ va_K D vwCl [(cI, .int)] U)) (va_Qi (fun r u => (r, u) = sX7_quick w a1 ∧ R7I u) (fun u t => va_P D vwCl (RM cI ad u) t.heap) (RA ad)) 0 0 (RA ad) := by
  refine Met.ofW (cc := cX7_quick) (maxL := 4) (ret := (some .int)) (by decide) rfl ?_
  intro p e s m args below meth c s₁ B hml hv
  obtain ⟨rfl, hP, hK⟩ := hv
  have hx := B.exec
  have hb := B.bytes
  have hr := B.returns
  have hts := atoms_spec (ws := wsX7_quick) B.pre
  have hown : s.vm.findClass RX7 = some m.cls := findClass_of_methodNamed B.named
  have hlocks := B.notSynchronized
  have hin : ∀ q ∈ wsX70, q ∈ wsX7_quick := by decide +kernel
  have hl := lv_entry ([.ref (ad 0), .int a1]) (n := 4) (Nat.le_of_ble_eq_true rfl)
  rw [lg_entry_eq]
  generalize (lg_sl ([.ref (ad 0), .int a1]) ++ List.replicate (4 - (lg_sl ([.ref (ad 0), .int a1])).length) Slot.unset).toArray = ls at hl ⊢
  have hl : lv_has ls 4 [(0, .ref (ad 0)), (1, .int a1)] := hl
  suffices hgo : ∀ (H : Heap) (locs : List Loc), va_P D vwCl (RM cI ad w) H → va_S (RA ad) s.heap H locs → W p l e (headSpec wsX7_quick rmX7_quick).room s m [Value.ref (ad 0), Value.int a1].toArray below meth c H locs 0 0 (MQ below (va_Qi (fun r u => (r, u) = sX7_quick w a1 ∧ R7I u) (fun u t => va_P D vwCl (RM cI ad u) t.heap) (RA ad)) [Value.ref (ad 0), Value.int a1].toArray s 0 0 (RA ad)) (F0 m 0 ls []) from hgo s.heap [] hP va_S.rf
  intro H locs hP hS
  have E := sX7_quick.eq_1 w a1
  refine lv_iload_n hx hb dX7_quick_0 rfl (lv_at hl 1 rfl) ?_
  refine vp_callSi (va_Run.run (va_runS (As := [.int a1]) (rest := []) ⟨hx, hb, hml, hown, hts⟩ (kX7_isWay l a1) (va_cwS 1 hts gX7_quick_X7_isWay rfl rfl rfl mdX7_isWay ⟨Nat.le_of_ble_eq_true rfl, Nat.le_of_ble_eq_true rfl⟩) s_pre rfl rfl hl.1 rfl (lv_room (Nat.le_of_ble_eq_true rfl)) dX7_quick_1 ⟨Nat.zero_le _, Nat.zero_le _⟩)) (fun r_1 hr_1 => ?_)
  obtain ⟨rfl, hz_1⟩ := hr_1
  refine lv_if_ne (tgt := 13) hx hb dX7_quick_4 (by decide) (fun c_2 => ?_) (fun c_2 => ?_)
  · have E := E.trans (if_neg c_2)
    have fc_2 := i_ne c_2
    rw [q_0] at fc_2
    have gc_2 := fX7_isWay c_2
    refine lv_bipush (v := (-9)) hx hb dX7_quick_13 (by decide +kernel) ?_
    refine lv_istore_n (lv' := [(2, .int (-9)), (0, .ref (ad 0)), (1, .int a1)]) hx hb dX7_quick_15 rfl hl (by decide) rfl (fun ls hl => ?_)
    refine lv_iconst (v := 1) hx hb dX7_quick_16 (by decide) ?_
    refine lv_istore_n (lv' := [(3, .int 1), (2, .int (-9)), (0, .ref (ad 0)), (1, .int a1)]) hx hb dX7_quick_17 rfl hl (by decide) rfl (fun ls hl => ?_)
    have L_18 : ∀ (n_18 : Nat) (x2_18 : Int32) (x3_18 : Int32) (w_18 : Nat → Nat → Int32) (H : Heap) (locs : List Loc) (ls : Array Slot), ((1 ≤ x3_18.toInt) ∧ (x3_18.toInt ≤ 10) ∧ (x2_18.toInt = -9 ∨ 0 < x2_18.toInt)) → (10 - x3_18.toInt < (n_18 : Int)) → R7I w_18 → va_P D vwCl (RM cI ad w_18) H → va_S (RA ad) s.heap H locs → lv_has ls 4 [(3, .int x3_18), (2, .int x2_18), (0, .ref (ad 0)), (1, .int a1)] → sX7_quick w a1 = sX7_quick_18 a1 n_18 x2_18 x3_18 w_18 → W p l e (headSpec wsX7_quick rmX7_quick).room s m [Value.ref (ad 0), Value.int a1].toArray below meth c H locs 0 0 (MQ below (va_Qi (fun r u => (r, u) = sX7_quick w a1 ∧ R7I u) (fun u t => va_P D vwCl (RM cI ad u) t.heap) (RA ad)) [Value.ref (ad 0), Value.int a1].toArray s 0 0 (RA ad)) (F0 m 18 ls []) := by
      intro n_18
      induction n_18 with
      | zero =>
        intro x2_18 x3_18 w_18 H locs ls hinv hm
        obtain ⟨v0_18, v1_18, v2_18⟩ := hinv
        exact absurd hm (by omega)
      | succ n_18 ih_18 =>
        intro x2_18 x3_18 w_18 H locs ls hinv hm_18 hI_18 hP hS hl E
        obtain ⟨v0_18, v1_18, v2_18⟩ := hinv
        have E := E.trans (sX7_quick_18.eq_2 ..)
        refine lv_iload_n hx hb dX7_quick_18 rfl (lv_at hl 0 rfl) ?_
        refine lv_bipush (v := 10) hx hb dX7_quick_19 (by decide +kernel) ?_
        refine lv_icmp_ge (tgt := 58) hx hb dX7_quick_21 (by decide) (fun c_3 => ?_) (fun c_3 => ?_)
        · have E := E.trans (if_pos c_3)
          have fc_3 := i_le c_3
          rw [q_10] at fc_3
          refine lv_iload_n hx hb dX7_quick_58 rfl (lv_at hl 1 rfl) ?_
          exact W.iret (v := x2_18) hx hb hr (fun t ht hW => ⟨⟨_, w_18, rfl, ⟨E.symm, hI_18⟩, by show va_P _ _ _ t.heap; rw [ht]; exact hP⟩, hS.F ht⟩) hS.2.2 dX7_quick_59
        · have E := E.trans (if_neg c_3)
          have fc_3 := i_nle c_3
          rw [q_10] at fc_3
          refine lv_aload_n hx hb dX7_quick_24 rfl (lv_at hl 2 rfl) ?_
          refine lv_iload_n hx hb dX7_quick_25 rfl (lv_at hl 3 rfl) ?_
          refine lv_iload_n hx hb dX7_quick_26 rfl (lv_at hl 0 rfl) ?_
          refine va_calli (va_runV (As := [.int a1, .int x3_18]) (rest := []) ⟨hx, hb, hml, hown, hts⟩ (kX7_holdsPitched l D cI ad w_18 a1 x3_18 hd hI_18 (by omega) (by omega)) (cwV 2 hts gX7_quick_X7_holdsPitched rfl rfl rfl mdX7_holdsPitched ⟨Nat.le_of_ble_eq_true rfl, Nat.le_of_ble_eq_true rfl⟩) (r7_pre hK hP) rfl rfl hl.1 rfl (lv_room (Nat.le_of_ble_eq_true rfl)) dX7_quick_27 ⟨Nat.zero_le _, Nat.zero_le _⟩) hS (fun _ _ h => h) (fun _ h => h) (fun rn_4 wn_4 t H locs ht hvm hp_4 hB hz hfr hS => ?_)
          have hP : va_P D vwCl (RM cI ad wn_4) H := ht ▸ hB
          obtain ⟨hp_4, hz_4, hI_4⟩ := hp_4
          have E := bnd_e E hp_4
          have hzi_4 := z_int hz_4
          refine lv_if_eq (tgt := 52) hx hb dX7_quick_30 (by decide) (fun c_5 => ?_) (fun c_5 => ?_)
          · have E := E.trans (if_pos c_5)
            have fc_5 := i_eq c_5
            rw [q_0] at fc_5
            refine lv_iinc (v := x3_18 + 1) (lv' := [(3, .int (x3_18 + 1)), (2, .int x2_18), (0, .ref (ad 0)), (1, .int a1)]) hx hb dX7_quick_52 hl (k := 0) rfl rfl (by decide) rfl (fun ls hl => ?_)
            refine lv_goto (tgt := 18) hx hb dX7_quick_55 (by decide) ?_
            try have := i_addr (a := x3_18) (b := 1) (n := 1) q_1 (by omega) (by omega)
            exact ih_18 x2_18 (x3_18 + 1) wn_4 H locs ls ⟨by omega, by omega, by omega⟩ (by omega) hI_4 hP hS (lv_sub hl [0, 1, 2, 3] rfl) E
          · have E := E.trans (if_neg c_5)
            have fc_5 := i_ne c_5
            rw [q_0] at fc_5
            refine lv_iload_n hx hb dX7_quick_33 rfl (lv_at hl 1 rfl) ?_
            refine lv_if_lt (tgt := 50) hx hb dX7_quick_34 (by decide) (fun c_6 => ?_) (fun c_6 => ?_)
            · have E := E.trans (if_pos c_6)
              have fc_6 := i_lt c_6
              rw [q_0] at fc_6
              refine lv_iload_n hx hb dX7_quick_50 rfl (lv_at hl 0 rfl) ?_
              refine lv_istore_n (lv' := [(2, .int x3_18), (3, .int x3_18), (0, .ref (ad 0)), (1, .int a1)]) hx hb dX7_quick_51 rfl hl (by decide) rfl (fun ls hl => ?_)
              refine lv_iinc (v := x3_18 + 1) (lv' := [(3, .int (x3_18 + 1)), (2, .int x3_18), (0, .ref (ad 0)), (1, .int a1)]) hx hb dX7_quick_52 hl (k := 1) rfl rfl (by decide) rfl (fun ls hl => ?_)
              refine lv_goto (tgt := 18) hx hb dX7_quick_55 (by decide) ?_
              try have := i_addr (a := x3_18) (b := 1) (n := 1) q_1 (by omega) (by omega)
              exact ih_18 x3_18 (x3_18 + 1) wn_4 H locs ls ⟨by omega, by omega, by omega⟩ (by omega) hI_4 hP hS (lv_sub hl [0, 1, 2, 3] rfl) E
            · have E := E.trans (if_neg c_6)
              have fc_6 := i_nlt c_6
              rw [q_0] at fc_6
              refine lv_aload_n hx hb dX7_quick_37 rfl (lv_at hl 2 rfl) ?_
              refine lv_iload_n hx hb dX7_quick_38 rfl (lv_at hl 0 rfl) ?_
              refine vp_callSi (va_Run.run (va_runV (As := [.int x3_18]) (rest := []) ⟨hx, hb, hml, hown, hts⟩ (kX7_pitchMinutes l D cI ad wn_4 x3_18 hI_4 (by omega)) (cwV 1 hts gX7_quick_X7_pitchMinutes rfl rfl rfl mdX7_pitchMinutes ⟨Nat.le_of_ble_eq_true rfl, Nat.le_of_ble_eq_true rfl⟩) (r7_pre hK hP) rfl rfl hl.1 rfl (lv_room (Nat.le_of_ble_eq_true rfl)) dX7_quick_39 ⟨Nat.zero_le _, Nat.zero_le _⟩)) (fun r_7 hr_7 => ?_)
              subst hr_7
              refine lv_aload_n hx hb dX7_quick_42 rfl (lv_at hl 2 rfl) ?_
              refine lv_iload_n hx hb dX7_quick_43 rfl (lv_at hl 1 rfl) ?_
              refine vp_callSi (va_Run.run (va_runV (As := [.int x2_18]) (rest := [.int (sX7_pitchMinutes wn_4 x3_18)]) ⟨hx, hb, hml, hown, hts⟩ (kX7_pitchMinutes l D cI ad wn_4 x2_18 hI_4 (by omega)) (cwV 1 hts gX7_quick_X7_pitchMinutes rfl rfl rfl mdX7_pitchMinutes ⟨Nat.le_of_ble_eq_true rfl, Nat.le_of_ble_eq_true rfl⟩) (r7_pre hK hP) rfl rfl hl.1 rfl (lv_room (Nat.le_of_ble_eq_true rfl)) dX7_quick_44 ⟨Nat.zero_le _, Nat.zero_le _⟩)) (fun r_8 hr_8 => ?_)
              subst hr_8
              refine lv_icmp_ge (tgt := 52) hx hb dX7_quick_47 (by decide) (fun c_9 => ?_) (fun c_9 => ?_)
              · have E := E.trans (if_pos c_9)
                have fc_9 := i_le c_9
                refine lv_iinc (v := x3_18 + 1) (lv' := [(3, .int (x3_18 + 1)), (2, .int x2_18), (0, .ref (ad 0)), (1, .int a1)]) hx hb dX7_quick_52 hl (k := 0) rfl rfl (by decide) rfl (fun ls hl => ?_)
                refine lv_goto (tgt := 18) hx hb dX7_quick_55 (by decide) ?_
                try have := i_addr (a := x3_18) (b := 1) (n := 1) q_1 (by omega) (by omega)
                exact ih_18 x2_18 (x3_18 + 1) wn_4 H locs ls ⟨by omega, by omega, by omega⟩ (by omega) hI_4 hP hS (lv_sub hl [0, 1, 2, 3] rfl) E
              · have E := E.trans (if_neg c_9)
                have fc_9 := i_nle c_9
                refine lv_iload_n hx hb dX7_quick_50 rfl (lv_at hl 0 rfl) ?_
                refine lv_istore_n (lv' := [(2, .int x3_18), (3, .int x3_18), (0, .ref (ad 0)), (1, .int a1)]) hx hb dX7_quick_51 rfl hl (by decide) rfl (fun ls hl => ?_)
                refine lv_iinc (v := x3_18 + 1) (lv' := [(3, .int (x3_18 + 1)), (2, .int x3_18), (0, .ref (ad 0)), (1, .int a1)]) hx hb dX7_quick_52 hl (k := 1) rfl rfl (by decide) rfl (fun ls hl => ?_)
                refine lv_goto (tgt := 18) hx hb dX7_quick_55 (by decide) ?_
                try have := i_addr (a := x3_18) (b := 1) (n := 1) q_1 (by omega) (by omega)
                exact ih_18 x3_18 (x3_18 + 1) wn_4 H locs ls ⟨by omega, by omega, by omega⟩ (by omega) hI_4 hP hS (lv_sub hl [0, 1, 2, 3] rfl) E
    have := q_m9
    have := q_1
    exact L_18 10 ((-9)) 1 w H locs ls ⟨by omega, by omega, by omega⟩ (by omega) hI hP hS (lv_sub hl [0, 1, 2, 3] rfl) E
  · have E := E.trans (if_pos c_2)
    have fc_2 := i_eq c_2
    rw [q_0] at fc_2
    refine lv_aload_n hx hb dX7_quick_7 rfl (lv_at hl 0 rfl) ?_
    refine lv_iconst (v := (-1)) hx hb dX7_quick_8 (by decide) ?_
    have := q_m1
    refine va_calli (va_runV (As := [.int (-1)]) (rest := []) ⟨hx, hb, hml, hown, hts⟩ (kX7_no l D cI ad w (-1) hd hI (by omega) (by omega)) (cwV 1 hts gX7_quick_X7_no rfl rfl rfl mdX7_no ⟨Nat.le_of_ble_eq_true rfl, Nat.le_of_ble_eq_true rfl⟩) (r7_pre hK hP) rfl rfl hl.1 rfl (lv_room (Nat.le_of_ble_eq_true rfl)) dX7_quick_9 ⟨Nat.zero_le _, Nat.zero_le _⟩) hS (fun _ _ h => h) (fun _ h => h) (fun rn_10 wn_10 t H locs ht hvm hp_10 hB hz hfr hS => ?_)
    have hP : va_P D vwCl (RM cI ad wn_10) H := ht ▸ hB
    obtain ⟨hp_10, hI_10⟩ := hp_10
    have E := bnd_e E hp_10
    exact W.iret (v := rn_10) hx hb hr (fun t ht hW => ⟨⟨_, wn_10, rfl, ⟨E.symm, hI_10⟩, by show va_P _ _ _ t.heap; rw [ht]; exact hP⟩, hS.F ht⟩) hS.2.2 dX7_quick_12
