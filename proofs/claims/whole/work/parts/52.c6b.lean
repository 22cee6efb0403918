abbrev rmX6_high : Room := { frames := 6, cells := 0, slots := 0, locals := 133 }
set_option maxHeartbeats 4000000 in
set_option maxRecDepth 100000 in
theorem kX6_high (l : Launch) (D : va_G) (cI cC cQ : ClassId) (ad : Nat → Nat → Nat) (sd aK aV : Nat → Nat) (w : Nat → Nat → Nat → Int32) (a1 : Int32) (hd : MD ad) (hI : R6I w)  : Met l yX6_high wsX6_high rmX6_high (va_Pc [Value.ref (ad 5 0), Value.int a1] (fun U => va_P D vwCl (MWL cI cC cQ ad w) U.heap ∧ va_K D vwCl [(cI, .int), (cC, .char), (cQ, .object "LoadedForTheLane$Way")] U ∧ NW U ∧ SE sd (MA ad) U U.heap ∧ STR aK aV (MA ad) U U.heap)) (va_Qi (fun r u => (r, u) = sX6_high w a1 ∧ R6I u) (fun u t => va_P D vwCl (MWL cI cC cQ ad u) t.heap) (MA ad)) 0 0 (MA ad) := by
  refine Met.ofW (cc := cX6_high) (maxL := 3) (ret := (some .int)) (by decide) rfl ?_
  intro p e s m args below meth c s₁ B hml hv
  obtain ⟨rfl, hP, hK, hN, hSE, hST⟩ := hv
  have hx := B.exec
  have hb := B.bytes
  have hr := B.returns
  have hts := atoms_spec (ws := wsX6_high) B.pre
  have hown : s.vm.findClass RX6 = some m.cls := findClass_of_methodNamed B.named
  have hlocks := B.notSynchronized
  have hin4 : ∀ q ∈ wsX40, q ∈ wsX6_high := by decide +kernel
  have hin6 : ∀ q ∈ wsX60, q ∈ wsX6_high := by decide +kernel
  have hl := lv_entry ([.ref (ad 5 0), .int a1]) (n := 3) (Nat.le_of_ble_eq_true rfl)
  rw [lg_entry_eq]
  generalize (lg_sl ([.ref (ad 5 0), .int a1]) ++ List.replicate (3 - (lg_sl ([.ref (ad 5 0), .int a1])).length) Slot.unset).toArray = ls at hl ⊢
  have hl : lv_has ls 3 [(0, .ref (ad 5 0)), (1, .int a1)] := hl
  suffices hgo : ∀ (H : Heap) (locs : List Loc), va_P D vwCl (MWL cI cC cQ ad w) H → va_S (MA ad) s.heap H locs → W p l e (headSpec wsX6_high rmX6_high).room s m [Value.ref (ad 5 0), Value.int a1].toArray below meth c H locs 0 0 (MQ below (va_Qi (fun r u => (r, u) = sX6_high w a1 ∧ R6I u) (fun u t => va_P D vwCl (MWL cI cC cQ ad u) t.heap) (MA ad)) [Value.ref (ad 5 0), Value.int a1].toArray s 0 0 (MA ad)) (F0 m 0 ls []) from hgo s.heap [] hP va_S.rf
  intro H locs hP hS
  have E := sX6_high.eq_1 w a1
  refine lv_aload_n hx hb dX6_high_0 rfl (lv_at hl 0 rfl) ?_
  refine g6_wagon hx hb hts hin6 hown hK hP (hts (.fieldLink RX6 10 "LoadedForTheLane" "wagon" "LLoadedForTheLane$Wagon;") (by decide +kernel)) dX6_high_1 ?_
  refine lv_iload_n hx hb dX6_high_4 rfl (lv_at hl 1 rfl) ?_
  refine vp_callSi (va_Run.run (va_runVN (As := [.int a1]) (rest := []) ⟨hx, hb, hml, hown, hts⟩ (kX4_hasWay l D cI cC cQ (ad 0) (w 0) a1) ⟨va_cnB 1 hts gX6_high_X4_hasWay_n112 rfl rfl rfl (nm_RX6_112 hN) (hts (.initialized RX4) (by decide +kernel)) mdsX4_hasWay ⟨Nat.le_of_ble_eq_true rfl, Nat.le_of_ble_eq_true rfl⟩, hts (.instanceMethod yX4_hasWay) (by decide +kernel), hts (.selects RX4 yX4_hasWay yX4_hasWay) (by decide +kernel)⟩ (x4_pre hK (mp_0 hP) hN) rfl rfl hl.1 rfl (lv_room (Nat.le_of_ble_eq_true rfl)) dX6_high_5 ⟨Nat.zero_le _, Nat.zero_le _⟩)) (fun rn_1 hr_1 => ?_)
  obtain ⟨rfl, hz_1⟩ := hr_1
  refine lv_if_ne (tgt := 17) hx hb dX6_high_8 (by decide) (fun c_2 => ?_) (fun c_2 => ?_)
  · have E := E.trans (if_neg c_2)
    have fc_2 := i_ne c_2
    rw [q_0] at fc_2
    have gc_2 := fX4_hasWay c_2
    refine lv_aload_n hx hb dX6_high_17 rfl (lv_at hl 0 rfl) ?_
    refine g6_trial hx hb hts hin6 hown hK hP (hts (.fieldLink RX6 16 "LoadedForTheLane" "trial" "LLoadedForTheLane$Wagon;") (by decide +kernel)) dX6_high_18 ?_
    refine lv_aload_n hx hb dX6_high_21 rfl (lv_at hl 0 rfl) ?_
    refine g6_wagon hx hb hts hin6 hown hK hP (hts (.fieldLink RX6 10 "LoadedForTheLane" "wagon" "LLoadedForTheLane$Wagon;") (by decide +kernel)) dX6_high_22 ?_
    refine va_callv (va_runVN (As := [.ref (ad 0 0)]) (rest := []) ⟨hx, hb, hml, hown, hts⟩ (kX4_become l D cI cC cQ (ad 1) (ad 0) (w 1) (w 0) (mdd_10 hd) (R6I_1 hI) (R6I_0 hI)) ⟨va_cnB 1 hts gX6_high_X4_become_n66 rfl rfl rfl (nm_RX6_66 hN) (hts (.initialized RX4) (by decide +kernel)) mdsX4_become ⟨Nat.le_of_ble_eq_true rfl, Nat.le_of_ble_eq_true rfl⟩, hts (.instanceMethod yX4_become) (by decide +kernel), hts (.selects RX4 yX4_become yX4_become) (by decide +kernel)⟩ (x4b_pre rfl hK ((mp_1 hP).app (mp_0 hP)) hN) rfl rfl hl.1 rfl (lv_room (Nat.le_of_ble_eq_true rfl)) dX6_high_25 ⟨Nat.zero_le _, Nat.zero_le _⟩) hS (fun _ _ h => mab_10 h) (fun _ h => mab_10 h) (fun un_3 t H locs ht hvm hp_3 hB hz hfr hS => ?_)
    obtain ⟨hp_3, hJ_3⟩ := hp_3
    have E := bns_e E hp_3
    have hP : va_P D vwCl (MWL cI cC cQ ad (sc w 1 un_3)) H := mp_bc10 hd hP (ht ▸ hB) hfr
    obtain ⟨wn_3, hwn_3⟩ : ∃ x, x = sc w 1 un_3 := ⟨_, rfl⟩
    rw [← hwn_3] at hP
    have E := bns_e E hwn_3
    have hI_3 : R6I wn_3 := by rw [hwn_3]; exact R6I_up1 hI hJ_3
    refine lv_aload_n hx hb dX6_high_28 rfl (lv_at hl 0 rfl) ?_
    refine g6_wagon hx hb hts hin6 hown hK hP (hts (.fieldLink RX6 10 "LoadedForTheLane" "wagon" "LLoadedForTheLane$Wagon;") (by decide +kernel)) dX6_high_29 ?_
    refine g4_layersn hx hb hts hin4 hown hK (mp_0 hP) (nf_RX6_99 hN) dX6_high_32 ?_
    have f_4 := R4I_layers (R6I_0 hI_3)
    refine lv_istore_n (lv' := [(2, .int ((wn_3 0) 6 0)), (0, .ref (ad 5 0)), (1, .int a1)]) hx hb dX6_high_35 rfl hl (by decide) rfl (fun ls hl => ?_)
    have L_36 : ∀ (n_36 : Nat) (x2_36 : Int32) (w_36 : Nat → Nat → Nat → Int32) (H : Heap) (locs : List Loc) (ls : Array Slot), ((0 ≤ x2_36.toInt) ∧ (x2_36.toInt ≤ 12)) → (x2_36.toInt < (n_36 : Int)) → R6I w_36 → va_P D vwCl (MWL cI cC cQ ad w_36) H → va_S (MA ad) s.heap H locs → lv_has ls 3 [(2, .int x2_36), (0, .ref (ad 5 0)), (1, .int a1)] → sX6_high w a1 = sX6_high_36 a1 n_36 x2_36 w_36 → W p l e (headSpec wsX6_high rmX6_high).room s m [Value.ref (ad 5 0), Value.int a1].toArray below meth c H locs 0 0 (MQ below (va_Qi (fun r u => (r, u) = sX6_high w a1 ∧ R6I u) (fun u t => va_P D vwCl (MWL cI cC cQ ad u) t.heap) (MA ad)) [Value.ref (ad 5 0), Value.int a1].toArray s 0 0 (MA ad)) (F0 m 36 ls []) := by
      intro n_36
      induction n_36 with
      | zero =>
        intro x2_36 w_36 H locs ls hinv hm
        obtain ⟨v0_36, v1_36⟩ := hinv
        exact absurd hm (by omega)
      | succ n_36 ih_36 =>
        intro x2_36 w_36 H locs ls hinv hm_36 hI_36 hP hS hl E
        obtain ⟨v0_36, v1_36⟩ := hinv
        have E := E.trans (sX6_high_36.eq_2 ..)
        refine lv_iload_n hx hb dX6_high_36 rfl (lv_at hl 0 rfl) ?_
        refine lv_if_le (tgt := 67) hx hb dX6_high_37 (by decide) (fun c_5 => ?_) (fun c_5 => ?_)
        · have E := E.trans (if_pos c_5)
          have fc_5 := i_le c_5
          rw [q_0] at fc_5
          refine lv_iconst (v := 0) hx hb dX6_high_67 (by decide) ?_
          exact W.iret (v := 0) hx hb hr (fun t ht hW => ⟨⟨_, w_36, rfl, ⟨E.symm, hI_36⟩, by show va_P _ _ _ t.heap; rw [ht]; exact hP⟩, hS.F ht⟩) hS.2.2 dX6_high_68
        · have E := E.trans (if_neg c_5)
          have fc_5 := i_nle c_5
          rw [q_0] at fc_5
          refine lv_aload_n hx hb dX6_high_40 rfl (lv_at hl 1 rfl) ?_
          refine g6_trial hx hb hts hin6 hown hK hP (hts (.fieldLink RX6 16 "LoadedForTheLane" "trial" "LLoadedForTheLane$Wagon;") (by decide +kernel)) dX6_high_41 ?_
          refine lv_iload_n hx hb dX6_high_44 rfl (lv_at hl 2 rfl) ?_
          refine vp_callSi (va_Run.run (va_runVN (As := [.int a1]) (rest := []) ⟨hx, hb, hml, hown, hts⟩ (kX4_holds l D cI cC cQ (ad 1) (w_36 1) a1 (R6I_1 hI_36) (by omega) (by omega)) ⟨va_cnB 1 hts gX6_high_X4_holds_n189 rfl rfl rfl (nm_RX6_189 hN) (hts (.initialized RX4) (by decide +kernel)) mdsX4_holds ⟨Nat.le_of_ble_eq_true rfl, Nat.le_of_ble_eq_true rfl⟩, hts (.instanceMethod yX4_holds) (by decide +kernel), hts (.selects RX4 yX4_holds yX4_holds) (by decide +kernel)⟩ (x4_pre hK (mp_1 hP) hN) rfl rfl hl.1 rfl (lv_room (Nat.le_of_ble_eq_true rfl)) dX6_high_45 ⟨Nat.zero_le _, Nat.zero_le _⟩)) (fun rn_6 hr_6 => ?_)
          obtain ⟨rfl, hz_6⟩ := hr_6
          refine lv_if_eq (tgt := 53) hx hb dX6_high_48 (by decide) (fun c_7 => ?_) (fun c_7 => ?_)
          · have E := E.trans (if_pos c_7)
            have fc_7 := i_eq c_7
            rw [q_0] at fc_7
            refine lv_aload_n hx hb dX6_high_53 rfl (lv_at hl 1 rfl) ?_
            refine g6_trial hx hb hts hin6 hown hK hP (hts (.fieldLink RX6 16 "LoadedForTheLane" "trial" "LLoadedForTheLane$Wagon;") (by decide +kernel)) dX6_high_54 ?_
            refine va_calli (va_runVN (As := []) (rest := []) ⟨hx, hb, hml, hown, hts⟩ (kX4_takeTop l D cI cC cQ (ad 1) (w_36 1) (MD_1 hd) (R6I_1 hI_36)) ⟨va_cnB 0 hts gX6_high_X4_takeTop_n95 rfl rfl rfl (nm_RX6_95 hN) (hts (.initialized RX4) (by decide +kernel)) mdsX4_takeTop ⟨Nat.le_of_ble_eq_true rfl, Nat.le_of_ble_eq_true rfl⟩, hts (.instanceMethod yX4_takeTop) (by decide +kernel), hts (.selects RX4 yX4_takeTop yX4_takeTop) (by decide +kernel)⟩ (x4_pre hK (mp_1 hP) hN) rfl rfl hl.1 rfl (lv_room (Nat.le_of_ble_eq_true rfl)) dX6_high_57 ⟨Nat.zero_le _, Nat.zero_le _⟩) hS (fun _ _ h => MA_1 h) (fun _ h => MA_1 h) (fun rn_8 un_8 t H locs ht hvm hp_8 hB hz hfr hS => ?_)
            obtain ⟨hp_8, hz_8, hJ_8⟩ := hp_8
            have E := bnd_e E hp_8
            have hzi_8 := z_int hz_8
            have hP : va_P D vwCl (MWL cI cC cQ ad (sc w_36 1 un_8)) H := mp_up1 hd hP (ht ▸ hB) hfr
            obtain ⟨wn_8, hwn_8⟩ : ∃ x, x = sc w_36 1 un_8 := ⟨_, rfl⟩
            rw [← hwn_8] at hP
            have E := bns_e E hwn_8
            have hI_8 : R6I wn_8 := by rw [hwn_8]; exact R6I_up1 hI_36 hJ_8
            refine lv_pop hx hb dX6_high_60 rfl ?_
            obtain ⟨xn_9, hxn_9⟩ : ∃ y : Int32, y = x2_36 + (-1) := ⟨_, rfl⟩
            have E := bns_e E hxn_9
            have fxn_9 : xn_9.toInt = x2_36.toInt + (-1) := by rw [hxn_9]; exact i_addr (a := x2_36) (b := (-1)) (n := -1) q_m1 (by omega) (by omega)
            refine lv_iinc (v := xn_9) (lv' := [(2, .int xn_9), (0, .ref (ad 5 0)), (1, .int a1)]) hx hb dX6_high_61 hl (k := 0) rfl (by rw [hxn_9]; rfl) (by decide) rfl (fun ls hl => ?_)
            refine lv_goto (tgt := 36) hx hb dX6_high_64 (by decide) ?_
            exact ih_36 xn_9 wn_8 H locs ls ⟨by omega, by omega⟩ (by omega) hI_8 hP hS (lv_sub hl [0, 1, 2] rfl) E
          · have E := E.trans (if_neg c_7)
            have fc_7 := i_ne c_7
            rw [q_0] at fc_7
            refine lv_iload_n hx hb dX6_high_51 rfl (lv_at hl 0 rfl) ?_
            exact W.iret (v := x2_36) hx hb hr (fun t ht hW => ⟨⟨_, w_36, rfl, ⟨E.symm, hI_36⟩, by show va_P _ _ _ t.heap; rw [ht]; exact hP⟩, hS.F ht⟩) hS.2.2 dX6_high_52
    exact L_36 13 ((wn_3 0) 6 0) wn_3 H locs ls ⟨by omega, by omega⟩ (by omega) hI_3 hP hS (lv_sub hl [0, 1, 2] rfl) E
  · have E := E.trans (if_pos c_2)
    have fc_2 := i_eq c_2
    rw [q_0] at fc_2
    refine lv_aload_n hx hb dX6_high_11 rfl (lv_at hl 0 rfl) ?_
    refine lv_iconst (v := (-1)) hx hb dX6_high_12 (by decide) ?_
    refine va_calli (va_runV (As := [.int (-1)]) (rest := []) ⟨hx, hb, hml, hown, hts⟩ (kX6_refuse l D cI cC cQ ad sd aK aV w (-1) hd hI) (cwV 1 hts gX6_high_X6_refuse rfl rfl rfl mdX6_refuse ⟨Nat.le_of_ble_eq_true rfl, Nat.le_of_ble_eq_true rfl⟩) (x6_pre hK hP hN hSE hST hS) rfl rfl hl.1 rfl (lv_room (Nat.le_of_ble_eq_true rfl)) dX6_high_13 ⟨Nat.zero_le _, Nat.zero_le _⟩) hS (fun _ _ h => h) (fun _ h => h) (fun rn_10 wn_10 t H locs ht hvm hp_10 hB hz hfr hS => ?_)
    obtain ⟨hp_10, hJ_10⟩ := hp_10
    have E := bnd_e E hp_10
    have hP : va_P D vwCl (MWL cI cC cQ ad wn_10) H := ht ▸ hB
    exact W.iret (v := rn_10) hx hb hr (fun t ht hW => ⟨⟨_, wn_10, rfl, ⟨E.symm, hJ_10⟩, by show va_P _ _ _ t.heap; rw [ht]; exact hP⟩, hS.F ht⟩) hS.2.2 dX6_high_16
abbrev rmX6_more : Room := { frames := 6, cells := 0, slots := 0, locals := 133 }
set_option maxHeartbeats 4000000 in
set_option maxRecDepth 100000 in
theorem kX6_more (l : Launch) (D : va_G) (cI cC cQ : ClassId) (ad : Nat → Nat → Nat) (sd aK aV : Nat → Nat) (w : Nat → Nat → Nat → Int32) (a1 : Int32) (hd : MD ad) (hI : R6I w)  : Met l yX6_more wsX6_more rmX6_more (va_Pc [Value.ref (ad 5 0), Value.int a1] (fun U => va_P D vwCl (MWL cI cC cQ ad w) U.heap ∧ va_K D vwCl [(cI, .int), (cC, .char), (cQ, .object "LoadedForTheLane$Way")] U ∧ NW U ∧ SE sd (MA ad) U U.heap ∧ STR aK aV (MA ad) U U.heap)) (va_Qi (fun r u => (r, u) = sX6_more w a1 ∧ R6I u) (fun u t => va_P D vwCl (MWL cI cC cQ ad u) t.heap) (MA ad)) 0 0 (MA ad) := by
  refine Met.ofW (cc := cX6_more) (maxL := 3) (ret := (some .int)) (by decide) rfl ?_
  intro p e s m args below meth c s₁ B hml hv
  obtain ⟨rfl, hP, hK, hN, hSE, hST⟩ := hv
  have hx := B.exec
  have hb := B.bytes
  have hr := B.returns
  have hts := atoms_spec (ws := wsX6_more) B.pre
  have hown : s.vm.findClass RX6 = some m.cls := findClass_of_methodNamed B.named
  have hlocks := B.notSynchronized
  have hin4 : ∀ q ∈ wsX40, q ∈ wsX6_more := by decide +kernel
  have hin6 : ∀ q ∈ wsX60, q ∈ wsX6_more := by decide +kernel
  have hl := lv_entry ([.ref (ad 5 0), .int a1]) (n := 3) (Nat.le_of_ble_eq_true rfl)
  rw [lg_entry_eq]
  generalize (lg_sl ([.ref (ad 5 0), .int a1]) ++ List.replicate (3 - (lg_sl ([.ref (ad 5 0), .int a1])).length) Slot.unset).toArray = ls at hl ⊢
  have hl : lv_has ls 3 [(0, .ref (ad 5 0)), (1, .int a1)] := hl
  suffices hgo : ∀ (H : Heap) (locs : List Loc), va_P D vwCl (MWL cI cC cQ ad w) H → va_S (MA ad) s.heap H locs → W p l e (headSpec wsX6_more rmX6_more).room s m [Value.ref (ad 5 0), Value.int a1].toArray below meth c H locs 0 0 (MQ below (va_Qi (fun r u => (r, u) = sX6_more w a1 ∧ R6I u) (fun u t => va_P D vwCl (MWL cI cC cQ ad u) t.heap) (MA ad)) [Value.ref (ad 5 0), Value.int a1].toArray s 0 0 (MA ad)) (F0 m 0 ls []) from hgo s.heap [] hP va_S.rf
  intro H locs hP hS
  have E := sX6_more.eq_1 w a1
  refine lv_aload_n hx hb dX6_more_0 rfl (lv_at hl 0 rfl) ?_
  refine g6_wagon hx hb hts hin6 hown hK hP (hts (.fieldLink RX6 10 "LoadedForTheLane" "wagon" "LLoadedForTheLane$Wagon;") (by decide +kernel)) dX6_more_1 ?_
  refine lv_iload_n hx hb dX6_more_4 rfl (lv_at hl 1 rfl) ?_
  refine vp_callSi (va_Run.run (va_runVN (As := [.int a1]) (rest := []) ⟨hx, hb, hml, hown, hts⟩ (kX4_hasWay l D cI cC cQ (ad 0) (w 0) a1) ⟨va_cnB 1 hts gX6_more_X4_hasWay_n112 rfl rfl rfl (nm_RX6_112 hN) (hts (.initialized RX4) (by decide +kernel)) mdsX4_hasWay ⟨Nat.le_of_ble_eq_true rfl, Nat.le_of_ble_eq_true rfl⟩, hts (.instanceMethod yX4_hasWay) (by decide +kernel), hts (.selects RX4 yX4_hasWay yX4_hasWay) (by decide +kernel)⟩ (x4_pre hK (mp_0 hP) hN) rfl rfl hl.1 rfl (lv_room (Nat.le_of_ble_eq_true rfl)) dX6_more_5 ⟨Nat.zero_le _, Nat.zero_le _⟩)) (fun rn_1 hr_1 => ?_)
  obtain ⟨rfl, hz_1⟩ := hr_1
  refine lv_if_ne (tgt := 17) hx hb dX6_more_8 (by decide) (fun c_2 => ?_) (fun c_2 => ?_)
  · have E := E.trans (if_neg c_2)
    have fc_2 := i_ne c_2
    rw [q_0] at fc_2
    have gc_2 := fX4_hasWay c_2
    refine lv_aload_n hx hb dX6_more_17 rfl (lv_at hl 0 rfl) ?_
    refine g6_wagon hx hb hts hin6 hown hK hP (hts (.fieldLink RX6 10 "LoadedForTheLane" "wagon" "LLoadedForTheLane$Wagon;") (by decide +kernel)) dX6_more_18 ?_
    refine g4_layersn hx hb hts hin4 hown hK (mp_0 hP) (nf_RX6_99 hN) dX6_more_21 ?_
    have f_3 := R4I_layers (R6I_0 hI)
    refine lv_iconst (v := 1) hx hb dX6_more_24 (by decide) ?_
    refine lv_isub hx hb dX6_more_25 ?_
    refine lv_istore_n (lv' := [(2, .int (((w 0) 6 0) - 1)), (0, .ref (ad 5 0)), (1, .int a1)]) hx hb dX6_more_26 rfl hl (by decide) rfl (fun ls hl => ?_)
    refine lv_aload_n hx hb dX6_more_27 rfl (lv_at hl 1 rfl) ?_
    refine g6_wagon hx hb hts hin6 hown hK hP (hts (.fieldLink RX6 10 "LoadedForTheLane" "wagon" "LLoadedForTheLane$Wagon;") (by decide +kernel)) dX6_more_28 ?_
    refine lv_iload_n hx hb dX6_more_31 rfl (lv_at hl 0 rfl) ?_
    refine vp_callSi (va_Run.run (va_runVN (As := [.int (((w 0) 6 0) - 1)]) (rest := []) ⟨hx, hb, hml, hown, hts⟩ (kX4_hasLayer l D cI cC cQ (ad 0) (w 0) (((w 0) 6 0) - 1)) ⟨va_cnB 1 hts gX6_more_X4_hasLayer_n127 rfl rfl rfl (nm_RX6_127 hN) (hts (.initialized RX4) (by decide +kernel)) mdsX4_hasLayer ⟨Nat.le_of_ble_eq_true rfl, Nat.le_of_ble_eq_true rfl⟩, hts (.instanceMethod yX4_hasLayer) (by decide +kernel), hts (.selects RX4 yX4_hasLayer yX4_hasLayer) (by decide +kernel)⟩ (x4_pre hK (mp_0 hP) hN) rfl rfl hl.1 rfl (lv_room (Nat.le_of_ble_eq_true rfl)) dX6_more_32 ⟨Nat.zero_le _, Nat.zero_le _⟩)) (fun rn_4 hr_4 => ?_)
    obtain ⟨rfl, hz_4⟩ := hr_4
    refine lv_if_ne (tgt := 45) hx hb dX6_more_35 (by decide) (fun c_5 => ?_) (fun c_5 => ?_)
    · have E := E.trans (if_neg c_5)
      have fc_5 := i_ne c_5
      rw [q_0] at fc_5
      have gc_5 := fX4_hasLayer c_5
      have glc_5 := R4I_layers (R6I_0 hI)
      refine lv_aload_n hx hb dX6_more_45 rfl (lv_at hl 1 rfl) ?_
      refine g6_trial hx hb hts hin6 hown hK hP (hts (.fieldLink RX6 16 "LoadedForTheLane" "trial" "LLoadedForTheLane$Wagon;") (by decide +kernel)) dX6_more_46 ?_
      refine lv_aload_n hx hb dX6_more_49 rfl (lv_at hl 1 rfl) ?_
      refine g6_wagon hx hb hts hin6 hown hK hP (hts (.fieldLink RX6 10 "LoadedForTheLane" "wagon" "LLoadedForTheLane$Wagon;") (by decide +kernel)) dX6_more_50 ?_
      refine va_callv (va_runVN (As := [.ref (ad 0 0)]) (rest := []) ⟨hx, hb, hml, hown, hts⟩ (kX4_become l D cI cC cQ (ad 1) (ad 0) (w 1) (w 0) (mdd_10 hd) (R6I_1 hI) (R6I_0 hI)) ⟨va_cnB 1 hts gX6_more_X4_become_n66 rfl rfl rfl (nm_RX6_66 hN) (hts (.initialized RX4) (by decide +kernel)) mdsX4_become ⟨Nat.le_of_ble_eq_true rfl, Nat.le_of_ble_eq_true rfl⟩, hts (.instanceMethod yX4_become) (by decide +kernel), hts (.selects RX4 yX4_become yX4_become) (by decide +kernel)⟩ (x4b_pre rfl hK ((mp_1 hP).app (mp_0 hP)) hN) rfl rfl hl.1 rfl (lv_room (Nat.le_of_ble_eq_true rfl)) dX6_more_53 ⟨Nat.zero_le _, Nat.zero_le _⟩) hS (fun _ _ h => mab_10 h) (fun _ h => mab_10 h) (fun un_6 t H locs ht hvm hp_6 hB hz hfr hS => ?_)
      obtain ⟨hp_6, hJ_6⟩ := hp_6
      have E := bns_e E hp_6
      have hP : va_P D vwCl (MWL cI cC cQ ad (sc w 1 un_6)) H := mp_bc10 hd hP (ht ▸ hB) hfr
      obtain ⟨wn_6, hwn_6⟩ : ∃ x, x = sc w 1 un_6 := ⟨_, rfl⟩
      rw [← hwn_6] at hP
      have E := bns_e E hwn_6
      have hI_6 : R6I wn_6 := by rw [hwn_6]; exact R6I_up1 hI hJ_6
      refine lv_aload_n hx hb dX6_more_56 rfl (lv_at hl 1 rfl) ?_
      refine g6_trial hx hb hts hin6 hown hK hP (hts (.fieldLink RX6 16 "LoadedForTheLane" "trial" "LLoadedForTheLane$Wagon;") (by decide +kernel)) dX6_more_57 ?_
      refine lv_aload_n hx hb dX6_more_60 rfl (lv_at hl 1 rfl) ?_
      refine g6_wagon hx hb hts hin6 hown hK hP (hts (.fieldLink RX6 10 "LoadedForTheLane" "wagon" "LLoadedForTheLane$Wagon;") (by decide +kernel)) dX6_more_61 ?_
      refine g4_kindsn hx hb hts hin4 hown hK (mp_0 hP) (nf_RX6_133 hN) dX6_more_64 ?_
      refine lv_iload_n hx hb dX6_more_67 rfl (lv_at hl 0 rfl) ?_
      try have := i_subr (a := (w 0) 6 0) (b := 1) (n := 1) q_1 (by omega) (by omega)
      have ix_7 : vp_in (((w 0) 6 0) - 1) 12 := ix_of (by omega) (by omega)
      refine l4_kinds (j := ((((w 0) 6 0) - 1).toNatClampNeg)) hx hb hK (mp_0 hP) ix_7 rfl dX6_more_68 ?_
      refine lv_aload_n hx hb dX6_more_69 rfl (lv_at hl 1 rfl) ?_
      refine g6_wagon hx hb hts hin6 hown hK hP (hts (.fieldLink RX6 10 "LoadedForTheLane" "wagon" "LLoadedForTheLane$Wagon;") (by decide +kernel)) dX6_more_70 ?_
      refine g4_sheavesn hx hb hts hin4 hown hK (mp_0 hP) (nf_RX6_136 hN) dX6_more_73 ?_
      refine lv_iload_n hx hb dX6_more_76 rfl (lv_at hl 0 rfl) ?_
      try have := i_subr (a := (w 0) 6 0) (b := 1) (n := 1) q_1 (by omega) (by omega)
      have ix_8 : vp_in (((w 0) 6 0) - 1) 12 := ix_of (by omega) (by omega)
      refine l4_sheaves (j := ((((w 0) 6 0) - 1).toNatClampNeg)) hx hb hK (mp_0 hP) ix_8 rfl dX6_more_77 ?_
      refine lv_aload_n hx hb dX6_more_78 rfl (lv_at hl 1 rfl) ?_
      refine g6_wagon hx hb hts hin6 hown hK hP (hts (.fieldLink RX6 10 "LoadedForTheLane" "wagon" "LLoadedForTheLane$Wagon;") (by decide +kernel)) dX6_more_79 ?_
      refine g4_outsn hx hb hts hin4 hown hK (mp_0 hP) (nf_RX6_139 hN) dX6_more_82 ?_
      refine lv_iload_n hx hb dX6_more_85 rfl (lv_at hl 0 rfl) ?_
      try have := i_subr (a := (w 0) 6 0) (b := 1) (n := 1) q_1 (by omega) (by omega)
      have ix_9 : vp_in (((w 0) 6 0) - 1) 12 := ix_of (by omega) (by omega)
      refine l4_outs (j := ((((w 0) 6 0) - 1).toNatClampNeg)) hx hb hK (mp_0 hP) ix_9 rfl dX6_more_86 ?_
      refine lv_aload_n hx hb dX6_more_87 rfl (lv_at hl 1 rfl) ?_
      refine g6_wagon hx hb hts hin6 hown hK hP (hts (.fieldLink RX6 10 "LoadedForTheLane" "wagon" "LLoadedForTheLane$Wagon;") (by decide +kernel)) dX6_more_88 ?_
      refine g4_leansn hx hb hts hin4 hown hK (mp_0 hP) (nf_RX6_142 hN) dX6_more_91 ?_
      refine lv_iload_n hx hb dX6_more_94 rfl (lv_at hl 0 rfl) ?_
      try have := i_subr (a := (w 0) 6 0) (b := 1) (n := 1) q_1 (by omega) (by omega)
      have ix_10 : vp_in (((w 0) 6 0) - 1) 12 := ix_of (by omega) (by omega)
      refine l4_leans (j := ((((w 0) 6 0) - 1).toNatClampNeg)) hx hb hK (mp_0 hP) ix_10 rfl dX6_more_95 ?_
      refine va_calli (va_runVN (As := [.int ((wn_6 0) 0 ((((w 0) 6 0) - 1).toNatClampNeg)), .int ((wn_6 0) 1 ((((w 0) 6 0) - 1).toNatClampNeg)), .int ((wn_6 0) 2 ((((w 0) 6 0) - 1).toNatClampNeg)), .int ((wn_6 0) 3 ((((w 0) 6 0) - 1).toNatClampNeg))]) (rest := []) ⟨hx, hb, hml, hown, hts⟩ (kX4_lay l D cI cC cQ (ad 1) (wn_6 1) ((wn_6 0) 0 ((((w 0) 6 0) - 1).toNatClampNeg)) ((wn_6 0) 1 ((((w 0) 6 0) - 1).toNatClampNeg)) ((wn_6 0) 2 ((((w 0) 6 0) - 1).toNatClampNeg)) ((wn_6 0) 3 ((((w 0) 6 0) - 1).toNatClampNeg)) (MD_1 hd) (R6I_1 hI_6)) ⟨va_cnB 4 hts gX6_more_X4_lay_n108 rfl rfl rfl (nm_RX6_108 hN) (hts (.initialized RX4) (by decide +kernel)) mdsX4_lay ⟨Nat.le_of_ble_eq_true rfl, Nat.le_of_ble_eq_true rfl⟩, hts (.instanceMethod yX4_lay) (by decide +kernel), hts (.selects RX4 yX4_lay yX4_lay) (by decide +kernel)⟩ (x4_pre hK (mp_1 hP) hN) rfl rfl hl.1 rfl (lv_room (Nat.le_of_ble_eq_true rfl)) dX6_more_96 ⟨Nat.zero_le _, Nat.zero_le _⟩) hS (fun _ _ h => MA_1 h) (fun _ h => MA_1 h) (fun rn_11 un_11 t H locs ht hvm hp_11 hB hz hfr hS => ?_)
      obtain ⟨hp_11, hz_11, hJ_11⟩ := hp_11
      have E := bnd_e E hp_11
      have hzi_11 := z_int hz_11
      have hP : va_P D vwCl (MWL cI cC cQ ad (sc wn_6 1 un_11)) H := mp_up1 hd hP (ht ▸ hB) hfr
      obtain ⟨wn_11, hwn_11⟩ : ∃ x, x = sc wn_6 1 un_11 := ⟨_, rfl⟩
      rw [← hwn_11] at hP
      have E := bns_e E hwn_11
      have hI_11 : R6I wn_11 := by rw [hwn_11]; exact R6I_up1 hI_6 hJ_11
      refine lv_pop hx hb dX6_more_99 rfl ?_
      refine lv_aload_n hx hb dX6_more_100 rfl (lv_at hl 1 rfl) ?_
      refine g6_trial hx hb hts hin6 hown hK hP (hts (.fieldLink RX6 16 "LoadedForTheLane" "trial" "LLoadedForTheLane$Wagon;") (by decide +kernel)) dX6_more_101 ?_
      refine lv_iload_n hx hb dX6_more_104 rfl (lv_at hl 2 rfl) ?_
      refine vp_callSi (va_Run.run (va_runVN (As := [.int a1]) (rest := []) ⟨hx, hb, hml, hown, hts⟩ (kX4_holds l D cI cC cQ (ad 1) (wn_11 1) a1 (R6I_1 hI_11) (by omega) (by omega)) ⟨va_cnB 1 hts gX6_more_X4_holds_n189 rfl rfl rfl (nm_RX6_189 hN) (hts (.initialized RX4) (by decide +kernel)) mdsX4_holds ⟨Nat.le_of_ble_eq_true rfl, Nat.le_of_ble_eq_true rfl⟩, hts (.instanceMethod yX4_holds) (by decide +kernel), hts (.selects RX4 yX4_holds yX4_holds) (by decide +kernel)⟩ (x4_pre hK (mp_1 hP) hN) rfl rfl hl.1 rfl (lv_room (Nat.le_of_ble_eq_true rfl)) dX6_more_105 ⟨Nat.zero_le _, Nat.zero_le _⟩)) (fun rn_12 hr_12 => ?_)
      obtain ⟨rfl, hz_12⟩ := hr_12
      refine lv_if_eq (tgt := 115) hx hb dX6_more_108 (by decide) (fun c_13 => ?_) (fun c_13 => ?_)
      · have E := E.trans (if_pos c_13)
        have fc_13 := i_eq c_13
        rw [q_0] at fc_13
        refine lv_iconst (v := 0) hx hb dX6_more_115 (by decide) ?_
        exact W.iret (v := 0) hx hb hr (fun t ht hW => ⟨⟨_, wn_11, rfl, ⟨E.symm, hI_11⟩, by show va_P _ _ _ t.heap; rw [ht]; exact hP⟩, hS.F ht⟩) hS.2.2 dX6_more_116
      · have E := E.trans (if_neg c_13)
        have fc_13 := i_ne c_13
        rw [q_0] at fc_13
        refine lv_iconst (v := 1) hx hb dX6_more_111 (by decide) ?_
        refine lv_goto (tgt := 116) hx hb dX6_more_112 (by decide) ?_
        exact W.iret (v := 1) hx hb hr (fun t ht hW => ⟨⟨_, wn_11, rfl, ⟨E.symm, hI_11⟩, by show va_P _ _ _ t.heap; rw [ht]; exact hP⟩, hS.F ht⟩) hS.2.2 dX6_more_116
    · have E := E.trans (if_pos c_5)
      have fc_5 := i_eq c_5
      rw [q_0] at fc_5
      refine lv_aload_n hx hb dX6_more_38 rfl (lv_at hl 1 rfl) ?_
      refine lv_bipush (v := (-3)) hx hb dX6_more_39 (by decide +kernel) ?_
      refine va_calli (va_runV (As := [.int (-3)]) (rest := []) ⟨hx, hb, hml, hown, hts⟩ (kX6_refuse l D cI cC cQ ad sd aK aV w (-3) hd hI) (cwV 1 hts gX6_more_X6_refuse rfl rfl rfl mdX6_refuse ⟨Nat.le_of_ble_eq_true rfl, Nat.le_of_ble_eq_true rfl⟩) (x6_pre hK hP hN hSE hST hS) rfl rfl hl.1 rfl (lv_room (Nat.le_of_ble_eq_true rfl)) dX6_more_41 ⟨Nat.zero_le _, Nat.zero_le _⟩) hS (fun _ _ h => h) (fun _ h => h) (fun rn_14 wn_14 t H locs ht hvm hp_14 hB hz hfr hS => ?_)
      obtain ⟨hp_14, hJ_14⟩ := hp_14
      have E := bnd_e E hp_14
      have hP : va_P D vwCl (MWL cI cC cQ ad wn_14) H := ht ▸ hB
      exact W.iret (v := rn_14) hx hb hr (fun t ht hW => ⟨⟨_, wn_14, rfl, ⟨E.symm, hJ_14⟩, by show va_P _ _ _ t.heap; rw [ht]; exact hP⟩, hS.F ht⟩) hS.2.2 dX6_more_44
  · have E := E.trans (if_pos c_2)
    have fc_2 := i_eq c_2
    rw [q_0] at fc_2
    refine lv_aload_n hx hb dX6_more_11 rfl (lv_at hl 0 rfl) ?_
    refine lv_iconst (v := (-1)) hx hb dX6_more_12 (by decide) ?_
    refine va_calli (va_runV (As := [.int (-1)]) (rest := []) ⟨hx, hb, hml, hown, hts⟩ (kX6_refuse l D cI cC cQ ad sd aK aV w (-1) hd hI) (cwV 1 hts gX6_more_X6_refuse rfl rfl rfl mdX6_refuse ⟨Nat.le_of_ble_eq_true rfl, Nat.le_of_ble_eq_true rfl⟩) (x6_pre hK hP hN hSE hST hS) rfl rfl hl.1 rfl (lv_room (Nat.le_of_ble_eq_true rfl)) dX6_more_13 ⟨Nat.zero_le _, Nat.zero_le _⟩) hS (fun _ _ h => h) (fun _ h => h) (fun rn_15 wn_15 t H locs ht hvm hp_15 hB hz hfr hS => ?_)
    obtain ⟨hp_15, hJ_15⟩ := hp_15
    have E := bnd_e E hp_15
    have hP : va_P D vwCl (MWL cI cC cQ ad wn_15) H := ht ▸ hB
    exact W.iret (v := rn_15) hx hb hr (fun t ht hW => ⟨⟨_, wn_15, rfl, ⟨E.symm, hJ_15⟩, by show va_P _ _ _ t.heap; rw [ht]; exact hP⟩, hS.F ht⟩) hS.2.2 dX6_more_16
abbrev rmX6_farOut : Room := { frames := 6, cells := 0, slots := 0, locals := 133 }
set_option maxHeartbeats 4000000 in
set_option maxRecDepth 100000 in
theorem kX6_farOut (l : Launch) (D : va_G) (cI cC cQ : ClassId) (ad : Nat → Nat → Nat) (sd aK aV : Nat → Nat) (w : Nat → Nat → Nat → Int32) (a1 : Int32) (a2 : Int32) (hd : MD ad) (hI : R6I w)  : Met l yX6_farOut wsX6_farOut rmX6_farOut (va_Pc [Value.ref (ad 5 0), Value.int a1, Value.int a2] (fun U => va_P D vwCl (MWL cI cC cQ ad w) U.heap ∧ va_K D vwCl [(cI, .int), (cC, .char), (cQ, .object "LoadedForTheLane$Way")] U ∧ NW U ∧ SE sd (MA ad) U U.heap ∧ STR aK aV (MA ad) U U.heap)) (va_Qi (fun r u => (r, u) = sX6_farOut w a1 a2 ∧ R6I u) (fun u t => va_P D vwCl (MWL cI cC cQ ad u) t.heap) (MA ad)) 0 0 (MA ad) := by
  refine Met.ofW (cc := cX6_farOut) (maxL := 4) (ret := (some .int)) (by decide) rfl ?_
  intro p e s m args below meth c s₁ B hml hv
  obtain ⟨rfl, hP, hK, hN, hSE, hST⟩ := hv
  have hx := B.exec
  have hb := B.bytes
  have hr := B.returns
  have hts := atoms_spec (ws := wsX6_farOut) B.pre
  have hown : s.vm.findClass RX6 = some m.cls := findClass_of_methodNamed B.named
  have hlocks := B.notSynchronized
  have hin4 : ∀ q ∈ wsX40, q ∈ wsX6_farOut := by decide +kernel
  have hin6 : ∀ q ∈ wsX60, q ∈ wsX6_farOut := by decide +kernel
  have hl := lv_entry ([.ref (ad 5 0), .int a1, .int a2]) (n := 4) (Nat.le_of_ble_eq_true rfl)
  rw [lg_entry_eq]
  generalize (lg_sl ([.ref (ad 5 0), .int a1, .int a2]) ++ List.replicate (4 - (lg_sl ([.ref (ad 5 0), .int a1, .int a2])).length) Slot.unset).toArray = ls at hl ⊢
  have hl : lv_has ls 4 [(0, .ref (ad 5 0)), (1, .int a1), (2, .int a2)] := hl
  suffices hgo : ∀ (H : Heap) (locs : List Loc), va_P D vwCl (MWL cI cC cQ ad w) H → va_S (MA ad) s.heap H locs → W p l e (headSpec wsX6_farOut rmX6_farOut).room s m [Value.ref (ad 5 0), Value.int a1, Value.int a2].toArray below meth c H locs 0 0 (MQ below (va_Qi (fun r u => (r, u) = sX6_farOut w a1 a2 ∧ R6I u) (fun u t => va_P D vwCl (MWL cI cC cQ ad u) t.heap) (MA ad)) [Value.ref (ad 5 0), Value.int a1, Value.int a2].toArray s 0 0 (MA ad)) (F0 m 0 ls []) from hgo s.heap [] hP va_S.rf
  intro H locs hP hS
  have E := sX6_farOut.eq_1 w a1 a2
  refine lv_aload_n hx hb dX6_farOut_0 rfl (lv_at hl 0 rfl) ?_
  refine g6_wagon hx hb hts hin6 hown hK hP (hts (.fieldLink RX6 10 "LoadedForTheLane" "wagon" "LLoadedForTheLane$Wagon;") (by decide +kernel)) dX6_farOut_1 ?_
  refine lv_iload_n hx hb dX6_farOut_4 rfl (lv_at hl 1 rfl) ?_
  refine vp_callSi (va_Run.run (va_runVN (As := [.int a1]) (rest := []) ⟨hx, hb, hml, hown, hts⟩ (kX4_hasWay l D cI cC cQ (ad 0) (w 0) a1) ⟨va_cnB 1 hts gX6_farOut_X4_hasWay_n112 rfl rfl rfl (nm_RX6_112 hN) (hts (.initialized RX4) (by decide +kernel)) mdsX4_hasWay ⟨Nat.le_of_ble_eq_true rfl, Nat.le_of_ble_eq_true rfl⟩, hts (.instanceMethod yX4_hasWay) (by decide +kernel), hts (.selects RX4 yX4_hasWay yX4_hasWay) (by decide +kernel)⟩ (x4_pre hK (mp_0 hP) hN) rfl rfl hl.1 rfl (lv_room (Nat.le_of_ble_eq_true rfl)) dX6_farOut_5 ⟨Nat.zero_le _, Nat.zero_le _⟩)) (fun rn_1 hr_1 => ?_)
  obtain ⟨rfl, hz_1⟩ := hr_1
  refine lv_if_eq (tgt := 22) hx hb dX6_farOut_8 (by decide) (fun c_2 => ?_) (fun c_2 => ?_)
  · have E := E.trans (if_pos c_2)
    have fc_2 := i_eq c_2
    rw [q_0] at fc_2
    refine lv_aload_n hx hb dX6_farOut_22 rfl (lv_at hl 0 rfl) ?_
    refine lv_iconst (v := (-1)) hx hb dX6_farOut_23 (by decide) ?_
    refine va_calli (va_runV (As := [.int (-1)]) (rest := []) ⟨hx, hb, hml, hown, hts⟩ (kX6_refuse l D cI cC cQ ad sd aK aV w (-1) hd hI) (cwV 1 hts gX6_farOut_X6_refuse rfl rfl rfl mdX6_refuse ⟨Nat.le_of_ble_eq_true rfl, Nat.le_of_ble_eq_true rfl⟩) (x6_pre hK hP hN hSE hST hS) rfl rfl hl.1 rfl (lv_room (Nat.le_of_ble_eq_true rfl)) dX6_farOut_24 ⟨Nat.zero_le _, Nat.zero_le _⟩) hS (fun _ _ h => h) (fun _ h => h) (fun rn_3 wn_3 t H locs ht hvm hp_3 hB hz hfr hS => ?_)
    obtain ⟨hp_3, hJ_3⟩ := hp_3
    have E := bnd_e E hp_3
    have hP : va_P D vwCl (MWL cI cC cQ ad wn_3) H := ht ▸ hB
    exact W.iret (v := rn_3) hx hb hr (fun t ht hW => ⟨⟨_, wn_3, rfl, ⟨E.symm, hJ_3⟩, by show va_P _ _ _ t.heap; rw [ht]; exact hP⟩, hS.F ht⟩) hS.2.2 dX6_farOut_27
  · have E := E.trans (if_neg c_2)
    have fc_2 := i_ne c_2
    rw [q_0] at fc_2
    have gc_2 := fX4_hasWay c_2
    refine lv_aload_n hx hb dX6_farOut_11 rfl (lv_at hl 0 rfl) ?_
    refine g6_wagon hx hb hts hin6 hown hK hP (hts (.fieldLink RX6 10 "LoadedForTheLane" "wagon" "LLoadedForTheLane$Wagon;") (by decide +kernel)) dX6_farOut_12 ?_
    refine lv_iload_n hx hb dX6_farOut_15 rfl (lv_at hl 2 rfl) ?_
    refine vp_callSi (va_Run.run (va_runVN (As := [.int a2]) (rest := []) ⟨hx, hb, hml, hown, hts⟩ (kX4_hasLayer l D cI cC cQ (ad 0) (w 0) a2) ⟨va_cnB 1 hts gX6_farOut_X4_hasLayer_n127 rfl rfl rfl (nm_RX6_127 hN) (hts (.initialized RX4) (by decide +kernel)) mdsX4_hasLayer ⟨Nat.le_of_ble_eq_true rfl, Nat.le_of_ble_eq_true rfl⟩, hts (.instanceMethod yX4_hasLayer) (by decide +kernel), hts (.selects RX4 yX4_hasLayer yX4_hasLayer) (by decide +kernel)⟩ (x4_pre hK (mp_0 hP) hN) rfl rfl hl.1 rfl (lv_room (Nat.le_of_ble_eq_true rfl)) dX6_farOut_16 ⟨Nat.zero_le _, Nat.zero_le _⟩)) (fun rn_4 hr_4 => ?_)
    obtain ⟨rfl, hz_4⟩ := hr_4
    refine lv_if_ne (tgt := 28) hx hb dX6_farOut_19 (by decide) (fun c_5 => ?_) (fun c_5 => ?_)
    · have E := E.trans (if_neg c_5)
      have fc_5 := i_ne c_5
      rw [q_0] at fc_5
      have gc_5 := fX4_hasLayer c_5
      have glc_5 := R4I_layers (R6I_0 hI)
      refine lv_aload_n hx hb dX6_farOut_28 rfl (lv_at hl 0 rfl) ?_
      refine g6_trial hx hb hts hin6 hown hK hP (hts (.fieldLink RX6 16 "LoadedForTheLane" "trial" "LLoadedForTheLane$Wagon;") (by decide +kernel)) dX6_farOut_29 ?_
      refine lv_aload_n hx hb dX6_farOut_32 rfl (lv_at hl 0 rfl) ?_
      refine g6_wagon hx hb hts hin6 hown hK hP (hts (.fieldLink RX6 10 "LoadedForTheLane" "wagon" "LLoadedForTheLane$Wagon;") (by decide +kernel)) dX6_farOut_33 ?_
      refine va_callv (va_runVN (As := [.ref (ad 0 0)]) (rest := []) ⟨hx, hb, hml, hown, hts⟩ (kX4_become l D cI cC cQ (ad 1) (ad 0) (w 1) (w 0) (mdd_10 hd) (R6I_1 hI) (R6I_0 hI)) ⟨va_cnB 1 hts gX6_farOut_X4_become_n66 rfl rfl rfl (nm_RX6_66 hN) (hts (.initialized RX4) (by decide +kernel)) mdsX4_become ⟨Nat.le_of_ble_eq_true rfl, Nat.le_of_ble_eq_true rfl⟩, hts (.instanceMethod yX4_become) (by decide +kernel), hts (.selects RX4 yX4_become yX4_become) (by decide +kernel)⟩ (x4b_pre rfl hK ((mp_1 hP).app (mp_0 hP)) hN) rfl rfl hl.1 rfl (lv_room (Nat.le_of_ble_eq_true rfl)) dX6_farOut_36 ⟨Nat.zero_le _, Nat.zero_le _⟩) hS (fun _ _ h => mab_10 h) (fun _ h => mab_10 h) (fun un_6 t H locs ht hvm hp_6 hB hz hfr hS => ?_)
      obtain ⟨hp_6, hJ_6⟩ := hp_6
      have E := bns_e E hp_6
      have hP : va_P D vwCl (MWL cI cC cQ ad (sc w 1 un_6)) H := mp_bc10 hd hP (ht ▸ hB) hfr
      obtain ⟨wn_6, hwn_6⟩ : ∃ x, x = sc w 1 un_6 := ⟨_, rfl⟩
      rw [← hwn_6] at hP
      have E := bns_e E hwn_6
      have hI_6 : R6I wn_6 := by rw [hwn_6]; exact R6I_up1 hI hJ_6
      refine lv_bipush (v := 9) hx hb dX6_farOut_39 (by decide +kernel) ?_
      refine lv_istore_n (lv' := [(3, .int 9), (0, .ref (ad 5 0)), (1, .int a1), (2, .int a2)]) hx hb dX6_farOut_41 rfl hl (by decide) rfl (fun ls hl => ?_)
      have L_42 : ∀ (n_42 : Nat) (x3_42 : Int32) (w_42 : Nat → Nat → Nat → Int32) (H : Heap) (locs : List Loc) (ls : Array Slot), ((-1 ≤ x3_42.toInt) ∧ (x3_42.toInt ≤ 9)) → (x3_42.toInt + 1 < (n_42 : Int)) → R6I w_42 → va_P D vwCl (MWL cI cC cQ ad w_42) H → va_S (MA ad) s.heap H locs → lv_has ls 4 [(3, .int x3_42), (0, .ref (ad 5 0)), (1, .int a1), (2, .int a2)] → sX6_farOut w a1 a2 = sX6_farOut_42 a1 a2 n_42 x3_42 w_42 → W p l e (headSpec wsX6_farOut rmX6_farOut).room s m [Value.ref (ad 5 0), Value.int a1, Value.int a2].toArray below meth c H locs 0 0 (MQ below (va_Qi (fun r u => (r, u) = sX6_farOut w a1 a2 ∧ R6I u) (fun u t => va_P D vwCl (MWL cI cC cQ ad u) t.heap) (MA ad)) [Value.ref (ad 5 0), Value.int a1, Value.int a2].toArray s 0 0 (MA ad)) (F0 m 42 ls []) := by
        intro n_42
        induction n_42 with
        | zero =>
          intro x3_42 w_42 H locs ls hinv hm
          obtain ⟨v0_42, v1_42⟩ := hinv
          exact absurd hm (by omega)
        | succ n_42 ih_42 =>
          intro x3_42 w_42 H locs ls hinv hm_42 hI_42 hP hS hl E
          obtain ⟨v0_42, v1_42⟩ := hinv
          have E := E.trans (sX6_farOut_42.eq_2 ..)
          refine lv_iload_n hx hb dX6_farOut_42 rfl (lv_at hl 0 rfl) ?_
          refine lv_if_lt (tgt := 75) hx hb dX6_farOut_43 (by decide) (fun c_7 => ?_) (fun c_7 => ?_)
          · have E := E.trans (if_pos c_7)
            have fc_7 := i_lt c_7
            rw [q_0] at fc_7
            refine lv_bipush (v := (-9)) hx hb dX6_farOut_75 (by decide +kernel) ?_
            exact W.iret (v := (-9)) hx hb hr (fun t ht hW => ⟨⟨_, w_42, rfl, ⟨E.symm, hI_42⟩, by show va_P _ _ _ t.heap; rw [ht]; exact hP⟩, hS.F ht⟩) hS.2.2 dX6_farOut_77
          · have E := E.trans (if_neg c_7)
            have fc_7 := i_nlt c_7
            rw [q_0] at fc_7
            refine lv_aload_n hx hb dX6_farOut_46 rfl (lv_at hl 1 rfl) ?_
            refine g6_trial hx hb hts hin6 hown hK hP (hts (.fieldLink RX6 16 "LoadedForTheLane" "trial" "LLoadedForTheLane$Wagon;") (by decide +kernel)) dX6_farOut_47 ?_
            refine g4_outsn hx hb hts hin4 hown hK (mp_1 hP) (nf_RX6_139 hN) dX6_farOut_50 ?_
            refine lv_iload_n hx hb dX6_farOut_53 rfl (lv_at hl 3 rfl) ?_
            refine lv_iload_n hx hb dX6_farOut_54 rfl (lv_at hl 0 rfl) ?_
            have ix_8 : vp_in a2 12 := ix_of (by omega) (by omega)
            refine a6_outs_1 (j := (a2.toNatClampNeg)) hx hb hK hP hd hS ix_8 rfl dX6_farOut_55 (fun H locs hP hS => ?_)
            obtain ⟨wn_8, hwn_8⟩ : ∃ x, x = sc w_42 1 (st (w_42 1) 2 (a2.toNatClampNeg) x3_42) := ⟨_, rfl⟩
            rw [← hwn_8] at hP
            have E := bns_e E hwn_8
            have hI_8 : R6I wn_8 := by rw [hwn_8]; exact R6I_up1 hI_42 (R4I_arr (R6I_1 hI_42) (by decide))
            refine lv_aload_n hx hb dX6_farOut_56 rfl (lv_at hl 1 rfl) ?_
            refine g6_trial hx hb hts hin6 hown hK hP (hts (.fieldLink RX6 16 "LoadedForTheLane" "trial" "LLoadedForTheLane$Wagon;") (by decide +kernel)) dX6_farOut_57 ?_
            refine lv_iload_n hx hb dX6_farOut_60 rfl (lv_at hl 2 rfl) ?_
            refine vp_callSi (va_Run.run (va_runVN (As := [.int a1]) (rest := []) ⟨hx, hb, hml, hown, hts⟩ (kX4_holds l D cI cC cQ (ad 1) (wn_8 1) a1 (R6I_1 hI_8) (by omega) (by omega)) ⟨va_cnB 1 hts gX6_farOut_X4_holds_n189 rfl rfl rfl (nm_RX6_189 hN) (hts (.initialized RX4) (by decide +kernel)) mdsX4_holds ⟨Nat.le_of_ble_eq_true rfl, Nat.le_of_ble_eq_true rfl⟩, hts (.instanceMethod yX4_holds) (by decide +kernel), hts (.selects RX4 yX4_holds yX4_holds) (by decide +kernel)⟩ (x4_pre hK (mp_1 hP) hN) rfl rfl hl.1 rfl (lv_room (Nat.le_of_ble_eq_true rfl)) dX6_farOut_61 ⟨Nat.zero_le _, Nat.zero_le _⟩)) (fun rn_9 hr_9 => ?_)
            obtain ⟨rfl, hz_9⟩ := hr_9
            refine lv_if_eq (tgt := 69) hx hb dX6_farOut_64 (by decide) (fun c_10 => ?_) (fun c_10 => ?_)
            · have E := E.trans (if_pos c_10)
              have fc_10 := i_eq c_10
              rw [q_0] at fc_10
              obtain ⟨xn_11, hxn_11⟩ : ∃ y : Int32, y = x3_42 + (-1) := ⟨_, rfl⟩
              have E := bns_e E hxn_11
              have fxn_11 : xn_11.toInt = x3_42.toInt + (-1) := by rw [hxn_11]; exact i_addr (a := x3_42) (b := (-1)) (n := -1) q_m1 (by omega) (by omega)
              refine lv_iinc (v := xn_11) (lv' := [(3, .int xn_11), (0, .ref (ad 5 0)), (1, .int a1), (2, .int a2)]) hx hb dX6_farOut_69 hl (k := 0) rfl (by rw [hxn_11]; rfl) (by decide) rfl (fun ls hl => ?_)
              refine lv_goto (tgt := 42) hx hb dX6_farOut_72 (by decide) ?_
              exact ih_42 xn_11 wn_8 H locs ls ⟨by omega, by omega⟩ (by omega) hI_8 hP hS (lv_sub hl [0, 1, 2, 3] rfl) E
            · have E := E.trans (if_neg c_10)
              have fc_10 := i_ne c_10
              rw [q_0] at fc_10
              refine lv_iload_n hx hb dX6_farOut_67 rfl (lv_at hl 0 rfl) ?_
              exact W.iret (v := x3_42) hx hb hr (fun t ht hW => ⟨⟨_, wn_8, rfl, ⟨E.symm, hI_8⟩, by show va_P _ _ _ t.heap; rw [ht]; exact hP⟩, hS.F ht⟩) hS.2.2 dX6_farOut_68
      have := q_9
      exact L_42 11 9 wn_6 H locs ls ⟨by omega, by omega⟩ (by omega) hI_6 hP hS (lv_sub hl [0, 1, 2, 3] rfl) E
    · have E := E.trans (if_pos c_5)
      have fc_5 := i_eq c_5
      rw [q_0] at fc_5
      refine lv_aload_n hx hb dX6_farOut_22 rfl (lv_at hl 0 rfl) ?_
      refine lv_iconst (v := (-1)) hx hb dX6_farOut_23 (by decide) ?_
      refine va_calli (va_runV (As := [.int (-1)]) (rest := []) ⟨hx, hb, hml, hown, hts⟩ (kX6_refuse l D cI cC cQ ad sd aK aV w (-1) hd hI) (cwV 1 hts gX6_farOut_X6_refuse rfl rfl rfl mdX6_refuse ⟨Nat.le_of_ble_eq_true rfl, Nat.le_of_ble_eq_true rfl⟩) (x6_pre hK hP hN hSE hST hS) rfl rfl hl.1 rfl (lv_room (Nat.le_of_ble_eq_true rfl)) dX6_farOut_24 ⟨Nat.zero_le _, Nat.zero_le _⟩) hS (fun _ _ h => h) (fun _ h => h) (fun rn_12 wn_12 t H locs ht hvm hp_12 hB hz hfr hS => ?_)
      obtain ⟨hp_12, hJ_12⟩ := hp_12
      have E := bnd_e E hp_12
      have hP : va_P D vwCl (MWL cI cC cQ ad wn_12) H := ht ▸ hB
      exact W.iret (v := rn_12) hx hb hr (fun t ht hW => ⟨⟨_, wn_12, rfl, ⟨E.symm, hJ_12⟩, by show va_P _ _ _ t.heap; rw [ht]; exact hP⟩, hS.F ht⟩) hS.2.2 dX6_farOut_27
abbrev rmX6_leaning : Room := { frames := 4, cells := 0, slots := 0, locals := 86 }
set_option maxHeartbeats 4000000 in
set_option maxRecDepth 100000 in
theorem kX6_leaning (l : Launch) (D : va_G) (cI cC cQ : ClassId) (ad : Nat → Nat → Nat) (sd aK aV : Nat → Nat) (w : Nat → Nat → Nat → Int32) (a1 : Int32) (hd : MD ad) (hI : R6I w)  : Met l yX6_leaning wsX6_leaning rmX6_leaning (va_Pc [Value.ref (ad 5 0), Value.int a1] (fun U => va_P D vwCl (MWL cI cC cQ ad w) U.heap ∧ va_K D vwCl [(cI, .int), (cC, .char), (cQ, .object "LoadedForTheLane$Way")] U ∧ NW U ∧ SE sd (MA ad) U U.heap ∧ STR aK aV (MA ad) U U.heap)) (va_Qi (fun r u => (r, u) = sX6_leaning w a1 ∧ R6I u) (fun u t => va_P D vwCl (MWL cI cC cQ ad u) t.heap) (MA ad)) 0 0 (MA ad) := by
  refine Met.ofW (cc := cX6_leaning) (maxL := 6) (ret := (some .int)) (by decide) rfl ?_
  intro p e s m args below meth c s₁ B hml hv
  obtain ⟨rfl, hP, hK, hN, hSE, hST⟩ := hv
  have hx := B.exec
  have hb := B.bytes
  have hr := B.returns
  have hts := atoms_spec (ws := wsX6_leaning) B.pre
  have hown : s.vm.findClass RX6 = some m.cls := findClass_of_methodNamed B.named
  have hlocks := B.notSynchronized
  have hin6 : ∀ q ∈ wsX60, q ∈ wsX6_leaning := by decide +kernel
  have hl := lv_entry ([.ref (ad 5 0), .int a1]) (n := 6) (Nat.le_of_ble_eq_true rfl)
  rw [lg_entry_eq]
  generalize (lg_sl ([.ref (ad 5 0), .int a1]) ++ List.replicate (6 - (lg_sl ([.ref (ad 5 0), .int a1])).length) Slot.unset).toArray = ls at hl ⊢
  have hl : lv_has ls 6 [(0, .ref (ad 5 0)), (1, .int a1)] := hl
  suffices hgo : ∀ (H : Heap) (locs : List Loc), va_P D vwCl (MWL cI cC cQ ad w) H → va_S (MA ad) s.heap H locs → W p l e (headSpec wsX6_leaning rmX6_leaning).room s m [Value.ref (ad 5 0), Value.int a1].toArray below meth c H locs 0 0 (MQ below (va_Qi (fun r u => (r, u) = sX6_leaning w a1 ∧ R6I u) (fun u t => va_P D vwCl (MWL cI cC cQ ad u) t.heap) (MA ad)) [Value.ref (ad 5 0), Value.int a1].toArray s 0 0 (MA ad)) (F0 m 0 ls []) from hgo s.heap [] hP va_S.rf
  intro H locs hP hS
  have E := sX6_leaning.eq_1 w a1
  refine lv_aload_n hx hb dX6_leaning_0 rfl (lv_at hl 0 rfl) ?_
  refine g6_wagon hx hb hts hin6 hown hK hP (hts (.fieldLink RX6 10 "LoadedForTheLane" "wagon" "LLoadedForTheLane$Wagon;") (by decide +kernel)) dX6_leaning_1 ?_
  refine lv_iload_n hx hb dX6_leaning_4 rfl (lv_at hl 1 rfl) ?_
  refine vp_callSi (va_Run.run (va_runVN (As := [.int a1]) (rest := []) ⟨hx, hb, hml, hown, hts⟩ (kX4_hasWay l D cI cC cQ (ad 0) (w 0) a1) ⟨va_cnB 1 hts gX6_leaning_X4_hasWay_n112 rfl rfl rfl (nm_RX6_112 hN) (hts (.initialized RX4) (by decide +kernel)) mdsX4_hasWay ⟨Nat.le_of_ble_eq_true rfl, Nat.le_of_ble_eq_true rfl⟩, hts (.instanceMethod yX4_hasWay) (by decide +kernel), hts (.selects RX4 yX4_hasWay yX4_hasWay) (by decide +kernel)⟩ (x4_pre hK (mp_0 hP) hN) rfl rfl hl.1 rfl (lv_room (Nat.le_of_ble_eq_true rfl)) dX6_leaning_5 ⟨Nat.zero_le _, Nat.zero_le _⟩)) (fun rn_1 hr_1 => ?_)
  obtain ⟨rfl, hz_1⟩ := hr_1
  refine lv_if_ne (tgt := 17) hx hb dX6_leaning_8 (by decide) (fun c_2 => ?_) (fun c_2 => ?_)
  · have E := E.trans (if_neg c_2)
    have fc_2 := i_ne c_2
    rw [q_0] at fc_2
    have gc_2 := fX4_hasWay c_2
    refine lv_bipush (v := (-5)) hx hb dX6_leaning_17 (by decide +kernel) ?_
    refine lv_istore_n (lv' := [(2, .int (-5)), (0, .ref (ad 5 0)), (1, .int a1)]) hx hb dX6_leaning_19 rfl hl (by decide) rfl (fun ls hl => ?_)
    refine lv_ldc (own := RX6) (v := (-2147483648)) hx hb hown (hts (.constant RX6 192 (-2147483648)) (by decide +kernel)) dX6_leaning_20 ?_
    refine lv_istore_n (lv' := [(3, .int (-2147483648)), (2, .int (-5)), (0, .ref (ad 5 0)), (1, .int a1)]) hx hb dX6_leaning_22 rfl hl (by decide) rfl (fun ls hl => ?_)
    refine lv_bipush (v := (-5)) hx hb dX6_leaning_23 (by decide +kernel) ?_
    refine lv_istore (lv' := [(4, .int (-5)), (3, .int (-2147483648)), (2, .int (-5)), (0, .ref (ad 5 0)), (1, .int a1)]) hx hb dX6_leaning_25 hl (by decide) rfl (fun ls hl => ?_)
    have L_27 : ∀ (n_27 : Nat) (x2_27 : Int32) (x3_27 : Int32) (x4_27 : Int32) (w_27 : Nat → Nat → Nat → Int32) (H : Heap) (locs : List Loc) (ls : Array Slot), ((-5 ≤ x4_27.toInt) ∧ (x4_27.toInt ≤ 6)) → (6 - x4_27.toInt < (n_27 : Int)) → R6I w_27 → va_P D vwCl (MWL cI cC cQ ad w_27) H → va_S (MA ad) s.heap H locs → lv_has ls 6 [(4, .int x4_27), (3, .int x3_27), (2, .int x2_27), (0, .ref (ad 5 0)), (1, .int a1)] → sX6_leaning w a1 = sX6_leaning_27 a1 n_27 x2_27 x3_27 x4_27 w_27 → W p l e (headSpec wsX6_leaning rmX6_leaning).room s m [Value.ref (ad 5 0), Value.int a1].toArray below meth c H locs 0 0 (MQ below (va_Qi (fun r u => (r, u) = sX6_leaning w a1 ∧ R6I u) (fun u t => va_P D vwCl (MWL cI cC cQ ad u) t.heap) (MA ad)) [Value.ref (ad 5 0), Value.int a1].toArray s 0 0 (MA ad)) (F0 m 27 ls []) := by
      intro n_27
      induction n_27 with
      | zero =>
        intro x2_27 x3_27 x4_27 w_27 H locs ls hinv hm
        obtain ⟨v0_27, v1_27⟩ := hinv
        exact absurd hm (by omega)
      | succ n_27 ih_27 =>
        intro x2_27 x3_27 x4_27 w_27 H locs ls hinv hm_27 hI_27 hP hS hl E
        obtain ⟨v0_27, v1_27⟩ := hinv
        have E := E.trans (sX6_leaning_27.eq_2 ..)
        refine lv_iload hx hb dX6_leaning_27 (lv_at hl 0 rfl) ?_
        refine lv_iconst (v := 5) hx hb dX6_leaning_29 (by decide) ?_
        refine lv_icmp_gt (tgt := 81) hx hb dX6_leaning_30 (by decide) (fun c_3 => ?_) (fun c_3 => ?_)
        · have E := E.trans (if_pos c_3)
          have fc_3 := i_lt c_3
          rw [q_5] at fc_3
          refine lv_iload_n hx hb dX6_leaning_81 rfl (lv_at hl 2 rfl) ?_
          exact W.iret (v := x2_27) hx hb hr (fun t ht hW => ⟨⟨_, w_27, rfl, ⟨E.symm, hI_27⟩, by show va_P _ _ _ t.heap; rw [ht]; exact hP⟩, hS.F ht⟩) hS.2.2 dX6_leaning_82
        · have E := E.trans (if_neg c_3)
          have fc_3 := i_nlt c_3
          rw [q_5] at fc_3
          refine lv_aload_n hx hb dX6_leaning_33 rfl (lv_at hl 3 rfl) ?_
          refine g6_trial hx hb hts hin6 hown hK hP (hts (.fieldLink RX6 16 "LoadedForTheLane" "trial" "LLoadedForTheLane$Wagon;") (by decide +kernel)) dX6_leaning_34 ?_
          refine lv_aload_n hx hb dX6_leaning_37 rfl (lv_at hl 3 rfl) ?_
          refine g6_wagon hx hb hts hin6 hown hK hP (hts (.fieldLink RX6 10 "LoadedForTheLane" "wagon" "LLoadedForTheLane$Wagon;") (by decide +kernel)) dX6_leaning_38 ?_
          refine va_callv (va_runVN (As := [.ref (ad 0 0)]) (rest := []) ⟨hx, hb, hml, hown, hts⟩ (kX4_become l D cI cC cQ (ad 1) (ad 0) (w_27 1) (w_27 0) (mdd_10 hd) (R6I_1 hI_27) (R6I_0 hI_27)) ⟨va_cnB 1 hts gX6_leaning_X4_become_n66 rfl rfl rfl (nm_RX6_66 hN) (hts (.initialized RX4) (by decide +kernel)) mdsX4_become ⟨Nat.le_of_ble_eq_true rfl, Nat.le_of_ble_eq_true rfl⟩, hts (.instanceMethod yX4_become) (by decide +kernel), hts (.selects RX4 yX4_become yX4_become) (by decide +kernel)⟩ (x4b_pre rfl hK ((mp_1 hP).app (mp_0 hP)) hN) rfl rfl hl.1 rfl (lv_room (Nat.le_of_ble_eq_true rfl)) dX6_leaning_41 ⟨Nat.zero_le _, Nat.zero_le _⟩) hS (fun _ _ h => mab_10 h) (fun _ h => mab_10 h) (fun un_4 t H locs ht hvm hp_4 hB hz hfr hS => ?_)
          obtain ⟨hp_4, hJ_4⟩ := hp_4
          have E := bns_e E hp_4
          have hP : va_P D vwCl (MWL cI cC cQ ad (sc w_27 1 un_4)) H := mp_bc10 hd hP (ht ▸ hB) hfr
          obtain ⟨wn_4, hwn_4⟩ : ∃ x, x = sc w_27 1 un_4 := ⟨_, rfl⟩
          rw [← hwn_4] at hP
          have E := bns_e E hwn_4
          have hI_4 : R6I wn_4 := by rw [hwn_4]; exact R6I_up1 hI_27 hJ_4
          refine lv_aload_n hx hb dX6_leaning_44 rfl (lv_at hl 3 rfl) ?_
          refine g6_trial hx hb hts hin6 hown hK hP (hts (.fieldLink RX6 16 "LoadedForTheLane" "trial" "LLoadedForTheLane$Wagon;") (by decide +kernel)) dX6_leaning_45 ?_
          refine lv_iload hx hb dX6_leaning_48 (lv_at hl 0 rfl) ?_
          refine va_callv (va_runVN (As := [.int x4_27]) (rest := []) ⟨hx, hb, hml, hown, hts⟩ (kX4_leanMore l D cI cC cQ (ad 1) (wn_4 1) x4_27 (MD_1 hd) (R6I_1 hI_4)) ⟨va_cnB 1 hts gX6_leaning_X4_leanMore_n193 rfl rfl rfl (nm_RX6_193 hN) (hts (.initialized RX4) (by decide +kernel)) mdsX4_leanMore ⟨Nat.le_of_ble_eq_true rfl, Nat.le_of_ble_eq_true rfl⟩, hts (.instanceMethod yX4_leanMore) (by decide +kernel), hts (.selects RX4 yX4_leanMore yX4_leanMore) (by decide +kernel)⟩ (x4_pre hK (mp_1 hP) hN) rfl rfl hl.1 rfl (lv_room (Nat.le_of_ble_eq_true rfl)) dX6_leaning_50 ⟨Nat.zero_le _, Nat.zero_le _⟩) hS (fun _ _ h => MA_1 h) (fun _ h => MA_1 h) (fun un_5 t H locs ht hvm hp_5 hB hz hfr hS => ?_)
          obtain ⟨hp_5, hJ_5⟩ := hp_5
          have E := bns_e E hp_5
          have hP : va_P D vwCl (MWL cI cC cQ ad (sc wn_4 1 un_5)) H := mp_up1 hd hP (ht ▸ hB) hfr
          obtain ⟨wn_5, hwn_5⟩ : ∃ x, x = sc wn_4 1 un_5 := ⟨_, rfl⟩
          rw [← hwn_5] at hP
          have E := bns_e E hwn_5
          have hI_5 : R6I wn_5 := by rw [hwn_5]; exact R6I_up1 hI_4 hJ_5
          refine lv_aload_n hx hb dX6_leaning_53 rfl (lv_at hl 3 rfl) ?_
          refine g6_trial hx hb hts hin6 hown hK hP (hts (.fieldLink RX6 16 "LoadedForTheLane" "trial" "LLoadedForTheLane$Wagon;") (by decide +kernel)) dX6_leaning_54 ?_
          refine lv_iload_n hx hb dX6_leaning_57 rfl (lv_at hl 4 rfl) ?_
          refine vp_callSi (va_Run.run (va_runVN (As := [.int a1]) (rest := []) ⟨hx, hb, hml, hown, hts⟩ (kX4_leastMargin l D cI cC cQ (ad 1) (wn_5 1) a1 (R6I_1 hI_5) (by omega) (by omega)) ⟨va_cnB 1 hts gX6_leaning_X4_leastMargin_n186 rfl rfl rfl (nm_RX6_186 hN) (hts (.initialized RX4) (by decide +kernel)) mdsX4_leastMargin ⟨Nat.le_of_ble_eq_true rfl, Nat.le_of_ble_eq_true rfl⟩, hts (.instanceMethod yX4_leastMargin) (by decide +kernel), hts (.selects RX4 yX4_leastMargin yX4_leastMargin) (by decide +kernel)⟩ (x4_pre hK (mp_1 hP) hN) rfl rfl hl.1 rfl (lv_room (Nat.le_of_ble_eq_true rfl)) dX6_leaning_58 ⟨Nat.zero_le _, Nat.zero_le _⟩)) (fun rn_6 hr_6 => ?_)
          subst hr_6
          refine lv_istore (lv' := [(5, .int (sX4_leastMargin (wn_5 1) a1)), (4, .int x4_27), (3, .int x3_27), (2, .int x2_27), (0, .ref (ad 5 0)), (1, .int a1)]) hx hb dX6_leaning_61 hl (by decide) rfl (fun ls hl => ?_)
          refine lv_iload hx hb dX6_leaning_63 (lv_at hl 0 rfl) ?_
          refine lv_iload_n hx hb dX6_leaning_65 rfl (lv_at hl 2 rfl) ?_
          refine lv_icmp_le (tgt := 75) hx hb dX6_leaning_66 (by decide) (fun c_7 => ?_) (fun c_7 => ?_)
          · have E := E.trans (if_pos c_7)
            have fc_7 := i_le c_7
            refine lv_iinc (v := x4_27 + 1) (lv' := [(4, .int (x4_27 + 1)), (5, .int (sX4_leastMargin (wn_5 1) a1)), (3, .int x3_27), (2, .int x2_27), (0, .ref (ad 5 0)), (1, .int a1)]) hx hb dX6_leaning_75 hl (k := 1) rfl rfl (by decide) rfl (fun ls hl => ?_)
            refine lv_goto (tgt := 27) hx hb dX6_leaning_78 (by decide) ?_
            try have := i_addr (a := x4_27) (b := 1) (n := 1) q_1 (by omega) (by omega)
            exact ih_27 x2_27 x3_27 (x4_27 + 1) wn_5 H locs ls ⟨by omega, by omega⟩ (by omega) hI_5 hP hS (lv_sub hl [0, 2, 3, 4, 5] rfl) E
          · have E := E.trans (if_neg c_7)
            have fc_7 := i_nle c_7
            refine lv_iload hx hb dX6_leaning_69 (lv_at hl 1 rfl) ?_
            refine lv_istore_n (lv' := [(2, .int x4_27), (5, .int (sX4_leastMargin (wn_5 1) a1)), (4, .int x4_27), (3, .int x3_27), (0, .ref (ad 5 0)), (1, .int a1)]) hx hb dX6_leaning_71 rfl hl (by decide) rfl (fun ls hl => ?_)
            refine lv_iload hx hb dX6_leaning_72 (lv_at hl 1 rfl) ?_
            refine lv_istore_n (lv' := [(3, .int (sX4_leastMargin (wn_5 1) a1)), (2, .int x4_27), (5, .int (sX4_leastMargin (wn_5 1) a1)), (4, .int x4_27), (0, .ref (ad 5 0)), (1, .int a1)]) hx hb dX6_leaning_74 rfl hl (by decide) rfl (fun ls hl => ?_)
            refine lv_iinc (v := x4_27 + 1) (lv' := [(4, .int (x4_27 + 1)), (3, .int (sX4_leastMargin (wn_5 1) a1)), (2, .int x4_27), (5, .int (sX4_leastMargin (wn_5 1) a1)), (0, .ref (ad 5 0)), (1, .int a1)]) hx hb dX6_leaning_75 hl (k := 3) rfl rfl (by decide) rfl (fun ls hl => ?_)
            refine lv_goto (tgt := 27) hx hb dX6_leaning_78 (by decide) ?_
            try have := i_addr (a := x4_27) (b := 1) (n := 1) q_1 (by omega) (by omega)
            exact ih_27 x4_27 ((sX4_leastMargin (wn_5 1) a1)) (x4_27 + 1) wn_5 H locs ls ⟨by omega, by omega⟩ (by omega) hI_5 hP hS (lv_sub hl [0, 1, 2, 4, 5] rfl) E
    have := q_m5
    exact L_27 12 ((-5)) ((-2147483648)) ((-5)) w H locs ls ⟨by omega, by omega⟩ (by omega) hI hP hS (lv_sub hl [0, 1, 2, 3, 4] rfl) E
  · have E := E.trans (if_pos c_2)
    have fc_2 := i_eq c_2
    rw [q_0] at fc_2
    refine lv_aload_n hx hb dX6_leaning_11 rfl (lv_at hl 0 rfl) ?_
    refine lv_iconst (v := (-1)) hx hb dX6_leaning_12 (by decide) ?_
    refine va_calli (va_runV (As := [.int (-1)]) (rest := []) ⟨hx, hb, hml, hown, hts⟩ (kX6_refuseWide l D cI cC cQ ad sd aK aV w (-1) hd hI) (cwV 1 hts gX6_leaning_X6_refuseWide rfl rfl rfl mdX6_refuseWide ⟨Nat.le_of_ble_eq_true rfl, Nat.le_of_ble_eq_true rfl⟩) (x6_pre hK hP hN hSE hST hS) rfl rfl hl.1 rfl (lv_room (Nat.le_of_ble_eq_true rfl)) dX6_leaning_13 ⟨Nat.zero_le _, Nat.zero_le _⟩) hS (fun _ _ h => h) (fun _ h => h) (fun rn_8 wn_8 t H locs ht hvm hp_8 hB hz hfr hS => ?_)
    obtain ⟨hp_8, hJ_8⟩ := hp_8
    have E := bnd_e E hp_8
    have hP : va_P D vwCl (MWL cI cC cQ ad wn_8) H := ht ▸ hB
    exact W.iret (v := rn_8) hx hb hr (fun t ht hW => ⟨⟨_, wn_8, rfl, ⟨E.symm, hJ_8⟩, by show va_P _ _ _ t.heap; rw [ht]; exact hP⟩, hS.F ht⟩) hS.2.2 dX6_leaning_16
abbrev rmX6_enough : Room := { frames := 6, cells := 0, slots := 0, locals := 133 }
set_option maxHeartbeats 4000000 in
set_option maxRecDepth 100000 in
theorem kX6_enough (l : Launch) (D : va_G) (cI cC cQ : ClassId) (ad : Nat → Nat → Nat) (sd aK aV : Nat → Nat) (w : Nat → Nat → Nat → Int32) (a1 : Int32) (hd : MD ad) (hI : R6I w)  : Met l yX6_enough wsX6_enough rmX6_enough (va_Pc [Value.ref (ad 5 0), Value.int a1] (fun U => va_P D vwCl (MWL cI cC cQ ad w) U.heap ∧ va_K D vwCl [(cI, .int), (cC, .char), (cQ, .object "LoadedForTheLane$Way")] U ∧ NW U ∧ SE sd (MA ad) U U.heap ∧ STR aK aV (MA ad) U U.heap)) (va_Qi (fun r u => (r, u) = sX6_enough w a1 ∧ R6I u) (fun u t => va_P D vwCl (MWL cI cC cQ ad u) t.heap) (MA ad)) 0 0 (MA ad) := by
  refine Met.ofW (cc := cX6_enough) (maxL := 3) (ret := (some .int)) (by decide) rfl ?_
  intro p e s m args below meth c s₁ B hml hv
  obtain ⟨rfl, hP, hK, hN, hSE, hST⟩ := hv
  have hx := B.exec
  have hb := B.bytes
  have hr := B.returns
  have hts := atoms_spec (ws := wsX6_enough) B.pre
  have hown : s.vm.findClass RX6 = some m.cls := findClass_of_methodNamed B.named
  have hlocks := B.notSynchronized
  have hin4 : ∀ q ∈ wsX40, q ∈ wsX6_enough := by decide +kernel
  have hin6 : ∀ q ∈ wsX60, q ∈ wsX6_enough := by decide +kernel
  have hl := lv_entry ([.ref (ad 5 0), .int a1]) (n := 3) (Nat.le_of_ble_eq_true rfl)
  rw [lg_entry_eq]
  generalize (lg_sl ([.ref (ad 5 0), .int a1]) ++ List.replicate (3 - (lg_sl ([.ref (ad 5 0), .int a1])).length) Slot.unset).toArray = ls at hl ⊢
  have hl : lv_has ls 3 [(0, .ref (ad 5 0)), (1, .int a1)] := hl
  suffices hgo : ∀ (H : Heap) (locs : List Loc), va_P D vwCl (MWL cI cC cQ ad w) H → va_S (MA ad) s.heap H locs → W p l e (headSpec wsX6_enough rmX6_enough).room s m [Value.ref (ad 5 0), Value.int a1].toArray below meth c H locs 0 0 (MQ below (va_Qi (fun r u => (r, u) = sX6_enough w a1 ∧ R6I u) (fun u t => va_P D vwCl (MWL cI cC cQ ad u) t.heap) (MA ad)) [Value.ref (ad 5 0), Value.int a1].toArray s 0 0 (MA ad)) (F0 m 0 ls []) from hgo s.heap [] hP va_S.rf
  intro H locs hP hS
  have E := sX6_enough.eq_1 w a1
  refine lv_aload_n hx hb dX6_enough_0 rfl (lv_at hl 0 rfl) ?_
  refine g6_wagon hx hb hts hin6 hown hK hP (hts (.fieldLink RX6 10 "LoadedForTheLane" "wagon" "LLoadedForTheLane$Wagon;") (by decide +kernel)) dX6_enough_1 ?_
  refine lv_iload_n hx hb dX6_enough_4 rfl (lv_at hl 1 rfl) ?_
  refine vp_callSi (va_Run.run (va_runVN (As := [.int a1]) (rest := []) ⟨hx, hb, hml, hown, hts⟩ (kX4_hasWay l D cI cC cQ (ad 0) (w 0) a1) ⟨va_cnB 1 hts gX6_enough_X4_hasWay_n112 rfl rfl rfl (nm_RX6_112 hN) (hts (.initialized RX4) (by decide +kernel)) mdsX4_hasWay ⟨Nat.le_of_ble_eq_true rfl, Nat.le_of_ble_eq_true rfl⟩, hts (.instanceMethod yX4_hasWay) (by decide +kernel), hts (.selects RX4 yX4_hasWay yX4_hasWay) (by decide +kernel)⟩ (x4_pre hK (mp_0 hP) hN) rfl rfl hl.1 rfl (lv_room (Nat.le_of_ble_eq_true rfl)) dX6_enough_5 ⟨Nat.zero_le _, Nat.zero_le _⟩)) (fun rn_1 hr_1 => ?_)
  obtain ⟨rfl, hz_1⟩ := hr_1
  refine lv_if_ne (tgt := 17) hx hb dX6_enough_8 (by decide) (fun c_2 => ?_) (fun c_2 => ?_)
  · have E := E.trans (if_neg c_2)
    have fc_2 := i_ne c_2
    rw [q_0] at fc_2
    have gc_2 := fX4_hasWay c_2
    refine lv_aload_n hx hb dX6_enough_17 rfl (lv_at hl 0 rfl) ?_
    refine g6_trial hx hb hts hin6 hown hK hP (hts (.fieldLink RX6 16 "LoadedForTheLane" "trial" "LLoadedForTheLane$Wagon;") (by decide +kernel)) dX6_enough_18 ?_
    refine lv_aload_n hx hb dX6_enough_21 rfl (lv_at hl 0 rfl) ?_
    refine g6_wagon hx hb hts hin6 hown hK hP (hts (.fieldLink RX6 10 "LoadedForTheLane" "wagon" "LLoadedForTheLane$Wagon;") (by decide +kernel)) dX6_enough_22 ?_
    refine va_callv (va_runVN (As := [.ref (ad 0 0)]) (rest := []) ⟨hx, hb, hml, hown, hts⟩ (kX4_become l D cI cC cQ (ad 1) (ad 0) (w 1) (w 0) (mdd_10 hd) (R6I_1 hI) (R6I_0 hI)) ⟨va_cnB 1 hts gX6_enough_X4_become_n66 rfl rfl rfl (nm_RX6_66 hN) (hts (.initialized RX4) (by decide +kernel)) mdsX4_become ⟨Nat.le_of_ble_eq_true rfl, Nat.le_of_ble_eq_true rfl⟩, hts (.instanceMethod yX4_become) (by decide +kernel), hts (.selects RX4 yX4_become yX4_become) (by decide +kernel)⟩ (x4b_pre rfl hK ((mp_1 hP).app (mp_0 hP)) hN) rfl rfl hl.1 rfl (lv_room (Nat.le_of_ble_eq_true rfl)) dX6_enough_25 ⟨Nat.zero_le _, Nat.zero_le _⟩) hS (fun _ _ h => mab_10 h) (fun _ h => mab_10 h) (fun un_3 t H locs ht hvm hp_3 hB hz hfr hS => ?_)
    obtain ⟨hp_3, hJ_3⟩ := hp_3
    have E := bns_e E hp_3
    have hP : va_P D vwCl (MWL cI cC cQ ad (sc w 1 un_3)) H := mp_bc10 hd hP (ht ▸ hB) hfr
    obtain ⟨wn_3, hwn_3⟩ : ∃ x, x = sc w 1 un_3 := ⟨_, rfl⟩
    rw [← hwn_3] at hP
    have E := bns_e E hwn_3
    have hI_3 : R6I wn_3 := by rw [hwn_3]; exact R6I_up1 hI hJ_3
    refine lv_iconst (v := 0) hx hb dX6_enough_28 (by decide) ?_
    refine lv_istore_n (lv' := [(2, .int 0), (0, .ref (ad 5 0)), (1, .int a1)]) hx hb dX6_enough_29 rfl hl (by decide) rfl (fun ls hl => ?_)
    have L_30 : ∀ (n_30 : Nat) (x2_30 : Int32) (w_30 : Nat → Nat → Nat → Int32) (H : Heap) (locs : List Loc) (ls : Array Slot), ((0 ≤ x2_30.toInt) ∧ (x2_30.toInt ≤ 6)) → (6 - x2_30.toInt < (n_30 : Int)) → R6I w_30 → va_P D vwCl (MWL cI cC cQ ad w_30) H → va_S (MA ad) s.heap H locs → lv_has ls 3 [(2, .int x2_30), (0, .ref (ad 5 0)), (1, .int a1)] → sX6_enough w a1 = sX6_enough_30 a1 n_30 x2_30 w_30 → W p l e (headSpec wsX6_enough rmX6_enough).room s m [Value.ref (ad 5 0), Value.int a1].toArray below meth c H locs 0 0 (MQ below (va_Qi (fun r u => (r, u) = sX6_enough w a1 ∧ R6I u) (fun u t => va_P D vwCl (MWL cI cC cQ ad u) t.heap) (MA ad)) [Value.ref (ad 5 0), Value.int a1].toArray s 0 0 (MA ad)) (F0 m 30 ls []) := by
      intro n_30
      induction n_30 with
      | zero =>
        intro x2_30 w_30 H locs ls hinv hm
        obtain ⟨v0_30, v1_30⟩ := hinv
        exact absurd hm (by omega)
      | succ n_30 ih_30 =>
        intro x2_30 w_30 H locs ls hinv hm_30 hI_30 hP hS hl E
        obtain ⟨v0_30, v1_30⟩ := hinv
        have E := E.trans (sX6_enough_30.eq_2 ..)
        refine lv_iload_n hx hb dX6_enough_30 rfl (lv_at hl 0 rfl) ?_
        refine va_gets (v := .ref (sd 1)) hx hb hSE.2.2.1 hS hown (hts (.fieldLink RX6 170 "LoadedForTheLane" "MOST_SETTING" "[I") (by decide +kernel)) (fun _ h9 => h9) dX6_enough_31 ?_
        refine lv_iconst (v := 0) hx hb dX6_enough_34 (by decide) ?_
        have ix_4 : vp_in 0 4 := by unfold vp_in; decide
        have hm_4 : (mostS 0).toInt = 5 := by decide +kernel
        refine va_ti (v := .int (mostS 0)) hx hb hSE.2.2.2 hS ix_4 (by rfl) dX6_enough_35 ?_
        refine lv_icmp_gt (tgt := 68) hx hb dX6_enough_36 (by decide) (fun c_5 => ?_) (fun c_5 => ?_)
        · have E := E.trans (if_pos c_5)
          have fc_5 := i_lt c_5
          refine lv_bipush (v := (-9)) hx hb dX6_enough_68 (by decide +kernel) ?_
          exact W.iret (v := (-9)) hx hb hr (fun t ht hW => ⟨⟨_, w_30, rfl, ⟨E.symm, hI_30⟩, by show va_P _ _ _ t.heap; rw [ht]; exact hP⟩, hS.F ht⟩) hS.2.2 dX6_enough_70
        · have E := E.trans (if_neg c_5)
          have fc_5 := i_nlt c_5
          refine lv_aload_n hx hb dX6_enough_39 rfl (lv_at hl 1 rfl) ?_
          refine g6_trial hx hb hts hin6 hown hK hP (hts (.fieldLink RX6 16 "LoadedForTheLane" "trial" "LLoadedForTheLane$Wagon;") (by decide +kernel)) dX6_enough_40 ?_
          refine g4_settingsn hx hb hts hin4 hown hK (mp_1 hP) (nf_RX6_173 hN) dX6_enough_43 ?_
          refine lv_iconst (v := 0) hx hb dX6_enough_46 (by decide) ?_
          refine lv_iload_n hx hb dX6_enough_47 rfl (lv_at hl 0 rfl) ?_
          have ix_6 : vp_in 0 4 := by unfold vp_in; decide
          refine a6_settings_1 (j := 0) hx hb hK hP hd hS ix_6 (by decide) dX6_enough_48 (fun H locs hP hS => ?_)
          obtain ⟨wn_6, hwn_6⟩ : ∃ x, x = sc w_30 1 (st (w_30 1) 7 0 x2_30) := ⟨_, rfl⟩
          rw [← hwn_6] at hP
          have E := bns_e E hwn_6
          have hI_6 : R6I wn_6 := by rw [hwn_6]; exact R6I_up1 hI_30 (R4I_arr (R6I_1 hI_30) (by decide))
          refine lv_aload_n hx hb dX6_enough_49 rfl (lv_at hl 1 rfl) ?_
          refine g6_trial hx hb hts hin6 hown hK hP (hts (.fieldLink RX6 16 "LoadedForTheLane" "trial" "LLoadedForTheLane$Wagon;") (by decide +kernel)) dX6_enough_50 ?_
          refine lv_iload_n hx hb dX6_enough_53 rfl (lv_at hl 2 rfl) ?_
          refine vp_callSi (va_Run.run (va_runVN (As := [.int a1]) (rest := []) ⟨hx, hb, hml, hown, hts⟩ (kX4_holds l D cI cC cQ (ad 1) (wn_6 1) a1 (R6I_1 hI_6) (by omega) (by omega)) ⟨va_cnB 1 hts gX6_enough_X4_holds_n189 rfl rfl rfl (nm_RX6_189 hN) (hts (.initialized RX4) (by decide +kernel)) mdsX4_holds ⟨Nat.le_of_ble_eq_true rfl, Nat.le_of_ble_eq_true rfl⟩, hts (.instanceMethod yX4_holds) (by decide +kernel), hts (.selects RX4 yX4_holds yX4_holds) (by decide +kernel)⟩ (x4_pre hK (mp_1 hP) hN) rfl rfl hl.1 rfl (lv_room (Nat.le_of_ble_eq_true rfl)) dX6_enough_54 ⟨Nat.zero_le _, Nat.zero_le _⟩)) (fun rn_7 hr_7 => ?_)
          obtain ⟨rfl, hz_7⟩ := hr_7
          refine lv_if_eq (tgt := 62) hx hb dX6_enough_57 (by decide) (fun c_8 => ?_) (fun c_8 => ?_)
          · have E := E.trans (if_pos c_8)
            have fc_8 := i_eq c_8
            rw [q_0] at fc_8
            refine lv_iinc (v := x2_30 + 1) (lv' := [(2, .int (x2_30 + 1)), (0, .ref (ad 5 0)), (1, .int a1)]) hx hb dX6_enough_62 hl (k := 0) rfl rfl (by decide) rfl (fun ls hl => ?_)
            refine lv_goto (tgt := 30) hx hb dX6_enough_65 (by decide) ?_
            try have := i_addr (a := x2_30) (b := 1) (n := 1) q_1 (by omega) (by omega)
            exact ih_30 (x2_30 + 1) wn_6 H locs ls ⟨by omega, by omega⟩ (by omega) hI_6 hP hS (lv_sub hl [0, 1, 2] rfl) E
          · have E := E.trans (if_neg c_8)
            have fc_8 := i_ne c_8
            rw [q_0] at fc_8
            refine lv_iload_n hx hb dX6_enough_60 rfl (lv_at hl 0 rfl) ?_
            exact W.iret (v := x2_30) hx hb hr (fun t ht hW => ⟨⟨_, wn_6, rfl, ⟨E.symm, hI_6⟩, by show va_P _ _ _ t.heap; rw [ht]; exact hP⟩, hS.F ht⟩) hS.2.2 dX6_enough_61
    have := q_0
    exact L_30 7 0 wn_3 H locs ls ⟨by omega, by omega⟩ (by omega) hI_3 hP hS (lv_sub hl [0, 1, 2] rfl) E
  · have E := E.trans (if_pos c_2)
    have fc_2 := i_eq c_2
    rw [q_0] at fc_2
    refine lv_aload_n hx hb dX6_enough_11 rfl (lv_at hl 0 rfl) ?_
    refine lv_iconst (v := (-1)) hx hb dX6_enough_12 (by decide) ?_
    refine va_calli (va_runV (As := [.int (-1)]) (rest := []) ⟨hx, hb, hml, hown, hts⟩ (kX6_refuse l D cI cC cQ ad sd aK aV w (-1) hd hI) (cwV 1 hts gX6_enough_X6_refuse rfl rfl rfl mdX6_refuse ⟨Nat.le_of_ble_eq_true rfl, Nat.le_of_ble_eq_true rfl⟩) (x6_pre hK hP hN hSE hST hS) rfl rfl hl.1 rfl (lv_room (Nat.le_of_ble_eq_true rfl)) dX6_enough_13 ⟨Nat.zero_le _, Nat.zero_le _⟩) hS (fun _ _ h => h) (fun _ h => h) (fun rn_9 wn_9 t H locs ht hvm hp_9 hB hz hfr hS => ?_)
    obtain ⟨hp_9, hJ_9⟩ := hp_9
    have E := bnd_e E hp_9
    have hP : va_P D vwCl (MWL cI cC cQ ad wn_9) H := ht ▸ hB
    exact W.iret (v := rn_9) hx hb hr (fun t ht hW => ⟨⟨_, wn_9, rfl, ⟨E.symm, hJ_9⟩, by show va_P _ _ _ t.heap; rw [ht]; exact hP⟩, hS.F ht⟩) hS.2.2 dX6_enough_16
abbrev rmX6_minutesHome : Room := { frames := 6, cells := 0, slots := 0, locals := 133 }
set_option maxHeartbeats 4000000 in
set_option maxRecDepth 100000 in
theorem kX6_minutesHome (l : Launch) (D : va_G) (cI cC cQ : ClassId) (ad : Nat → Nat → Nat) (sd aK aV : Nat → Nat) (w : Nat → Nat → Nat → Int32) (a1 : Int32)  (hI : R6I w) (h1 : 0 ≤ a1.toInt) (h2 : a1.toInt < 2) : Met l yX6_minutesHome wsX6_minutesHome rmX6_minutesHome (va_Pc [Value.ref (ad 5 0), Value.int a1] (fun U => va_P D vwCl (MWL cI cC cQ ad w) U.heap ∧ va_K D vwCl [(cI, .int), (cC, .char), (cQ, .object "LoadedForTheLane$Way")] U ∧ NW U ∧ SE sd (MA ad) U U.heap ∧ STR aK aV (MA ad) U U.heap)) (vp_Si (fun r => r = sX6_minutesHome w a1)) 0 0 (fun _ => False) := by
  refine Met.ofW (cc := cX6_minutesHome) (maxL := 2) (ret := (some .int)) (by decide) rfl ?_
  intro p e s m args below meth c s₁ B hml hv
  obtain ⟨rfl, hP, hK, hN, hSE, hST⟩ := hv
  have hx := B.exec
  have hb := B.bytes
  have hr := B.returns
  have hts := atoms_spec (ws := wsX6_minutesHome) B.pre
  have hown : s.vm.findClass RX6 = some m.cls := findClass_of_methodNamed B.named
  have hlocks := B.notSynchronized
  have hin4 : ∀ q ∈ wsX40, q ∈ wsX6_minutesHome := by decide +kernel
  have hin6 : ∀ q ∈ wsX60, q ∈ wsX6_minutesHome := by decide +kernel
  have hl := lv_entry ([.ref (ad 5 0), .int a1]) (n := 2) (Nat.le_of_ble_eq_true rfl)
  rw [lg_entry_eq]
  generalize (lg_sl ([.ref (ad 5 0), .int a1]) ++ List.replicate (2 - (lg_sl ([.ref (ad 5 0), .int a1])).length) Slot.unset).toArray = ls at hl ⊢
  have hl : lv_has ls 2 [(0, .ref (ad 5 0)), (1, .int a1)] := hl
  have E := sX6_minutesHome.eq_1 w a1
  refine lv_aload_n hx hb dX6_minutesHome_0 rfl (lv_at hl 0 rfl) ?_
  refine g6_wagon hx hb hts hin6 hown hK hP (hts (.fieldLink RX6 10 "LoadedForTheLane" "wagon" "LLoadedForTheLane$Wagon;") (by decide +kernel)) dX6_minutesHome_1 ?_
  refine lv_iload_n hx hb dX6_minutesHome_4 rfl (lv_at hl 1 rfl) ?_
  refine vp_callSi (va_Run.run (va_runVN (As := [.int a1]) (rest := []) ⟨hx, hb, hml, hown, hts⟩ (kX4_holds l D cI cC cQ (ad 0) (w 0) a1 (R6I_0 hI) (by omega) (by omega)) ⟨va_cnB 1 hts gX6_minutesHome_X4_holds_n189 rfl rfl rfl (nm_RX6_189 hN) (hts (.initialized RX4) (by decide +kernel)) mdsX4_holds ⟨Nat.le_of_ble_eq_true rfl, Nat.le_of_ble_eq_true rfl⟩, hts (.instanceMethod yX4_holds) (by decide +kernel), hts (.selects RX4 yX4_holds yX4_holds) (by decide +kernel)⟩ (x4_pre hK (mp_0 hP) hN) rfl rfl hl.1 rfl (lv_room (Nat.le_of_ble_eq_true rfl)) dX6_minutesHome_5 ⟨Nat.zero_le _, Nat.zero_le _⟩)) (fun rn_1 hr_1 => ?_)
  obtain ⟨rfl, hz_1⟩ := hr_1
  refine lv_if_eq (tgt := 26) hx hb dX6_minutesHome_8 (by decide) (fun c_2 => ?_) (fun c_2 => ?_)
  · have E := E.trans (if_pos c_2)
    have fc_2 := i_eq c_2
    rw [q_0] at fc_2
    refine lv_bipush (v := (-9)) hx hb dX6_minutesHome_26 (by decide +kernel) ?_
    exact W.iret (v := (-9)) hx hb hr (fun t ht hW => ⟨_, rfl, E.symm, ht⟩) (fun q hq => by cases hq) dX6_minutesHome_28
  · have E := E.trans (if_neg c_2)
    have fc_2 := i_ne c_2
    rw [q_0] at fc_2
    refine lv_aload_n hx hb dX6_minutesHome_11 rfl (lv_at hl 0 rfl) ?_
    refine g6_wagon hx hb hts hin6 hown hK hP (hts (.fieldLink RX6 10 "LoadedForTheLane" "wagon" "LLoadedForTheLane$Wagon;") (by decide +kernel)) dX6_minutesHome_12 ?_
    refine g4_waysn hx hb hts hin4 hown hK (mp_0 hP) (nf_RX6_115 hN) dX6_minutesHome_15 ?_
    refine lv_iload_n hx hb dX6_minutesHome_18 rfl (lv_at hl 1 rfl) ?_
    have ix_3 : vp_in a1 2 := ix_of (by omega) (by omega)
    refine q4_ways (j := (a1.toNatClampNeg)) hx hb hK (mp_0 hP) ix_3 rfl dX6_minutesHome_19 ?_
    have hk_3 : (a1.toNatClampNeg) < 2 := by have := ix_cl (x := a1) (by omega); omega
    refine vp_callSi (va_Run.run (va_runVN (As := []) (rest := []) ⟨hx, hb, hml, hown, hts⟩ (kX5_allMinutes l D cI cC cQ (fun j => ad 0 (10 + 4 * (a1.toNatClampNeg) + j)) (wy (w 0) (a1.toNatClampNeg)) (R5I_of (R6I_0 hI) hk_3)) ⟨va_cnB 0 hts gX6_minutesHome_X5_allMinutes_n200 rfl rfl rfl (nm_RX6_200 hN) (hts (.initialized RX5) (by decide +kernel)) mdsX5_allMinutes ⟨Nat.le_of_ble_eq_true rfl, Nat.le_of_ble_eq_true rfl⟩, hts (.instanceMethod yX5_allMinutes) (by decide +kernel), hts (.selects RX5 yX5_allMinutes yX5_allMinutes) (by decide +kernel)⟩ (x5_pre hK (wg_way hk_3 (mp_0 hP))) rfl rfl hl.1 rfl (lv_room (Nat.le_of_ble_eq_true rfl)) dX6_minutesHome_20 ⟨Nat.zero_le _, Nat.zero_le _⟩)) (fun rn_4 hr_4 => ?_)
    subst hr_4
    refine lv_goto (tgt := 28) hx hb dX6_minutesHome_23 (by decide) ?_
    exact W.iret (v := (sX5_allMinutes (wy (w 0) (a1.toNatClampNeg)))) hx hb hr (fun t ht hW => ⟨_, rfl, E.symm, ht⟩) (fun q hq => by cases hq) dX6_minutesHome_28
abbrev rmX6_home : Room := { frames := 7, cells := 0, slots := 0, locals := 154 }
set_option maxHeartbeats 4000000 in
set_option maxRecDepth 100000 in
theorem kX6_home (l : Launch) (D : va_G) (cI cC cQ : ClassId) (ad : Nat → Nat → Nat) (sd aK aV : Nat → Nat) (w : Nat → Nat → Nat → Int32) (a1 : Int32) (hd : MD ad) (hI : R6I w)  : Met l yX6_home wsX6_home rmX6_home (va_Pc [Value.ref (ad 5 0), Value.int a1] (fun U => va_P D vwCl (MWL cI cC cQ ad w) U.heap ∧ va_K D vwCl [(cI, .int), (cC, .char), (cQ, .object "LoadedForTheLane$Way")] U ∧ NW U ∧ SE sd (MA ad) U U.heap ∧ STR aK aV (MA ad) U U.heap)) (va_Qi (fun r u => (r, u) = sX6_home w a1 ∧ R6I u) (fun u t => va_P D vwCl (MWL cI cC cQ ad u) t.heap) (MA ad)) 0 0 (MA ad) := by
  refine Met.ofW (cc := cX6_home) (maxL := 2) (ret := (some .int)) (by decide) rfl ?_
  intro p e s m args below meth c s₁ B hml hv
  obtain ⟨rfl, hP, hK, hN, hSE, hST⟩ := hv
  have hx := B.exec
  have hb := B.bytes
  have hr := B.returns
  have hts := atoms_spec (ws := wsX6_home) B.pre
  have hown : s.vm.findClass RX6 = some m.cls := findClass_of_methodNamed B.named
  have hlocks := B.notSynchronized
  have hin6 : ∀ q ∈ wsX60, q ∈ wsX6_home := by decide +kernel
  have hl := lv_entry ([.ref (ad 5 0), .int a1]) (n := 2) (Nat.le_of_ble_eq_true rfl)
  rw [lg_entry_eq]
  generalize (lg_sl ([.ref (ad 5 0), .int a1]) ++ List.replicate (2 - (lg_sl ([.ref (ad 5 0), .int a1])).length) Slot.unset).toArray = ls at hl ⊢
  have hl : lv_has ls 2 [(0, .ref (ad 5 0)), (1, .int a1)] := hl
  suffices hgo : ∀ (H : Heap) (locs : List Loc), va_P D vwCl (MWL cI cC cQ ad w) H → va_S (MA ad) s.heap H locs → W p l e (headSpec wsX6_home rmX6_home).room s m [Value.ref (ad 5 0), Value.int a1].toArray below meth c H locs 0 0 (MQ below (va_Qi (fun r u => (r, u) = sX6_home w a1 ∧ R6I u) (fun u t => va_P D vwCl (MWL cI cC cQ ad u) t.heap) (MA ad)) [Value.ref (ad 5 0), Value.int a1].toArray s 0 0 (MA ad)) (F0 m 0 ls []) from hgo s.heap [] hP va_S.rf
  intro H locs hP hS
  have E := sX6_home.eq_1 w a1
  refine lv_aload_n hx hb dX6_home_0 rfl (lv_at hl 0 rfl) ?_
  refine g6_wagon hx hb hts hin6 hown hK hP (hts (.fieldLink RX6 10 "LoadedForTheLane" "wagon" "LLoadedForTheLane$Wagon;") (by decide +kernel)) dX6_home_1 ?_
  refine lv_iload_n hx hb dX6_home_4 rfl (lv_at hl 1 rfl) ?_
  refine vp_callSi (va_Run.run (va_runVN (As := [.int a1]) (rest := []) ⟨hx, hb, hml, hown, hts⟩ (kX4_hasWay l D cI cC cQ (ad 0) (w 0) a1) ⟨va_cnB 1 hts gX6_home_X4_hasWay_n112 rfl rfl rfl (nm_RX6_112 hN) (hts (.initialized RX4) (by decide +kernel)) mdsX4_hasWay ⟨Nat.le_of_ble_eq_true rfl, Nat.le_of_ble_eq_true rfl⟩, hts (.instanceMethod yX4_hasWay) (by decide +kernel), hts (.selects RX4 yX4_hasWay yX4_hasWay) (by decide +kernel)⟩ (x4_pre hK (mp_0 hP) hN) rfl rfl hl.1 rfl (lv_room (Nat.le_of_ble_eq_true rfl)) dX6_home_5 ⟨Nat.zero_le _, Nat.zero_le _⟩)) (fun rn_1 hr_1 => ?_)
  obtain ⟨rfl, hz_1⟩ := hr_1
  refine lv_if_ne (tgt := 17) hx hb dX6_home_8 (by decide) (fun c_2 => ?_) (fun c_2 => ?_)
  · have E := E.trans (if_neg c_2)
    have fc_2 := i_ne c_2
    rw [q_0] at fc_2
    have gc_2 := fX4_hasWay c_2
    refine lv_aload_n hx hb dX6_home_17 rfl (lv_at hl 0 rfl) ?_
    refine lv_iload_n hx hb dX6_home_18 rfl (lv_at hl 1 rfl) ?_
    refine vp_callSi (va_Run.run (va_runV (As := [.int a1]) (rest := []) ⟨hx, hb, hml, hown, hts⟩ (kX6_minutesHome l D cI cC cQ ad sd aK aV w a1 hI (by omega) (by omega)) (cwV 1 hts gX6_home_X6_minutesHome rfl rfl rfl mdX6_minutesHome ⟨Nat.le_of_ble_eq_true rfl, Nat.le_of_ble_eq_true rfl⟩) (x6_pre hK hP hN hSE hST hS) rfl rfl hl.1 rfl (lv_room (Nat.le_of_ble_eq_true rfl)) dX6_home_19 ⟨Nat.zero_le _, Nat.zero_le _⟩)) (fun rn_3 hr_3 => ?_)
    subst hr_3
    exact W.iret (v := (sX6_minutesHome w a1)) hx hb hr (fun t ht hW => ⟨⟨_, w, rfl, ⟨E.symm, hI⟩, by show va_P _ _ _ t.heap; rw [ht]; exact hP⟩, hS.F ht⟩) hS.2.2 dX6_home_22
  · have E := E.trans (if_pos c_2)
    have fc_2 := i_eq c_2
    rw [q_0] at fc_2
    refine lv_aload_n hx hb dX6_home_11 rfl (lv_at hl 0 rfl) ?_
    refine lv_iconst (v := (-1)) hx hb dX6_home_12 (by decide) ?_
    refine va_calli (va_runV (As := [.int (-1)]) (rest := []) ⟨hx, hb, hml, hown, hts⟩ (kX6_refuse l D cI cC cQ ad sd aK aV w (-1) hd hI) (cwV 1 hts gX6_home_X6_refuse rfl rfl rfl mdX6_refuse ⟨Nat.le_of_ble_eq_true rfl, Nat.le_of_ble_eq_true rfl⟩) (x6_pre hK hP hN hSE hST hS) rfl rfl hl.1 rfl (lv_room (Nat.le_of_ble_eq_true rfl)) dX6_home_13 ⟨Nat.zero_le _, Nat.zero_le _⟩) hS (fun _ _ h => h) (fun _ h => h) (fun rn_4 wn_4 t H locs ht hvm hp_4 hB hz hfr hS => ?_)
    obtain ⟨hp_4, hJ_4⟩ := hp_4
    have E := bnd_e E hp_4
    have hP : va_P D vwCl (MWL cI cC cQ ad wn_4) H := ht ▸ hB
    exact W.iret (v := rn_4) hx hb hr (fun t ht hW => ⟨⟨_, wn_4, rfl, ⟨E.symm, hJ_4⟩, by show va_P _ _ _ t.heap; rw [ht]; exact hP⟩, hS.F ht⟩) hS.2.2 dX6_home_16
abbrev rmX6_which : Room := { frames := 7, cells := 0, slots := 0, locals := 154 }
set_option maxHeartbeats 4000000 in
set_option maxRecDepth 100000 in
theorem kX6_which (l : Launch) (D : va_G) (cI cC cQ : ClassId) (ad : Nat → Nat → Nat) (sd aK aV : Nat → Nat) (w : Nat → Nat → Nat → Int32)  (hI : R6I w)  : Met l yX6_which wsX6_which rmX6_which (va_Pc [Value.ref (ad 5 0)] (fun U => va_P D vwCl (MWL cI cC cQ ad w) U.heap ∧ va_K D vwCl [(cI, .int), (cC, .char), (cQ, .object "LoadedForTheLane$Way")] U ∧ NW U ∧ SE sd (MA ad) U U.heap ∧ STR aK aV (MA ad) U U.heap)) (vp_Si (fun r => r = sX6_which w)) 0 0 (fun _ => False) := by
  refine Met.ofW (cc := cX6_which) (maxL := 3) (ret := (some .int)) (by decide) rfl ?_
  intro p e s m args below meth c s₁ B hml hv
  obtain ⟨rfl, hP, hK, hN, hSE, hST⟩ := hv
  have hx := B.exec
  have hb := B.bytes
  have hr := B.returns
  have hts := atoms_spec (ws := wsX6_which) B.pre
  have hown : s.vm.findClass RX6 = some m.cls := findClass_of_methodNamed B.named
  have hlocks := B.notSynchronized
  have hl := lv_entry ([.ref (ad 5 0)]) (n := 3) (Nat.le_of_ble_eq_true rfl)
  rw [lg_entry_eq]
  generalize (lg_sl ([.ref (ad 5 0)]) ++ List.replicate (3 - (lg_sl ([.ref (ad 5 0)])).length) Slot.unset).toArray = ls at hl ⊢
  have hl : lv_has ls 3 [(0, .ref (ad 5 0))] := hl
  have E := sX6_which.eq_1 w
  refine lv_aload_n hx hb dX6_which_0 rfl (lv_at hl 0 rfl) ?_
  refine lv_iconst (v := 0) hx hb dX6_which_1 (by decide) ?_
  have := q_0
  refine vp_callSi (va_Run.run (va_runV (As := [.int 0]) (rest := []) ⟨hx, hb, hml, hown, hts⟩ (kX6_minutesHome l D cI cC cQ ad sd aK aV w 0 hI (by omega) (by omega)) (cwV 1 hts gX6_which_X6_minutesHome rfl rfl rfl mdX6_minutesHome ⟨Nat.le_of_ble_eq_true rfl, Nat.le_of_ble_eq_true rfl⟩) (x6_pre hK hP hN hSE hST va_S.rf) rfl rfl hl.1 rfl (lv_room (Nat.le_of_ble_eq_true rfl)) dX6_which_2 ⟨Nat.zero_le _, Nat.zero_le _⟩)) (fun rn_1 hr_1 => ?_)
  subst hr_1
  refine lv_istore_n (lv' := [(1, .int (sX6_minutesHome w 0)), (0, .ref (ad 5 0))]) hx hb dX6_which_5 rfl hl (by decide) rfl (fun ls hl => ?_)
  refine lv_aload_n hx hb dX6_which_6 rfl (lv_at hl 1 rfl) ?_
  refine lv_iconst (v := 1) hx hb dX6_which_7 (by decide) ?_
  have := q_1
  refine vp_callSi (va_Run.run (va_runV (As := [.int 1]) (rest := []) ⟨hx, hb, hml, hown, hts⟩ (kX6_minutesHome l D cI cC cQ ad sd aK aV w 1 hI (by omega) (by omega)) (cwV 1 hts gX6_which_X6_minutesHome rfl rfl rfl mdX6_minutesHome ⟨Nat.le_of_ble_eq_true rfl, Nat.le_of_ble_eq_true rfl⟩) (x6_pre hK hP hN hSE hST va_S.rf) rfl rfl hl.1 rfl (lv_room (Nat.le_of_ble_eq_true rfl)) dX6_which_8 ⟨Nat.zero_le _, Nat.zero_le _⟩)) (fun rn_2 hr_2 => ?_)
  subst hr_2
  refine lv_istore_n (lv' := [(2, .int (sX6_minutesHome w 1)), (1, .int (sX6_minutesHome w 0)), (0, .ref (ad 5 0))]) hx hb dX6_which_11 rfl hl (by decide) rfl (fun ls hl => ?_)
  refine lv_iload_n hx hb dX6_which_12 rfl (lv_at hl 1 rfl) ?_
  refine lv_bipush (v := (-9)) hx hb dX6_which_13 (by decide +kernel) ?_
  refine lv_icmp_ne (tgt := 31) hx hb dX6_which_15 (by decide) (fun c_3 => ?_) (fun c_3 => ?_)
  · have E := E.trans (if_neg c_3)
    have fc_3 := i_ne c_3
    rw [q_m9] at fc_3
    refine lv_iload_n hx hb dX6_which_31 rfl (lv_at hl 0 rfl) ?_
    refine lv_bipush (v := (-9)) hx hb dX6_which_32 (by decide +kernel) ?_
    refine lv_icmp_eq (tgt := 42) hx hb dX6_which_34 (by decide) (fun c_4 => ?_) (fun c_4 => ?_)
    · have E := E.trans (if_pos c_4)
      have fc_4 := i_eq c_4
      rw [q_m9] at fc_4
      refine lv_iconst (v := 0) hx hb dX6_which_42 (by decide) ?_
      refine lv_goto (tgt := 47) hx hb dX6_which_43 (by decide) ?_
      exact W.iret (v := 0) hx hb hr (fun t ht hW => ⟨_, rfl, E.symm, ht⟩) (fun q hq => by cases hq) dX6_which_47
    · have E := E.trans (if_neg c_4)
      have fc_4 := i_ne c_4
      rw [q_m9] at fc_4
      refine lv_iload_n hx hb dX6_which_37 rfl (lv_at hl 1 rfl) ?_
      refine lv_iload_n hx hb dX6_which_38 rfl (lv_at hl 0 rfl) ?_
      refine lv_icmp_gt (tgt := 46) hx hb dX6_which_39 (by decide) (fun c_5 => ?_) (fun c_5 => ?_)
      · have E := E.trans (if_pos c_5)
        have fc_5 := i_lt c_5
        refine lv_iconst (v := 1) hx hb dX6_which_46 (by decide) ?_
        exact W.iret (v := 1) hx hb hr (fun t ht hW => ⟨_, rfl, E.symm, ht⟩) (fun q hq => by cases hq) dX6_which_47
      · have E := E.trans (if_neg c_5)
        have fc_5 := i_nlt c_5
        refine lv_iconst (v := 0) hx hb dX6_which_42 (by decide) ?_
        refine lv_goto (tgt := 47) hx hb dX6_which_43 (by decide) ?_
        exact W.iret (v := 0) hx hb hr (fun t ht hW => ⟨_, rfl, E.symm, ht⟩) (fun q hq => by cases hq) dX6_which_47
  · have E := E.trans (if_pos c_3)
    have fc_3 := i_eq c_3
    rw [q_m9] at fc_3
    refine lv_iload_n hx hb dX6_which_18 rfl (lv_at hl 0 rfl) ?_
    refine lv_bipush (v := (-9)) hx hb dX6_which_19 (by decide +kernel) ?_
    refine lv_icmp_ne (tgt := 29) hx hb dX6_which_21 (by decide) (fun c_6 => ?_) (fun c_6 => ?_)
    · have E := E.trans (if_neg c_6)
      have fc_6 := i_ne c_6
      rw [q_m9] at fc_6
      refine lv_iconst (v := 1) hx hb dX6_which_29 (by decide) ?_
      exact W.iret (v := 1) hx hb hr (fun t ht hW => ⟨_, rfl, E.symm, ht⟩) (fun q hq => by cases hq) dX6_which_30
    · have E := E.trans (if_pos c_6)
      have fc_6 := i_eq c_6
      rw [q_m9] at fc_6
      refine lv_bipush (v := (-9)) hx hb dX6_which_24 (by decide +kernel) ?_
      refine lv_goto (tgt := 30) hx hb dX6_which_26 (by decide) ?_
      exact W.iret (v := (-9)) hx hb hr (fun t ht hW => ⟨_, rfl, E.symm, ht⟩) (fun q hq => by cases hq) dX6_which_30
abbrev rmX6_pitching : Room := { frames := 2, cells := 0, slots := 0, locals := 43 }
set_option maxHeartbeats 4000000 in
set_option maxRecDepth 100000 in
theorem kX6_pitching (l : Launch) (D : va_G) (cI cC cQ : ClassId) (ad : Nat → Nat → Nat) (sd aK aV : Nat → Nat) (w : Nat → Nat → Nat → Int32) (a1 : Int32) (hd : MD ad) (hI : R6I w)  : Met l yX6_pitching wsX6_pitching rmX6_pitching (va_Pc [Value.ref (ad 5 0), Value.int a1] (fun U => va_P D vwCl (MWL cI cC cQ ad w) U.heap ∧ va_K D vwCl [(cI, .int), (cC, .char), (cQ, .object "LoadedForTheLane$Way")] U ∧ NW U ∧ SE sd (MA ad) U U.heap ∧ STR aK aV (MA ad) U U.heap)) (va_Qi (fun r u => (r, u) = sX6_pitching w a1 ∧ R6I u) (fun u t => va_P D vwCl (MWL cI cC cQ ad u) t.heap) (MA ad)) 0 0 (MA ad) := by
  refine Met.ofW (cc := cX6_pitching) (maxL := 2) (ret := (some .int)) (by decide) rfl ?_
  intro p e s m args below meth c s₁ B hml hv
  obtain ⟨rfl, hP, hK, hN, hSE, hST⟩ := hv
  have hx := B.exec
  have hb := B.bytes
  have hr := B.returns
  have hts := atoms_spec (ws := wsX6_pitching) B.pre
  have hown : s.vm.findClass RX6 = some m.cls := findClass_of_methodNamed B.named
  have hlocks := B.notSynchronized
  have hin6 : ∀ q ∈ wsX60, q ∈ wsX6_pitching := by decide +kernel
  have hl := lv_entry ([.ref (ad 5 0), .int a1]) (n := 2) (Nat.le_of_ble_eq_true rfl)
  rw [lg_entry_eq]
  generalize (lg_sl ([.ref (ad 5 0), .int a1]) ++ List.replicate (2 - (lg_sl ([.ref (ad 5 0), .int a1])).length) Slot.unset).toArray = ls at hl ⊢
  have hl : lv_has ls 2 [(0, .ref (ad 5 0)), (1, .int a1)] := hl
  suffices hgo : ∀ (H : Heap) (locs : List Loc), va_P D vwCl (MWL cI cC cQ ad w) H → va_S (MA ad) s.heap H locs → W p l e (headSpec wsX6_pitching rmX6_pitching).room s m [Value.ref (ad 5 0), Value.int a1].toArray below meth c H locs 0 0 (MQ below (va_Qi (fun r u => (r, u) = sX6_pitching w a1 ∧ R6I u) (fun u t => va_P D vwCl (MWL cI cC cQ ad u) t.heap) (MA ad)) [Value.ref (ad 5 0), Value.int a1].toArray s 0 0 (MA ad)) (F0 m 0 ls []) from hgo s.heap [] hP va_S.rf
  intro H locs hP hS
  have E := sX6_pitching.eq_1 w a1
  refine lv_iload_n hx hb dX6_pitching_0 rfl (lv_at hl 1 rfl) ?_
  refine va_gets (v := .ref (sd 0)) hx hb hSE.1 hS hown (hts (.fieldLink RX6 167 "LoadedForTheLane" "LEAST_SETTING" "[I") (by decide +kernel)) (fun _ h9 => h9) dX6_pitching_1 ?_
  refine lv_iconst (v := 2) hx hb dX6_pitching_4 (by decide) ?_
  have ix_1 : vp_in 2 4 := by unfold vp_in; decide
  have hm_1 : (leastS 2).toInt = 1 := by decide +kernel
  refine va_ti (v := .int (leastS 2)) hx hb hSE.2.1 hS ix_1 (by rfl) dX6_pitching_5 ?_
  refine lv_icmp_ge (tgt := 16) hx hb dX6_pitching_6 (by decide) (fun c_2 => ?_) (fun c_2 => ?_)
  · have E := E.trans (if_pos c_2)
    have fc_2 := i_le c_2
    refine lv_iload_n hx hb dX6_pitching_16 rfl (lv_at hl 1 rfl) ?_
    refine va_gets (v := .ref (sd 1)) hx hb hSE.2.2.1 hS hown (hts (.fieldLink RX6 170 "LoadedForTheLane" "MOST_SETTING" "[I") (by decide +kernel)) (fun _ h9 => h9) dX6_pitching_17 ?_
    refine lv_iconst (v := 2) hx hb dX6_pitching_20 (by decide) ?_
    have ix_3 : vp_in 2 4 := by unfold vp_in; decide
    have hm_3 : (mostS 2).toInt = 9 := by decide +kernel
    refine va_ti (v := .int (mostS 2)) hx hb hSE.2.2.2 hS ix_3 (by rfl) dX6_pitching_21 ?_
    refine lv_icmp_le (tgt := 32) hx hb dX6_pitching_22 (by decide) (fun c_4 => ?_) (fun c_4 => ?_)
    · have E := E.trans (if_pos c_4)
      have fc_4 := i_le c_4
      refine lv_aload_n hx hb dX6_pitching_32 rfl (lv_at hl 0 rfl) ?_
      refine g6_wagon hx hb hts hin6 hown hK hP (hts (.fieldLink RX6 10 "LoadedForTheLane" "wagon" "LLoadedForTheLane$Wagon;") (by decide +kernel)) dX6_pitching_33 ?_
      refine lv_iload_n hx hb dX6_pitching_36 rfl (lv_at hl 1 rfl) ?_
      refine vp_callSi (va_Run.run (va_runVN (As := [.int a1]) (rest := []) ⟨hx, hb, hml, hown, hts⟩ (kX4_pitchingMinutes l D cI cC cQ (ad 0) (w 0) a1 (R6I_0 hI)) ⟨va_cnB 1 hts gX6_pitching_X4_pitchingMinutes_n203 rfl rfl rfl (nm_RX6_203 hN) (hts (.initialized RX4) (by decide +kernel)) mdsX4_pitchingMinutes ⟨Nat.le_of_ble_eq_true rfl, Nat.le_of_ble_eq_true rfl⟩, hts (.instanceMethod yX4_pitchingMinutes) (by decide +kernel), hts (.selects RX4 yX4_pitchingMinutes yX4_pitchingMinutes) (by decide +kernel)⟩ (x4_pre hK (mp_0 hP) hN) rfl rfl hl.1 rfl (lv_room (Nat.le_of_ble_eq_true rfl)) dX6_pitching_37 ⟨Nat.zero_le _, Nat.zero_le _⟩)) (fun rn_5 hr_5 => ?_)
      subst hr_5
      exact W.iret (v := (sX4_pitchingMinutes (w 0) a1)) hx hb hr (fun t ht hW => ⟨⟨_, w, rfl, ⟨E.symm, hI⟩, by show va_P _ _ _ t.heap; rw [ht]; exact hP⟩, hS.F ht⟩) hS.2.2 dX6_pitching_40
    · have E := E.trans (if_neg c_4)
      have fc_4 := i_nle c_4
      refine lv_aload_n hx hb dX6_pitching_25 rfl (lv_at hl 0 rfl) ?_
      refine lv_bipush (v := (-6)) hx hb dX6_pitching_26 (by decide +kernel) ?_
      refine va_calli (va_runV (As := [.int (-6)]) (rest := []) ⟨hx, hb, hml, hown, hts⟩ (kX6_refuse l D cI cC cQ ad sd aK aV w (-6) hd hI) (cwV 1 hts gX6_pitching_X6_refuse rfl rfl rfl mdX6_refuse ⟨Nat.le_of_ble_eq_true rfl, Nat.le_of_ble_eq_true rfl⟩) (x6_pre hK hP hN hSE hST hS) rfl rfl hl.1 rfl (lv_room (Nat.le_of_ble_eq_true rfl)) dX6_pitching_28 ⟨Nat.zero_le _, Nat.zero_le _⟩) hS (fun _ _ h => h) (fun _ h => h) (fun rn_6 wn_6 t H locs ht hvm hp_6 hB hz hfr hS => ?_)
      obtain ⟨hp_6, hJ_6⟩ := hp_6
      have E := bnd_e E hp_6
      have hP : va_P D vwCl (MWL cI cC cQ ad wn_6) H := ht ▸ hB
      exact W.iret (v := rn_6) hx hb hr (fun t ht hW => ⟨⟨_, wn_6, rfl, ⟨E.symm, hJ_6⟩, by show va_P _ _ _ t.heap; rw [ht]; exact hP⟩, hS.F ht⟩) hS.2.2 dX6_pitching_31
  · have E := E.trans (if_neg c_2)
    have fc_2 := i_nle c_2
    refine lv_aload_n hx hb dX6_pitching_9 rfl (lv_at hl 0 rfl) ?_
    refine lv_bipush (v := (-4)) hx hb dX6_pitching_10 (by decide +kernel) ?_
    refine va_calli (va_runV (As := [.int (-4)]) (rest := []) ⟨hx, hb, hml, hown, hts⟩ (kX6_refuse l D cI cC cQ ad sd aK aV w (-4) hd hI) (cwV 1 hts gX6_pitching_X6_refuse rfl rfl rfl mdX6_refuse ⟨Nat.le_of_ble_eq_true rfl, Nat.le_of_ble_eq_true rfl⟩) (x6_pre hK hP hN hSE hST hS) rfl rfl hl.1 rfl (lv_room (Nat.le_of_ble_eq_true rfl)) dX6_pitching_12 ⟨Nat.zero_le _, Nat.zero_le _⟩) hS (fun _ _ h => h) (fun _ h => h) (fun rn_7 wn_7 t H locs ht hvm hp_7 hB hz hfr hS => ?_)
    obtain ⟨hp_7, hJ_7⟩ := hp_7
    have E := bnd_e E hp_7
    have hP : va_P D vwCl (MWL cI cC cQ ad wn_7) H := ht ▸ hB
    exact W.iret (v := rn_7) hx hb hr (fun t ht hW => ⟨⟨_, wn_7, rfl, ⟨E.symm, hJ_7⟩, by show va_P _ _ _ t.heap; rw [ht]; exact hP⟩, hS.F ht⟩) hS.2.2 dX6_pitching_15
abbrev rmX6_quick : Room := { frames := 6, cells := 0, slots := 0, locals := 133 }
set_option maxHeartbeats 4000000 in
set_option maxRecDepth 100000 in
theorem kX6_quick (l : Launch) (D : va_G) (cI cC cQ : ClassId) (ad : Nat → Nat → Nat) (sd aK aV : Nat → Nat) (w : Nat → Nat → Nat → Int32) (a1 : Int32) (hd : MD ad) (hI : R6I w)  : Met l yX6_quick wsX6_quick rmX6_quick (va_Pc [Value.ref (ad 5 0), Value.int a1] (fun U => va_P D vwCl (MWL cI cC cQ ad w) U.heap ∧ va_K D vwCl [(cI, .int), (cC, .char), (cQ, .object "LoadedForTheLane$Way")] U ∧ NW U ∧ SE sd (MA ad) U U.heap ∧ STR aK aV (MA ad) U U.heap)) (va_Qi (fun r u => (r, u) = sX6_quick w a1 ∧ R6I u) (fun u t => va_P D vwCl (MWL cI cC cQ ad u) t.heap) (MA ad)) 0 0 (MA ad) := by
  refine Met.ofW (cc := cX6_quick) (maxL := 6) (ret := (some .int)) (by decide) rfl ?_
  intro p e s m args below meth c s₁ B hml hv
  obtain ⟨rfl, hP, hK, hN, hSE, hST⟩ := hv
  have hx := B.exec
  have hb := B.bytes
  have hr := B.returns
  have hts := atoms_spec (ws := wsX6_quick) B.pre
  have hown : s.vm.findClass RX6 = some m.cls := findClass_of_methodNamed B.named
  have hlocks := B.notSynchronized
  have hin4 : ∀ q ∈ wsX40, q ∈ wsX6_quick := by decide +kernel
  have hin6 : ∀ q ∈ wsX60, q ∈ wsX6_quick := by decide +kernel
  have hl := lv_entry ([.ref (ad 5 0), .int a1]) (n := 6) (Nat.le_of_ble_eq_true rfl)
  rw [lg_entry_eq]
  generalize (lg_sl ([.ref (ad 5 0), .int a1]) ++ List.replicate (6 - (lg_sl ([.ref (ad 5 0), .int a1])).length) Slot.unset).toArray = ls at hl ⊢
  have hl : lv_has ls 6 [(0, .ref (ad 5 0)), (1, .int a1)] := hl
  suffices hgo : ∀ (H : Heap) (locs : List Loc), va_P D vwCl (MWL cI cC cQ ad w) H → va_S (MA ad) s.heap H locs → W p l e (headSpec wsX6_quick rmX6_quick).room s m [Value.ref (ad 5 0), Value.int a1].toArray below meth c H locs 0 0 (MQ below (va_Qi (fun r u => (r, u) = sX6_quick w a1 ∧ R6I u) (fun u t => va_P D vwCl (MWL cI cC cQ ad u) t.heap) (MA ad)) [Value.ref (ad 5 0), Value.int a1].toArray s 0 0 (MA ad)) (F0 m 0 ls []) from hgo s.heap [] hP va_S.rf
  intro H locs hP hS
  have E := sX6_quick.eq_1 w a1
  refine lv_aload_n hx hb dX6_quick_0 rfl (lv_at hl 0 rfl) ?_
  refine g6_wagon hx hb hts hin6 hown hK hP (hts (.fieldLink RX6 10 "LoadedForTheLane" "wagon" "LLoadedForTheLane$Wagon;") (by decide +kernel)) dX6_quick_1 ?_
  refine lv_iload_n hx hb dX6_quick_4 rfl (lv_at hl 1 rfl) ?_
  refine vp_callSi (va_Run.run (va_runVN (As := [.int a1]) (rest := []) ⟨hx, hb, hml, hown, hts⟩ (kX4_hasWay l D cI cC cQ (ad 0) (w 0) a1) ⟨va_cnB 1 hts gX6_quick_X4_hasWay_n112 rfl rfl rfl (nm_RX6_112 hN) (hts (.initialized RX4) (by decide +kernel)) mdsX4_hasWay ⟨Nat.le_of_ble_eq_true rfl, Nat.le_of_ble_eq_true rfl⟩, hts (.instanceMethod yX4_hasWay) (by decide +kernel), hts (.selects RX4 yX4_hasWay yX4_hasWay) (by decide +kernel)⟩ (x4_pre hK (mp_0 hP) hN) rfl rfl hl.1 rfl (lv_room (Nat.le_of_ble_eq_true rfl)) dX6_quick_5 ⟨Nat.zero_le _, Nat.zero_le _⟩)) (fun rn_1 hr_1 => ?_)
  obtain ⟨rfl, hz_1⟩ := hr_1
  refine lv_if_ne (tgt := 17) hx hb dX6_quick_8 (by decide) (fun c_2 => ?_) (fun c_2 => ?_)
  · have E := E.trans (if_neg c_2)
    have fc_2 := i_ne c_2
    rw [q_0] at fc_2
    have gc_2 := fX4_hasWay c_2
    refine lv_bipush (v := (-9)) hx hb dX6_quick_17 (by decide +kernel) ?_
    refine lv_istore_n (lv' := [(2, .int (-9)), (0, .ref (ad 5 0)), (1, .int a1)]) hx hb dX6_quick_19 rfl hl (by decide) rfl (fun ls hl => ?_)
    refine lv_ldc (own := RX6) (v := 2147483647) hx hb hown (hts (.constant RX6 206 (2147483647)) (by decide +kernel)) dX6_quick_20 ?_
    refine lv_istore_n (lv' := [(3, .int 2147483647), (2, .int (-9)), (0, .ref (ad 5 0)), (1, .int a1)]) hx hb dX6_quick_22 rfl hl (by decide) rfl (fun ls hl => ?_)
    refine va_gets (v := .ref (sd 0)) hx hb hSE.1 hS hown (hts (.fieldLink RX6 167 "LoadedForTheLane" "LEAST_SETTING" "[I") (by decide +kernel)) (fun _ h9 => h9) dX6_quick_23 ?_
    refine lv_iconst (v := 2) hx hb dX6_quick_26 (by decide) ?_
    have ix_3 : vp_in 2 4 := by unfold vp_in; decide
    have hm_3 : (leastS 2).toInt = 1 := by decide +kernel
    refine va_ti (v := .int (leastS 2)) hx hb hSE.2.1 hS ix_3 (by rfl) dX6_quick_27 ?_
    refine lv_istore (lv' := [(4, .int (leastS 2)), (3, .int 2147483647), (2, .int (-9)), (0, .ref (ad 5 0)), (1, .int a1)]) hx hb dX6_quick_28 hl (by decide) rfl (fun ls hl => ?_)
    have L_30 : ∀ (n_30 : Nat) (x2_30 : Int32) (x3_30 : Int32) (x4_30 : Int32) (w_30 : Nat → Nat → Nat → Int32) (H : Heap) (locs : List Loc) (ls : Array Slot), ((1 ≤ x4_30.toInt) ∧ (x4_30.toInt ≤ 10)) → (10 - x4_30.toInt < (n_30 : Int)) → R6I w_30 → va_P D vwCl (MWL cI cC cQ ad w_30) H → va_S (MA ad) s.heap H locs → lv_has ls 6 [(4, .int x4_30), (3, .int x3_30), (2, .int x2_30), (0, .ref (ad 5 0)), (1, .int a1)] → sX6_quick w a1 = sX6_quick_30 a1 n_30 x2_30 x3_30 x4_30 w_30 → W p l e (headSpec wsX6_quick rmX6_quick).room s m [Value.ref (ad 5 0), Value.int a1].toArray below meth c H locs 0 0 (MQ below (va_Qi (fun r u => (r, u) = sX6_quick w a1 ∧ R6I u) (fun u t => va_P D vwCl (MWL cI cC cQ ad u) t.heap) (MA ad)) [Value.ref (ad 5 0), Value.int a1].toArray s 0 0 (MA ad)) (F0 m 30 ls []) := by
      intro n_30
      induction n_30 with
      | zero =>
        intro x2_30 x3_30 x4_30 w_30 H locs ls hinv hm
        obtain ⟨v0_30, v1_30⟩ := hinv
        exact absurd hm (by omega)
      | succ n_30 ih_30 =>
        intro x2_30 x3_30 x4_30 w_30 H locs ls hinv hm_30 hI_30 hP hS hl E
        obtain ⟨v0_30, v1_30⟩ := hinv
        have E := E.trans (sX6_quick_30.eq_2 ..)
        refine lv_iload hx hb dX6_quick_30 (lv_at hl 0 rfl) ?_
        refine va_gets (v := .ref (sd 1)) hx hb hSE.2.2.1 hS hown (hts (.fieldLink RX6 170 "LoadedForTheLane" "MOST_SETTING" "[I") (by decide +kernel)) (fun _ h9 => h9) dX6_quick_32 ?_
        refine lv_iconst (v := 2) hx hb dX6_quick_35 (by decide) ?_
        have ix_4 : vp_in 2 4 := by unfold vp_in; decide
        have hm_4 : (mostS 2).toInt = 9 := by decide +kernel
        refine va_ti (v := .int (mostS 2)) hx hb hSE.2.2.2 hS ix_4 (by rfl) dX6_quick_36 ?_
        refine lv_icmp_gt (tgt := 114) hx hb dX6_quick_37 (by decide) (fun c_5 => ?_) (fun c_5 => ?_)
        · have E := E.trans (if_pos c_5)
          have fc_5 := i_lt c_5
          refine lv_iload_n hx hb dX6_quick_114 rfl (lv_at hl 2 rfl) ?_
          exact W.iret (v := x2_30) hx hb hr (fun t ht hW => ⟨⟨_, w_30, rfl, ⟨E.symm, hI_30⟩, by show va_P _ _ _ t.heap; rw [ht]; exact hP⟩, hS.F ht⟩) hS.2.2 dX6_quick_115
        · have E := E.trans (if_neg c_5)
          have fc_5 := i_nlt c_5
          refine lv_aload_n hx hb dX6_quick_40 rfl (lv_at hl 3 rfl) ?_
          refine g6_trial hx hb hts hin6 hown hK hP (hts (.fieldLink RX6 16 "LoadedForTheLane" "trial" "LLoadedForTheLane$Wagon;") (by decide +kernel)) dX6_quick_41 ?_
          refine lv_aload_n hx hb dX6_quick_44 rfl (lv_at hl 3 rfl) ?_
          refine g6_wagon hx hb hts hin6 hown hK hP (hts (.fieldLink RX6 10 "LoadedForTheLane" "wagon" "LLoadedForTheLane$Wagon;") (by decide +kernel)) dX6_quick_45 ?_
          refine va_callv (va_runVN (As := [.ref (ad 0 0)]) (rest := []) ⟨hx, hb, hml, hown, hts⟩ (kX4_become l D cI cC cQ (ad 1) (ad 0) (w_30 1) (w_30 0) (mdd_10 hd) (R6I_1 hI_30) (R6I_0 hI_30)) ⟨va_cnB 1 hts gX6_quick_X4_become_n66 rfl rfl rfl (nm_RX6_66 hN) (hts (.initialized RX4) (by decide +kernel)) mdsX4_become ⟨Nat.le_of_ble_eq_true rfl, Nat.le_of_ble_eq_true rfl⟩, hts (.instanceMethod yX4_become) (by decide +kernel), hts (.selects RX4 yX4_become yX4_become) (by decide +kernel)⟩ (x4b_pre rfl hK ((mp_1 hP).app (mp_0 hP)) hN) rfl rfl hl.1 rfl (lv_room (Nat.le_of_ble_eq_true rfl)) dX6_quick_48 ⟨Nat.zero_le _, Nat.zero_le _⟩) hS (fun _ _ h => mab_10 h) (fun _ h => mab_10 h) (fun un_6 t H locs ht hvm hp_6 hB hz hfr hS => ?_)
          obtain ⟨hp_6, hJ_6⟩ := hp_6
          have E := bns_e E hp_6
          have hP : va_P D vwCl (MWL cI cC cQ ad (sc w_30 1 un_6)) H := mp_bc10 hd hP (ht ▸ hB) hfr
          obtain ⟨wn_6, hwn_6⟩ : ∃ x, x = sc w_30 1 un_6 := ⟨_, rfl⟩
          rw [← hwn_6] at hP
          have E := bns_e E hwn_6
          have hI_6 : R6I wn_6 := by rw [hwn_6]; exact R6I_up1 hI_30 hJ_6
          refine lv_aload_n hx hb dX6_quick_51 rfl (lv_at hl 3 rfl) ?_
          refine g6_trial hx hb hts hin6 hown hK hP (hts (.fieldLink RX6 16 "LoadedForTheLane" "trial" "LLoadedForTheLane$Wagon;") (by decide +kernel)) dX6_quick_52 ?_
          refine lv_iconst (v := 0) hx hb dX6_quick_55 (by decide) ?_
          refine lv_iload hx hb dX6_quick_56 (lv_at hl 0 rfl) ?_
          refine lv_aload_n hx hb dX6_quick_58 rfl (lv_at hl 3 rfl) ?_
          refine g6_wagon hx hb hts hin6 hown hK hP (hts (.fieldLink RX6 10 "LoadedForTheLane" "wagon" "LLoadedForTheLane$Wagon;") (by decide +kernel)) dX6_quick_59 ?_
          refine g4_settingsn hx hb hts hin4 hown hK (mp_0 hP) (nf_RX6_173 hN) dX6_quick_62 ?_
          refine lv_iconst (v := 1) hx hb dX6_quick_65 (by decide) ?_
          have ix_7 : vp_in 1 4 := by unfold vp_in; decide
          refine l4_settings (j := 1) hx hb hK (mp_0 hP) ix_7 (by decide) dX6_quick_66 ?_
          refine lv_isub hx hb dX6_quick_67 ?_
          refine va_mmax hx hb (hml.trans hl.1.symm) hown (hts (.methodLink RX6 207 Lib.Math.max.name) (by decide +kernel)) (hts (.static Lib.Math.max.name) (by decide +kernel)) (hts (.initialized "java/lang/Math") (by decide +kernel)) (hts (.code Lib.Math.max.name Lib.Math.max.code 2 (some .int)) (by decide +kernel)) (Nat.le_of_ble_eq_true rfl) (Nat.le_of_ble_eq_true rfl) (Nat.zero_le _) (Nat.zero_le _) dX6_quick_68 ?_
          refine va_callv (va_runVN (As := [.int (if 0 < x4_30 - ((wn_6 0) 7 1) then x4_30 - ((wn_6 0) 7 1) else 0)]) (rest := []) ⟨hx, hb, hml, hown, hts⟩ (kX4_layBadly l D cI cC cQ (ad 1) (wn_6 1) (if 0 < x4_30 - ((wn_6 0) 7 1) then x4_30 - ((wn_6 0) 7 1) else 0) (MD_1 hd) (R6I_1 hI_6)) ⟨va_cnB 1 hts gX6_quick_X4_layBadly_n212 rfl rfl rfl (nm_RX6_212 hN) (hts (.initialized RX4) (by decide +kernel)) mdsX4_layBadly ⟨Nat.le_of_ble_eq_true rfl, Nat.le_of_ble_eq_true rfl⟩, hts (.instanceMethod yX4_layBadly) (by decide +kernel), hts (.selects RX4 yX4_layBadly yX4_layBadly) (by decide +kernel)⟩ (x4_pre hK (mp_1 hP) hN) rfl rfl hl.1 rfl (lv_room (Nat.le_of_ble_eq_true rfl)) dX6_quick_71 ⟨Nat.zero_le _, Nat.zero_le _⟩) hS (fun _ _ h => MA_1 h) (fun _ h => MA_1 h) (fun un_8 t H locs ht hvm hp_8 hB hz hfr hS => ?_)
          obtain ⟨hp_8, hJ_8⟩ := hp_8
          have E := bns_e E hp_8
          have hP : va_P D vwCl (MWL cI cC cQ ad (sc wn_6 1 un_8)) H := mp_up1 hd hP (ht ▸ hB) hfr
          obtain ⟨wn_8, hwn_8⟩ : ∃ x, x = sc wn_6 1 un_8 := ⟨_, rfl⟩
          rw [← hwn_8] at hP
          have E := bns_e E hwn_8
          have hI_8 : R6I wn_8 := by rw [hwn_8]; exact R6I_up1 hI_6 hJ_8
          refine lv_aload_n hx hb dX6_quick_74 rfl (lv_at hl 3 rfl) ?_
          refine g6_wagon hx hb hts hin6 hown hK hP (hts (.fieldLink RX6 10 "LoadedForTheLane" "wagon" "LLoadedForTheLane$Wagon;") (by decide +kernel)) dX6_quick_75 ?_
          refine lv_iload hx hb dX6_quick_78 (lv_at hl 0 rfl) ?_
          refine vp_callSi (va_Run.run (va_runVN (As := [.int x4_30]) (rest := []) ⟨hx, hb, hml, hown, hts⟩ (kX4_pitchingMinutes l D cI cC cQ (ad 0) (wn_8 0) x4_30 (R6I_0 hI_8)) ⟨va_cnB 1 hts gX6_quick_X4_pitchingMinutes_n203 rfl rfl rfl (nm_RX6_203 hN) (hts (.initialized RX4) (by decide +kernel)) mdsX4_pitchingMinutes ⟨Nat.le_of_ble_eq_true rfl, Nat.le_of_ble_eq_true rfl⟩, hts (.instanceMethod yX4_pitchingMinutes) (by decide +kernel), hts (.selects RX4 yX4_pitchingMinutes yX4_pitchingMinutes) (by decide +kernel)⟩ (x4_pre hK (mp_0 hP) hN) rfl rfl hl.1 rfl (lv_room (Nat.le_of_ble_eq_true rfl)) dX6_quick_80 ⟨Nat.zero_le _, Nat.zero_le _⟩)) (fun rn_9 hr_9 => ?_)
          subst hr_9
          refine lv_istore (lv' := [(5, .int (sX4_pitchingMinutes (wn_8 0) x4_30)), (4, .int x4_30), (3, .int x3_30), (2, .int x2_30), (0, .ref (ad 5 0)), (1, .int a1)]) hx hb dX6_quick_83 hl (by decide) rfl (fun ls hl => ?_)
          refine lv_iload hx hb dX6_quick_85 (lv_at hl 0 rfl) ?_
          refine lv_iload_n hx hb dX6_quick_87 rfl (lv_at hl 2 rfl) ?_
          refine lv_icmp_ge (tgt := 108) hx hb dX6_quick_88 (by decide) (fun c_10 => ?_) (fun c_10 => ?_)
          · have E := E.trans (if_pos c_10)
            have fc_10 := i_le c_10
            refine lv_iinc (v := x4_30 + 1) (lv' := [(4, .int (x4_30 + 1)), (5, .int (sX4_pitchingMinutes (wn_8 0) x4_30)), (3, .int x3_30), (2, .int x2_30), (0, .ref (ad 5 0)), (1, .int a1)]) hx hb dX6_quick_108 hl (k := 1) rfl rfl (by decide) rfl (fun ls hl => ?_)
            refine lv_goto (tgt := 30) hx hb dX6_quick_111 (by decide) ?_
            try have := i_addr (a := x4_30) (b := 1) (n := 1) q_1 (by omega) (by omega)
            exact ih_30 x2_30 x3_30 (x4_30 + 1) wn_8 H locs ls ⟨by omega, by omega⟩ (by omega) hI_8 hP hS (lv_sub hl [0, 2, 3, 4, 5] rfl) E
          · have E := E.trans (if_neg c_10)
            have fc_10 := i_nle c_10
            refine lv_aload_n hx hb dX6_quick_91 rfl (lv_at hl 4 rfl) ?_
            refine g6_trial hx hb hts hin6 hown hK hP (hts (.fieldLink RX6 16 "LoadedForTheLane" "trial" "LLoadedForTheLane$Wagon;") (by decide +kernel)) dX6_quick_92 ?_
            refine lv_iload_n hx hb dX6_quick_95 rfl (lv_at hl 5 rfl) ?_
            refine vp_callSi (va_Run.run (va_runVN (As := [.int a1]) (rest := []) ⟨hx, hb, hml, hown, hts⟩ (kX4_holds l D cI cC cQ (ad 1) (wn_8 1) a1 (R6I_1 hI_8) (by omega) (by omega)) ⟨va_cnB 1 hts gX6_quick_X4_holds_n189 rfl rfl rfl (nm_RX6_189 hN) (hts (.initialized RX4) (by decide +kernel)) mdsX4_holds ⟨Nat.le_of_ble_eq_true rfl, Nat.le_of_ble_eq_true rfl⟩, hts (.instanceMethod yX4_holds) (by decide +kernel), hts (.selects RX4 yX4_holds yX4_holds) (by decide +kernel)⟩ (x4_pre hK (mp_1 hP) hN) rfl rfl hl.1 rfl (lv_room (Nat.le_of_ble_eq_true rfl)) dX6_quick_96 ⟨Nat.zero_le _, Nat.zero_le _⟩)) (fun rn_11 hr_11 => ?_)
            obtain ⟨rfl, hz_11⟩ := hr_11
            refine lv_if_eq (tgt := 108) hx hb dX6_quick_99 (by decide) (fun c_12 => ?_) (fun c_12 => ?_)
            · have E := E.trans (if_pos c_12)
              have fc_12 := i_eq c_12
              rw [q_0] at fc_12
              refine lv_iinc (v := x4_30 + 1) (lv' := [(4, .int (x4_30 + 1)), (5, .int (sX4_pitchingMinutes (wn_8 0) x4_30)), (3, .int x3_30), (2, .int x2_30), (0, .ref (ad 5 0)), (1, .int a1)]) hx hb dX6_quick_108 hl (k := 1) rfl rfl (by decide) rfl (fun ls hl => ?_)
              refine lv_goto (tgt := 30) hx hb dX6_quick_111 (by decide) ?_
              try have := i_addr (a := x4_30) (b := 1) (n := 1) q_1 (by omega) (by omega)
              exact ih_30 x2_30 x3_30 (x4_30 + 1) wn_8 H locs ls ⟨by omega, by omega⟩ (by omega) hI_8 hP hS (lv_sub hl [0, 2, 3, 4, 5] rfl) E
            · have E := E.trans (if_neg c_12)
              have fc_12 := i_ne c_12
              rw [q_0] at fc_12
              refine lv_iload hx hb dX6_quick_102 (lv_at hl 1 rfl) ?_
              refine lv_istore_n (lv' := [(2, .int x4_30), (5, .int (sX4_pitchingMinutes (wn_8 0) x4_30)), (4, .int x4_30), (3, .int x3_30), (0, .ref (ad 5 0)), (1, .int a1)]) hx hb dX6_quick_104 rfl hl (by decide) rfl (fun ls hl => ?_)
              refine lv_iload hx hb dX6_quick_105 (lv_at hl 1 rfl) ?_
              refine lv_istore_n (lv' := [(3, .int (sX4_pitchingMinutes (wn_8 0) x4_30)), (2, .int x4_30), (5, .int (sX4_pitchingMinutes (wn_8 0) x4_30)), (4, .int x4_30), (0, .ref (ad 5 0)), (1, .int a1)]) hx hb dX6_quick_107 rfl hl (by decide) rfl (fun ls hl => ?_)
              refine lv_iinc (v := x4_30 + 1) (lv' := [(4, .int (x4_30 + 1)), (3, .int (sX4_pitchingMinutes (wn_8 0) x4_30)), (2, .int x4_30), (5, .int (sX4_pitchingMinutes (wn_8 0) x4_30)), (0, .ref (ad 5 0)), (1, .int a1)]) hx hb dX6_quick_108 hl (k := 3) rfl rfl (by decide) rfl (fun ls hl => ?_)
              refine lv_goto (tgt := 30) hx hb dX6_quick_111 (by decide) ?_
              try have := i_addr (a := x4_30) (b := 1) (n := 1) q_1 (by omega) (by omega)
              exact ih_30 x4_30 ((sX4_pitchingMinutes (wn_8 0) x4_30)) (x4_30 + 1) wn_8 H locs ls ⟨by omega, by omega⟩ (by omega) hI_8 hP hS (lv_sub hl [0, 1, 2, 4, 5] rfl) E
    exact L_30 10 ((-9)) 2147483647 (leastS 2) w H locs ls ⟨by omega, by omega⟩ (by omega) hI hP hS (lv_sub hl [0, 1, 2, 3, 4] rfl) E
  · have E := E.trans (if_pos c_2)
    have fc_2 := i_eq c_2
    rw [q_0] at fc_2
    refine lv_aload_n hx hb dX6_quick_11 rfl (lv_at hl 0 rfl) ?_
    refine lv_iconst (v := (-1)) hx hb dX6_quick_12 (by decide) ?_
    refine va_calli (va_runV (As := [.int (-1)]) (rest := []) ⟨hx, hb, hml, hown, hts⟩ (kX6_refuse l D cI cC cQ ad sd aK aV w (-1) hd hI) (cwV 1 hts gX6_quick_X6_refuse rfl rfl rfl mdX6_refuse ⟨Nat.le_of_ble_eq_true rfl, Nat.le_of_ble_eq_true rfl⟩) (x6_pre hK hP hN hSE hST hS) rfl rfl hl.1 rfl (lv_room (Nat.le_of_ble_eq_true rfl)) dX6_quick_13 ⟨Nat.zero_le _, Nat.zero_le _⟩) hS (fun _ _ h => h) (fun _ h => h) (fun rn_13 wn_13 t H locs ht hvm hp_13 hB hz hfr hS => ?_)
    obtain ⟨hp_13, hJ_13⟩ := hp_13
    have E := bnd_e E hp_13
    have hP : va_P D vwCl (MWL cI cC cQ ad wn_13) H := ht ▸ hB
    exact W.iret (v := rn_13) hx hb hr (fun t ht hW => ⟨⟨_, wn_13, rfl, ⟨E.symm, hJ_13⟩, by show va_P _ _ _ t.heap; rw [ht]; exact hP⟩, hS.F ht⟩) hS.2.2 dX6_quick_16
abbrev rmX6_refusalOfRounds : Room := { frames := 6, cells := 0, slots := 0, locals := 133 }
set_option maxHeartbeats 4000000 in
set_option maxRecDepth 100000 in
theorem kX6_refusalOfRounds (l : Launch) (D : va_G) (cI cC cQ : ClassId) (ad : Nat → Nat → Nat) (sd aK aV : Nat → Nat) (w : Nat → Nat → Nat → Int32) (a1 : Int32) (a2 : Int32) (a3 : Int32) (a4 : Int32)  (hI : R6I w)  : Met l yX6_refusalOfRounds wsX6_refusalOfRounds rmX6_refusalOfRounds (va_Pc [Value.ref (ad 5 0), Value.int a1, Value.int a2, Value.int a3, Value.int a4] (fun U => va_P D vwCl (MWL cI cC cQ ad w) U.heap ∧ va_K D vwCl [(cI, .int), (cC, .char), (cQ, .object "LoadedForTheLane$Way")] U ∧ NW U ∧ SE sd (MA ad) U U.heap ∧ STR aK aV (MA ad) U U.heap)) (vp_Si (fun r => r = sX6_refusalOfRounds w a1 a2 a3 a4)) 0 0 (fun _ => False) := by
  refine Met.ofW (cc := cX6_refusalOfRounds) (maxL := 5) (ret := (some .int)) (by decide) rfl ?_
  intro p e s m args below meth c s₁ B hml hv
  obtain ⟨rfl, hP, hK, hN, hSE, hST⟩ := hv
  have hx := B.exec
  have hb := B.bytes
  have hr := B.returns
  have hts := atoms_spec (ws := wsX6_refusalOfRounds) B.pre
  have hown : s.vm.findClass RX6 = some m.cls := findClass_of_methodNamed B.named
  have hlocks := B.notSynchronized
  have hin4 : ∀ q ∈ wsX40, q ∈ wsX6_refusalOfRounds := by decide +kernel
  have hin6 : ∀ q ∈ wsX60, q ∈ wsX6_refusalOfRounds := by decide +kernel
  have hl := lv_entry ([.ref (ad 5 0), .int a1, .int a2, .int a3, .int a4]) (n := 5) (Nat.le_of_ble_eq_true rfl)
  rw [lg_entry_eq]
  generalize (lg_sl ([.ref (ad 5 0), .int a1, .int a2, .int a3, .int a4]) ++ List.replicate (5 - (lg_sl ([.ref (ad 5 0), .int a1, .int a2, .int a3, .int a4])).length) Slot.unset).toArray = ls at hl ⊢
  have hl : lv_has ls 5 [(0, .ref (ad 5 0)), (1, .int a1), (2, .int a2), (3, .int a3), (4, .int a4)] := hl
  have E := sX6_refusalOfRounds.eq_1 w a1 a2 a3 a4
  refine lv_aload_n hx hb dX6_refusalOfRounds_0 rfl (lv_at hl 0 rfl) ?_
  refine g6_wagon hx hb hts hin6 hown hK hP (hts (.fieldLink RX6 10 "LoadedForTheLane" "wagon" "LLoadedForTheLane$Wagon;") (by decide +kernel)) dX6_refusalOfRounds_1 ?_
  refine lv_iload_n hx hb dX6_refusalOfRounds_4 rfl (lv_at hl 1 rfl) ?_
  refine vp_callSi (va_Run.run (va_runVN (As := [.int a1]) (rest := []) ⟨hx, hb, hml, hown, hts⟩ (kX4_hasWay l D cI cC cQ (ad 0) (w 0) a1) ⟨va_cnB 1 hts gX6_refusalOfRounds_X4_hasWay_n112 rfl rfl rfl (nm_RX6_112 hN) (hts (.initialized RX4) (by decide +kernel)) mdsX4_hasWay ⟨Nat.le_of_ble_eq_true rfl, Nat.le_of_ble_eq_true rfl⟩, hts (.instanceMethod yX4_hasWay) (by decide +kernel), hts (.selects RX4 yX4_hasWay yX4_hasWay) (by decide +kernel)⟩ (x4_pre hK (mp_0 hP) hN) rfl rfl hl.1 rfl (lv_room (Nat.le_of_ble_eq_true rfl)) dX6_refusalOfRounds_5 ⟨Nat.zero_le _, Nat.zero_le _⟩)) (fun rn_1 hr_1 => ?_)
  obtain ⟨rfl, hz_1⟩ := hr_1
  refine lv_if_ne (tgt := 13) hx hb dX6_refusalOfRounds_8 (by decide) (fun c_2 => ?_) (fun c_2 => ?_)
  · have E := E.trans (if_neg c_2)
    have fc_2 := i_ne c_2
    rw [q_0] at fc_2
    have gc_2 := fX4_hasWay c_2
    refine lv_iload_n hx hb dX6_refusalOfRounds_13 rfl (lv_at hl 2 rfl) ?_
    refine lv_iconst (v := 1) hx hb dX6_refusalOfRounds_14 (by decide) ?_
    refine lv_icmp_lt (tgt := 22) hx hb dX6_refusalOfRounds_15 (by decide) (fun c_3 => ?_) (fun c_3 => ?_)
    · have E := E.trans (if_pos c_3)
      have fc_3 := i_lt c_3
      rw [q_1] at fc_3
      refine lv_bipush (v := (-4)) hx hb dX6_refusalOfRounds_22 (by decide +kernel) ?_
      exact W.iret (v := (-4)) hx hb hr (fun t ht hW => ⟨_, rfl, E.symm, ht⟩) (fun q hq => by cases hq) dX6_refusalOfRounds_24
    · have E := E.trans (if_neg c_3)
      have fc_3 := i_nlt c_3
      rw [q_1] at fc_3
      refine lv_iload_n hx hb dX6_refusalOfRounds_18 rfl (lv_at hl 3 rfl) ?_
      refine lv_if_ge (tgt := 25) hx hb dX6_refusalOfRounds_19 (by decide) (fun c_4 => ?_) (fun c_4 => ?_)
      · have E := E.trans (if_pos c_4)
        have fc_4 := i_le c_4
        rw [q_0] at fc_4
        refine lv_iload_n hx hb dX6_refusalOfRounds_25 rfl (lv_at hl 2 rfl) ?_
        refine lv_iload hx hb dX6_refusalOfRounds_26 (lv_at hl 4 rfl) ?_
        refine lv_icmp_gt (tgt := 38) hx hb dX6_refusalOfRounds_28 (by decide) (fun c_5 => ?_) (fun c_5 => ?_)
        · have E := E.trans (if_pos c_5)
          have fc_5 := i_lt c_5
          refine lv_bipush (v := (-6)) hx hb dX6_refusalOfRounds_38 (by decide +kernel) ?_
          exact W.iret (v := (-6)) hx hb hr (fun t ht hW => ⟨_, rfl, E.symm, ht⟩) (fun q hq => by cases hq) dX6_refusalOfRounds_40
        · have E := E.trans (if_neg c_5)
          have fc_5 := i_nlt c_5
          refine lv_iload_n hx hb dX6_refusalOfRounds_31 rfl (lv_at hl 3 rfl) ?_
          refine lv_sipush (v := 999) hx hb dX6_refusalOfRounds_32 (by decide +kernel) ?_
          refine lv_icmp_le (tgt := 41) hx hb dX6_refusalOfRounds_35 (by decide) (fun c_6 => ?_) (fun c_6 => ?_)
          · have E := E.trans (if_pos c_6)
            have fc_6 := i_le c_6
            rw [q_999] at fc_6
            refine lv_aload_n hx hb dX6_refusalOfRounds_41 rfl (lv_at hl 0 rfl) ?_
            refine g6_wagon hx hb hts hin6 hown hK hP (hts (.fieldLink RX6 10 "LoadedForTheLane" "wagon" "LLoadedForTheLane$Wagon;") (by decide +kernel)) dX6_refusalOfRounds_42 ?_
            refine g4_layersn hx hb hts hin4 hown hK (mp_0 hP) (nf_RX6_99 hN) dX6_refusalOfRounds_45 ?_
            have f_7 := R4I_layers (R6I_0 hI)
            refine lv_if_eq (tgt := 62) hx hb dX6_refusalOfRounds_48 (by decide) (fun c_8 => ?_) (fun c_8 => ?_)
            · have E := E.trans (if_pos c_8)
              have fc_8 := i_eq c_8
              rw [q_0] at fc_8
              refine lv_bipush (v := (-3)) hx hb dX6_refusalOfRounds_62 (by decide +kernel) ?_
              refine lv_goto (tgt := 68) hx hb dX6_refusalOfRounds_64 (by decide) ?_
              exact W.iret (v := (-3)) hx hb hr (fun t ht hW => ⟨_, rfl, E.symm, ht⟩) (fun q hq => by cases hq) dX6_refusalOfRounds_68
            · have E := E.trans (if_neg c_8)
              have fc_8 := i_ne c_8
              rw [q_0] at fc_8
              refine lv_aload_n hx hb dX6_refusalOfRounds_51 rfl (lv_at hl 0 rfl) ?_
              refine g6_wagon hx hb hts hin6 hown hK hP (hts (.fieldLink RX6 10 "LoadedForTheLane" "wagon" "LLoadedForTheLane$Wagon;") (by decide +kernel)) dX6_refusalOfRounds_52 ?_
              refine lv_iload_n hx hb dX6_refusalOfRounds_55 rfl (lv_at hl 1 rfl) ?_
              refine vp_callSi (va_Run.run (va_runVN (As := [.int a1]) (rest := []) ⟨hx, hb, hml, hown, hts⟩ (kX4_holds l D cI cC cQ (ad 0) (w 0) a1 (R6I_0 hI) (by omega) (by omega)) ⟨va_cnB 1 hts gX6_refusalOfRounds_X4_holds_n189 rfl rfl rfl (nm_RX6_189 hN) (hts (.initialized RX4) (by decide +kernel)) mdsX4_holds ⟨Nat.le_of_ble_eq_true rfl, Nat.le_of_ble_eq_true rfl⟩, hts (.instanceMethod yX4_holds) (by decide +kernel), hts (.selects RX4 yX4_holds yX4_holds) (by decide +kernel)⟩ (x4_pre hK (mp_0 hP) hN) rfl rfl hl.1 rfl (lv_room (Nat.le_of_ble_eq_true rfl)) dX6_refusalOfRounds_56 ⟨Nat.zero_le _, Nat.zero_le _⟩)) (fun rn_9 hr_9 => ?_)
              obtain ⟨rfl, hz_9⟩ := hr_9
              refine lv_if_ne (tgt := 67) hx hb dX6_refusalOfRounds_59 (by decide) (fun c_10 => ?_) (fun c_10 => ?_)
              · have E := E.trans (if_neg c_10)
                have fc_10 := i_ne c_10
                rw [q_0] at fc_10
                refine lv_iconst (v := 0) hx hb dX6_refusalOfRounds_67 (by decide) ?_
                exact W.iret (v := 0) hx hb hr (fun t ht hW => ⟨_, rfl, E.symm, ht⟩) (fun q hq => by cases hq) dX6_refusalOfRounds_68
              · have E := E.trans (if_pos c_10)
                have fc_10 := i_eq c_10
                rw [q_0] at fc_10
                refine lv_bipush (v := (-3)) hx hb dX6_refusalOfRounds_62 (by decide +kernel) ?_
                refine lv_goto (tgt := 68) hx hb dX6_refusalOfRounds_64 (by decide) ?_
                exact W.iret (v := (-3)) hx hb hr (fun t ht hW => ⟨_, rfl, E.symm, ht⟩) (fun q hq => by cases hq) dX6_refusalOfRounds_68
          · have E := E.trans (if_neg c_6)
            have fc_6 := i_nle c_6
            rw [q_999] at fc_6
            refine lv_bipush (v := (-6)) hx hb dX6_refusalOfRounds_38 (by decide +kernel) ?_
            exact W.iret (v := (-6)) hx hb hr (fun t ht hW => ⟨_, rfl, E.symm, ht⟩) (fun q hq => by cases hq) dX6_refusalOfRounds_40
      · have E := E.trans (if_neg c_4)
        have fc_4 := i_nle c_4
        rw [q_0] at fc_4
        refine lv_bipush (v := (-4)) hx hb dX6_refusalOfRounds_22 (by decide +kernel) ?_
        exact W.iret (v := (-4)) hx hb hr (fun t ht hW => ⟨_, rfl, E.symm, ht⟩) (fun q hq => by cases hq) dX6_refusalOfRounds_24
  · have E := E.trans (if_pos c_2)
    have fc_2 := i_eq c_2
    rw [q_0] at fc_2
    refine lv_iconst (v := (-1)) hx hb dX6_refusalOfRounds_11 (by decide) ?_
    exact W.iret (v := (-1)) hx hb hr (fun t ht hW => ⟨_, rfl, E.symm, ht⟩) (fun q hq => by cases hq) dX6_refusalOfRounds_12
abbrev rmX6_rounds : Room := { frames := 7, cells := 0, slots := 0, locals := 157 }
set_option maxHeartbeats 4000000 in
set_option maxRecDepth 100000 in
theorem kX6_rounds (l : Launch) (D : va_G) (cI cC cQ : ClassId) (ad : Nat → Nat → Nat) (sd aK aV : Nat → Nat) (w : Nat → Nat → Nat → Int32) (a1 : Int32) (a2 : Int32) (a3 : Int32) (hd : MD ad) (hI : R6I w)  : Met l yX6_rounds wsX6_rounds rmX6_rounds (va_Pc [Value.ref (ad 5 0), Value.int a1, Value.int a2, Value.int a3] (fun U => va_P D vwCl (MWL cI cC cQ ad w) U.heap ∧ va_K D vwCl [(cI, .int), (cC, .char), (cQ, .object "LoadedForTheLane$Way")] U ∧ NW U ∧ SE sd (MA ad) U U.heap ∧ STR aK aV (MA ad) U U.heap)) (va_Qi (fun r u => (r, u) = sX6_rounds w a1 a2 a3 ∧ R6I u) (fun u t => va_P D vwCl (MWL cI cC cQ ad u) t.heap) (MA ad)) 0 0 (MA ad) := by
  refine Met.ofW (cc := cX6_rounds) (maxL := 5) (ret := (some .int)) (by decide) rfl ?_
  intro p e s m args below meth c s₁ B hml hv
  obtain ⟨rfl, hP, hK, hN, hSE, hST⟩ := hv
  have hx := B.exec
  have hb := B.bytes
  have hr := B.returns
  have hts := atoms_spec (ws := wsX6_rounds) B.pre
  have hown : s.vm.findClass RX6 = some m.cls := findClass_of_methodNamed B.named
  have hlocks := B.notSynchronized
  have hin6 : ∀ q ∈ wsX60, q ∈ wsX6_rounds := by decide +kernel
  have hl := lv_entry ([.ref (ad 5 0), .int a1, .int a2, .int a3]) (n := 5) (Nat.le_of_ble_eq_true rfl)
  rw [lg_entry_eq]
  generalize (lg_sl ([.ref (ad 5 0), .int a1, .int a2, .int a3]) ++ List.replicate (5 - (lg_sl ([.ref (ad 5 0), .int a1, .int a2, .int a3])).length) Slot.unset).toArray = ls at hl ⊢
  have hl : lv_has ls 5 [(0, .ref (ad 5 0)), (1, .int a1), (2, .int a2), (3, .int a3)] := hl
  suffices hgo : ∀ (H : Heap) (locs : List Loc), va_P D vwCl (MWL cI cC cQ ad w) H → va_S (MA ad) s.heap H locs → W p l e (headSpec wsX6_rounds rmX6_rounds).room s m [Value.ref (ad 5 0), Value.int a1, Value.int a2, Value.int a3].toArray below meth c H locs 0 0 (MQ below (va_Qi (fun r u => (r, u) = sX6_rounds w a1 a2 a3 ∧ R6I u) (fun u t => va_P D vwCl (MWL cI cC cQ ad u) t.heap) (MA ad)) [Value.ref (ad 5 0), Value.int a1, Value.int a2, Value.int a3].toArray s 0 0 (MA ad)) (F0 m 0 ls []) from hgo s.heap [] hP va_S.rf
  intro H locs hP hS
  have E := sX6_rounds.eq_1 w a1 a2 a3
  refine lv_aload_n hx hb dX6_rounds_0 rfl (lv_at hl 0 rfl) ?_
  refine lv_iload_n hx hb dX6_rounds_1 rfl (lv_at hl 1 rfl) ?_
  refine lv_iload_n hx hb dX6_rounds_2 rfl (lv_at hl 2 rfl) ?_
  refine lv_iload_n hx hb dX6_rounds_3 rfl (lv_at hl 3 rfl) ?_
  refine lv_iconst (v := 4) hx hb dX6_rounds_4 (by decide) ?_
  refine vp_callSi (va_Run.run (va_runV (As := [.int a1, .int a2, .int a3, .int 4]) (rest := []) ⟨hx, hb, hml, hown, hts⟩ (kX6_refusalOfRounds l D cI cC cQ ad sd aK aV w a1 a2 a3 4 hI) (cwV 4 hts gX6_rounds_X6_refusalOfRounds rfl rfl rfl mdX6_refusalOfRounds ⟨Nat.le_of_ble_eq_true rfl, Nat.le_of_ble_eq_true rfl⟩) (x6_pre hK hP hN hSE hST hS) rfl rfl hl.1 rfl (lv_room (Nat.le_of_ble_eq_true rfl)) dX6_rounds_5 ⟨Nat.zero_le _, Nat.zero_le _⟩)) (fun rn_1 hr_1 => ?_)
  subst hr_1
  have rf_1 := rX6_refusalOfRounds w a1 a2 a3 4
  have := q_4
  refine lv_istore (lv' := [(4, .int (sX6_refusalOfRounds w a1 a2 a3 4)), (0, .ref (ad 5 0)), (1, .int a1), (2, .int a2), (3, .int a3)]) hx hb dX6_rounds_8 hl (by decide) rfl (fun ls hl => ?_)
  refine lv_iload hx hb dX6_rounds_10 (lv_at hl 0 rfl) ?_
  refine lv_if_eq (tgt := 22) hx hb dX6_rounds_12 (by decide) (fun c_2 => ?_) (fun c_2 => ?_)
  · have E := E.trans (if_pos c_2)
    have fc_2 := i_eq c_2
    rw [q_0] at fc_2
    refine lv_aload_n hx hb dX6_rounds_22 rfl (lv_at hl 1 rfl) ?_
    refine g6_wagon hx hb hts hin6 hown hK hP (hts (.fieldLink RX6 10 "LoadedForTheLane" "wagon" "LLoadedForTheLane$Wagon;") (by decide +kernel)) dX6_rounds_23 ?_
    refine lv_iload_n hx hb dX6_rounds_26 rfl (lv_at hl 2 rfl) ?_
    refine lv_iload_n hx hb dX6_rounds_27 rfl (lv_at hl 3 rfl) ?_
    refine lv_iload_n hx hb dX6_rounds_28 rfl (lv_at hl 4 rfl) ?_
    refine va_calli (va_runVN (As := [.int a1, .int a2, .int a3]) (rest := []) ⟨hx, hb, hml, hown, hts⟩ (kX4_sheavesHome l D cI cC cQ (ad 0) (w 0) a1 a2 a3 (MD_0 hd) (R6I_0 hI) (by omega) (by omega) (by omega) (by omega)) ⟨va_cnB 3 hts gX6_rounds_X4_sheavesHome_n219 rfl rfl rfl (nm_RX6_219 hN) (hts (.initialized RX4) (by decide +kernel)) mdsX4_sheavesHome ⟨Nat.le_of_ble_eq_true rfl, Nat.le_of_ble_eq_true rfl⟩, hts (.instanceMethod yX4_sheavesHome) (by decide +kernel), hts (.selects RX4 yX4_sheavesHome yX4_sheavesHome) (by decide +kernel)⟩ (x4_pre hK (mp_0 hP) hN) rfl rfl hl.1 rfl (lv_room (Nat.le_of_ble_eq_true rfl)) dX6_rounds_29 ⟨Nat.zero_le _, Nat.zero_le _⟩) hS (fun _ _ h => MA_0 h) (fun _ h => MA_0 h) (fun rn_3 un_3 t H locs ht hvm hp_3 hB hz hfr hS => ?_)
    obtain ⟨hp_3, hJ_3⟩ := hp_3
    have E := bnd_e E hp_3
    have hP : va_P D vwCl (MWL cI cC cQ ad (sc w 0 un_3)) H := mp_up0 hd hP (ht ▸ hB) hfr
    obtain ⟨wn_3, hwn_3⟩ : ∃ x, x = sc w 0 un_3 := ⟨_, rfl⟩
    rw [← hwn_3] at hP
    have E := bns_e E hwn_3
    have hI_3 : R6I wn_3 := by rw [hwn_3]; exact R6I_up0 hI hJ_3
    exact W.iret (v := rn_3) hx hb hr (fun t ht hW => ⟨⟨_, wn_3, rfl, ⟨E.symm, hI_3⟩, by show va_P _ _ _ t.heap; rw [ht]; exact hP⟩, hS.F ht⟩) hS.2.2 dX6_rounds_32
  · have E := E.trans (if_neg c_2)
    have fc_2 := i_ne c_2
    rw [q_0] at fc_2
    refine lv_aload_n hx hb dX6_rounds_15 rfl (lv_at hl 1 rfl) ?_
    refine lv_iload hx hb dX6_rounds_16 (lv_at hl 0 rfl) ?_
    refine va_calli (va_runV (As := [.int (sX6_refusalOfRounds w a1 a2 a3 4)]) (rest := []) ⟨hx, hb, hml, hown, hts⟩ (kX6_refuse l D cI cC cQ ad sd aK aV w (sX6_refusalOfRounds w a1 a2 a3 4) hd hI) (cwV 1 hts gX6_rounds_X6_refuse rfl rfl rfl mdX6_refuse ⟨Nat.le_of_ble_eq_true rfl, Nat.le_of_ble_eq_true rfl⟩) (x6_pre hK hP hN hSE hST hS) rfl rfl hl.1 rfl (lv_room (Nat.le_of_ble_eq_true rfl)) dX6_rounds_18 ⟨Nat.zero_le _, Nat.zero_le _⟩) hS (fun _ _ h => h) (fun _ h => h) (fun rn_4 wn_4 t H locs ht hvm hp_4 hB hz hfr hS => ?_)
    obtain ⟨hp_4, hJ_4⟩ := hp_4
    have E := bnd_e E hp_4
    have hP : va_P D vwCl (MWL cI cC cQ ad wn_4) H := ht ▸ hB
    exact W.iret (v := rn_4) hx hb hr (fun t ht hW => ⟨⟨_, wn_4, rfl, ⟨E.symm, hJ_4⟩, by show va_P _ _ _ t.heap; rw [ht]; exact hP⟩, hS.F ht⟩) hS.2.2 dX6_rounds_21
abbrev rmX6_worth : Room := { frames := 7, cells := 0, slots := 0, locals := 157 }
set_option maxHeartbeats 4000000 in
set_option maxRecDepth 100000 in
theorem kX6_worth (l : Launch) (D : va_G) (cI cC cQ : ClassId) (ad : Nat → Nat → Nat) (sd aK aV : Nat → Nat) (w : Nat → Nat → Nat → Int32) (a1 : Int32) (a2 : Int32) (a3 : Int32) (hd : MD ad) (hI : R6I w)  : Met l yX6_worth wsX6_worth rmX6_worth (va_Pc [Value.ref (ad 5 0), Value.int a1, Value.int a2, Value.int a3] (fun U => va_P D vwCl (MWL cI cC cQ ad w) U.heap ∧ va_K D vwCl [(cI, .int), (cC, .char), (cQ, .object "LoadedForTheLane$Way")] U ∧ NW U ∧ SE sd (MA ad) U U.heap ∧ STR aK aV (MA ad) U U.heap)) (va_Qi (fun r u => (r, u) = sX6_worth w a1 a2 a3 ∧ R6I u) (fun u t => va_P D vwCl (MWL cI cC cQ ad u) t.heap) (MA ad)) 0 0 (MA ad) := by
  refine Met.ofW (cc := cX6_worth) (maxL := 5) (ret := (some .int)) (by decide) rfl ?_
  intro p e s m args below meth c s₁ B hml hv
  obtain ⟨rfl, hP, hK, hN, hSE, hST⟩ := hv
  have hx := B.exec
  have hb := B.bytes
  have hr := B.returns
  have hts := atoms_spec (ws := wsX6_worth) B.pre
  have hown : s.vm.findClass RX6 = some m.cls := findClass_of_methodNamed B.named
  have hlocks := B.notSynchronized
  have hin6 : ∀ q ∈ wsX60, q ∈ wsX6_worth := by decide +kernel
  have hl := lv_entry ([.ref (ad 5 0), .int a1, .int a2, .int a3]) (n := 5) (Nat.le_of_ble_eq_true rfl)
  rw [lg_entry_eq]
  generalize (lg_sl ([.ref (ad 5 0), .int a1, .int a2, .int a3]) ++ List.replicate (5 - (lg_sl ([.ref (ad 5 0), .int a1, .int a2, .int a3])).length) Slot.unset).toArray = ls at hl ⊢
  have hl : lv_has ls 5 [(0, .ref (ad 5 0)), (1, .int a1), (2, .int a2), (3, .int a3)] := hl
  suffices hgo : ∀ (H : Heap) (locs : List Loc), va_P D vwCl (MWL cI cC cQ ad w) H → va_S (MA ad) s.heap H locs → W p l e (headSpec wsX6_worth rmX6_worth).room s m [Value.ref (ad 5 0), Value.int a1, Value.int a2, Value.int a3].toArray below meth c H locs 0 0 (MQ below (va_Qi (fun r u => (r, u) = sX6_worth w a1 a2 a3 ∧ R6I u) (fun u t => va_P D vwCl (MWL cI cC cQ ad u) t.heap) (MA ad)) [Value.ref (ad 5 0), Value.int a1, Value.int a2, Value.int a3].toArray s 0 0 (MA ad)) (F0 m 0 ls []) from hgo s.heap [] hP va_S.rf
  intro H locs hP hS
  have E := sX6_worth.eq_1 w a1 a2 a3
  refine lv_aload_n hx hb dX6_worth_0 rfl (lv_at hl 0 rfl) ?_
  refine lv_iload_n hx hb dX6_worth_1 rfl (lv_at hl 1 rfl) ?_
  refine lv_iload_n hx hb dX6_worth_2 rfl (lv_at hl 2 rfl) ?_
  refine lv_iload_n hx hb dX6_worth_3 rfl (lv_at hl 3 rfl) ?_
  refine lv_iconst (v := 3) hx hb dX6_worth_4 (by decide) ?_
  refine vp_callSi (va_Run.run (va_runV (As := [.int a1, .int a2, .int a3, .int 3]) (rest := []) ⟨hx, hb, hml, hown, hts⟩ (kX6_refusalOfRounds l D cI cC cQ ad sd aK aV w a1 a2 a3 3 hI) (cwV 4 hts gX6_worth_X6_refusalOfRounds rfl rfl rfl mdX6_refusalOfRounds ⟨Nat.le_of_ble_eq_true rfl, Nat.le_of_ble_eq_true rfl⟩) (x6_pre hK hP hN hSE hST hS) rfl rfl hl.1 rfl (lv_room (Nat.le_of_ble_eq_true rfl)) dX6_worth_5 ⟨Nat.zero_le _, Nat.zero_le _⟩)) (fun rn_1 hr_1 => ?_)
  subst hr_1
  have rf_1 := rX6_refusalOfRounds w a1 a2 a3 3
  have := q_3
  refine lv_istore (lv' := [(4, .int (sX6_refusalOfRounds w a1 a2 a3 3)), (0, .ref (ad 5 0)), (1, .int a1), (2, .int a2), (3, .int a3)]) hx hb dX6_worth_8 hl (by decide) rfl (fun ls hl => ?_)
  refine lv_iload hx hb dX6_worth_10 (lv_at hl 0 rfl) ?_
  refine lv_if_eq (tgt := 22) hx hb dX6_worth_12 (by decide) (fun c_2 => ?_) (fun c_2 => ?_)
  · have E := E.trans (if_pos c_2)
    have fc_2 := i_eq c_2
    rw [q_0] at fc_2
    refine lv_aload_n hx hb dX6_worth_22 rfl (lv_at hl 1 rfl) ?_
    refine g6_wagon hx hb hts hin6 hown hK hP (hts (.fieldLink RX6 10 "LoadedForTheLane" "wagon" "LLoadedForTheLane$Wagon;") (by decide +kernel)) dX6_worth_23 ?_
    refine lv_iload_n hx hb dX6_worth_26 rfl (lv_at hl 2 rfl) ?_
    refine lv_iload_n hx hb dX6_worth_27 rfl (lv_at hl 3 rfl) ?_
    refine lv_iconst (v := 1) hx hb dX6_worth_28 (by decide) ?_
    refine lv_iadd hx hb dX6_worth_29 ?_
    refine lv_iload_n hx hb dX6_worth_30 rfl (lv_at hl 4 rfl) ?_
    have := i_addr (a := a2) (b := 1) (n := 1) q_1 (by omega) (by omega)
    refine va_calli (va_runVN (As := [.int a1, .int (a2 + 1), .int a3]) (rest := []) ⟨hx, hb, hml, hown, hts⟩ (kX4_sheavesHome l D cI cC cQ (ad 0) (w 0) a1 (a2 + 1) a3 (MD_0 hd) (R6I_0 hI) (by omega) (by omega) (by omega) (by omega)) ⟨va_cnB 3 hts gX6_worth_X4_sheavesHome_n219 rfl rfl rfl (nm_RX6_219 hN) (hts (.initialized RX4) (by decide +kernel)) mdsX4_sheavesHome ⟨Nat.le_of_ble_eq_true rfl, Nat.le_of_ble_eq_true rfl⟩, hts (.instanceMethod yX4_sheavesHome) (by decide +kernel), hts (.selects RX4 yX4_sheavesHome yX4_sheavesHome) (by decide +kernel)⟩ (x4_pre hK (mp_0 hP) hN) rfl rfl hl.1 rfl (lv_room (Nat.le_of_ble_eq_true rfl)) dX6_worth_31 ⟨Nat.zero_le _, Nat.zero_le _⟩) hS (fun _ _ h => MA_0 h) (fun _ h => MA_0 h) (fun rn_3 un_3 t H locs ht hvm hp_3 hB hz hfr hS => ?_)
    obtain ⟨hp_3, hJ_3⟩ := hp_3
    have E := bnd_e E hp_3
    have hP : va_P D vwCl (MWL cI cC cQ ad (sc w 0 un_3)) H := mp_up0 hd hP (ht ▸ hB) hfr
    obtain ⟨wn_3, hwn_3⟩ : ∃ x, x = sc w 0 un_3 := ⟨_, rfl⟩
    rw [← hwn_3] at hP
    have E := bns_e E hwn_3
    have hI_3 : R6I wn_3 := by rw [hwn_3]; exact R6I_up0 hI hJ_3
    refine lv_aload_n hx hb dX6_worth_34 rfl (lv_at hl 1 rfl) ?_
    refine g6_wagon hx hb hts hin6 hown hK hP (hts (.fieldLink RX6 10 "LoadedForTheLane" "wagon" "LLoadedForTheLane$Wagon;") (by decide +kernel)) dX6_worth_35 ?_
    refine lv_iload_n hx hb dX6_worth_38 rfl (lv_at hl 2 rfl) ?_
    refine lv_iload_n hx hb dX6_worth_39 rfl (lv_at hl 3 rfl) ?_
    refine lv_iload_n hx hb dX6_worth_40 rfl (lv_at hl 4 rfl) ?_
    refine va_calli (va_runVN (As := [.int a1, .int a2, .int a3]) (rest := [.int rn_3]) ⟨hx, hb, hml, hown, hts⟩ (kX4_sheavesHome l D cI cC cQ (ad 0) (wn_3 0) a1 a2 a3 (MD_0 hd) (R6I_0 hI_3) (by omega) (by omega) (by omega) (by omega)) ⟨va_cnB 3 hts gX6_worth_X4_sheavesHome_n219 rfl rfl rfl (nm_RX6_219 hN) (hts (.initialized RX4) (by decide +kernel)) mdsX4_sheavesHome ⟨Nat.le_of_ble_eq_true rfl, Nat.le_of_ble_eq_true rfl⟩, hts (.instanceMethod yX4_sheavesHome) (by decide +kernel), hts (.selects RX4 yX4_sheavesHome yX4_sheavesHome) (by decide +kernel)⟩ (x4_pre hK (mp_0 hP) hN) rfl rfl hl.1 rfl (lv_room (Nat.le_of_ble_eq_true rfl)) dX6_worth_41 ⟨Nat.zero_le _, Nat.zero_le _⟩) hS (fun _ _ h => MA_0 h) (fun _ h => MA_0 h) (fun rn_4 un_4 t H locs ht hvm hp_4 hB hz hfr hS => ?_)
    obtain ⟨hp_4, hJ_4⟩ := hp_4
    have E := bnd_e E hp_4
    have hP : va_P D vwCl (MWL cI cC cQ ad (sc wn_3 0 un_4)) H := mp_up0 hd hP (ht ▸ hB) hfr
    obtain ⟨wn_4, hwn_4⟩ : ∃ x, x = sc wn_3 0 un_4 := ⟨_, rfl⟩
    rw [← hwn_4] at hP
    have E := bns_e E hwn_4
    have hI_4 : R6I wn_4 := by rw [hwn_4]; exact R6I_up0 hI_3 hJ_4
    refine lv_isub hx hb dX6_worth_44 ?_
    exact W.iret (v := rn_3 - rn_4) hx hb hr (fun t ht hW => ⟨⟨_, wn_4, rfl, ⟨E.symm, hI_4⟩, by show va_P _ _ _ t.heap; rw [ht]; exact hP⟩, hS.F ht⟩) hS.2.2 dX6_worth_45
  · have E := E.trans (if_neg c_2)
    have fc_2 := i_ne c_2
    rw [q_0] at fc_2
    refine lv_aload_n hx hb dX6_worth_15 rfl (lv_at hl 1 rfl) ?_
    refine lv_iload hx hb dX6_worth_16 (lv_at hl 0 rfl) ?_
    refine va_calli (va_runV (As := [.int (sX6_refusalOfRounds w a1 a2 a3 3)]) (rest := []) ⟨hx, hb, hml, hown, hts⟩ (kX6_refuseWide l D cI cC cQ ad sd aK aV w (sX6_refusalOfRounds w a1 a2 a3 3) hd hI) (cwV 1 hts gX6_worth_X6_refuseWide rfl rfl rfl mdX6_refuseWide ⟨Nat.le_of_ble_eq_true rfl, Nat.le_of_ble_eq_true rfl⟩) (x6_pre hK hP hN hSE hST hS) rfl rfl hl.1 rfl (lv_room (Nat.le_of_ble_eq_true rfl)) dX6_worth_18 ⟨Nat.zero_le _, Nat.zero_le _⟩) hS (fun _ _ h => h) (fun _ h => h) (fun rn_5 wn_5 t H locs ht hvm hp_5 hB hz hfr hS => ?_)
    obtain ⟨hp_5, hJ_5⟩ := hp_5
    have E := bnd_e E hp_5
    have hP : va_P D vwCl (MWL cI cC cQ ad wn_5) H := ht ▸ hB
    exact W.iret (v := rn_5) hx hb hr (fun t ht hW => ⟨⟨_, wn_5, rfl, ⟨E.symm, hJ_5⟩, by show va_P _ _ _ t.heap; rw [ht]; exact hP⟩, hS.F ht⟩) hS.2.2 dX6_worth_21
abbrev rmX6_thunder : Room := { frames := 2, cells := 0, slots := 0, locals := 43 }
set_option maxHeartbeats 4000000 in
set_option maxRecDepth 100000 in
theorem kX6_thunder (l : Launch) (D : va_G) (cI cC cQ : ClassId) (ad : Nat → Nat → Nat) (sd aK aV : Nat → Nat) (w : Nat → Nat → Nat → Int32) (a1 : Int32) (a2 : Int32) (a3 : Int32) (hd : MD ad) (hI : R6I w)  : Met l yX6_thunder wsX6_thunder rmX6_thunder (va_Pc [Value.ref (ad 5 0), Value.int a1, Value.int a2, Value.int a3] (fun U => va_P D vwCl (MWL cI cC cQ ad w) U.heap ∧ va_K D vwCl [(cI, .int), (cC, .char), (cQ, .object "LoadedForTheLane$Way")] U ∧ NW U ∧ SE sd (MA ad) U U.heap ∧ STR aK aV (MA ad) U U.heap)) (va_Ql (fun r u => (r, u) = sX6_thunder w a1 a2 a3 ∧ R6I u) (fun u t => va_P D vwCl (MWL cI cC cQ ad u) t.heap) (MA ad)) 0 0 (MA ad) := by
  refine Met.ofW (cc := cX6_thunder) (maxL := 6) (ret := (some .long)) (by decide) rfl ?_
  intro p e s m args below meth c s₁ B hml hv
  obtain ⟨rfl, hP, hK, hN, hSE, hST⟩ := hv
  have hx := B.exec
  have hb := B.bytes
  have hr := B.returns
  have hts := atoms_spec (ws := wsX6_thunder) B.pre
  have hown : s.vm.findClass RX6 = some m.cls := findClass_of_methodNamed B.named
  have hlocks := B.notSynchronized
  have hin4 : ∀ q ∈ wsX40, q ∈ wsX6_thunder := by decide +kernel
  have hin6 : ∀ q ∈ wsX60, q ∈ wsX6_thunder := by decide +kernel
  have hl := lv_entry ([.ref (ad 5 0), .int a1, .int a2, .int a3]) (n := 6) (Nat.le_of_ble_eq_true rfl)
  rw [lg_entry_eq]
  generalize (lg_sl ([.ref (ad 5 0), .int a1, .int a2, .int a3]) ++ List.replicate (6 - (lg_sl ([.ref (ad 5 0), .int a1, .int a2, .int a3])).length) Slot.unset).toArray = ls at hl ⊢
  have hl : lv_has ls 6 [(0, .ref (ad 5 0)), (1, .int a1), (2, .int a2), (3, .int a3)] := hl
  suffices hgo : ∀ (H : Heap) (locs : List Loc), va_P D vwCl (MWL cI cC cQ ad w) H → va_S (MA ad) s.heap H locs → W p l e (headSpec wsX6_thunder rmX6_thunder).room s m [Value.ref (ad 5 0), Value.int a1, Value.int a2, Value.int a3].toArray below meth c H locs 0 0 (MQ below (va_Ql (fun r u => (r, u) = sX6_thunder w a1 a2 a3 ∧ R6I u) (fun u t => va_P D vwCl (MWL cI cC cQ ad u) t.heap) (MA ad)) [Value.ref (ad 5 0), Value.int a1, Value.int a2, Value.int a3].toArray s 0 0 (MA ad)) (F0 m 0 ls []) from hgo s.heap [] hP va_S.rf
  intro H locs hP hS
  have E := sX6_thunder.eq_1 w a1 a2 a3
  refine lv_aload_n hx hb dX6_thunder_0 rfl (lv_at hl 0 rfl) ?_
  refine g6_wagon hx hb hts hin6 hown hK hP (hts (.fieldLink RX6 10 "LoadedForTheLane" "wagon" "LLoadedForTheLane$Wagon;") (by decide +kernel)) dX6_thunder_1 ?_
  refine lv_iload_n hx hb dX6_thunder_4 rfl (lv_at hl 1 rfl) ?_
  refine vp_callSi (va_Run.run (va_runVN (As := [.int a1]) (rest := []) ⟨hx, hb, hml, hown, hts⟩ (kX4_hasWay l D cI cC cQ (ad 0) (w 0) a1) ⟨va_cnB 1 hts gX6_thunder_X4_hasWay_n112 rfl rfl rfl (nm_RX6_112 hN) (hts (.initialized RX4) (by decide +kernel)) mdsX4_hasWay ⟨Nat.le_of_ble_eq_true rfl, Nat.le_of_ble_eq_true rfl⟩, hts (.instanceMethod yX4_hasWay) (by decide +kernel), hts (.selects RX4 yX4_hasWay yX4_hasWay) (by decide +kernel)⟩ (x4_pre hK (mp_0 hP) hN) rfl rfl hl.1 rfl (lv_room (Nat.le_of_ble_eq_true rfl)) dX6_thunder_5 ⟨Nat.zero_le _, Nat.zero_le _⟩)) (fun rn_1 hr_1 => ?_)
  obtain ⟨rfl, hz_1⟩ := hr_1
  refine lv_if_ne (tgt := 17) hx hb dX6_thunder_8 (by decide) (fun c_2 => ?_) (fun c_2 => ?_)
  · have E := E.trans (if_neg c_2)
    have fc_2 := i_ne c_2
    rw [q_0] at fc_2
    have gc_2 := fX4_hasWay c_2
    refine lv_iload_n hx hb dX6_thunder_17 rfl (lv_at hl 2 rfl) ?_
    refine lv_if_ge (tgt := 28) hx hb dX6_thunder_18 (by decide) (fun c_3 => ?_) (fun c_3 => ?_)
    · have E := E.trans (if_pos c_3)
      have fc_3 := i_le c_3
      rw [q_0] at fc_3
      refine lv_iload_n hx hb dX6_thunder_28 rfl (lv_at hl 2 rfl) ?_
      refine lv_bipush (v := 9) hx hb dX6_thunder_29 (by decide +kernel) ?_
      refine lv_icmp_le (tgt := 41) hx hb dX6_thunder_31 (by decide) (fun c_4 => ?_) (fun c_4 => ?_)
      · have E := E.trans (if_pos c_4)
        have fc_4 := i_le c_4
        rw [q_9] at fc_4
        refine lv_iload_n hx hb dX6_thunder_41 rfl (lv_at hl 3 rfl) ?_
        refine lv_if_lt (tgt := 50) hx hb dX6_thunder_42 (by decide) (fun c_5 => ?_) (fun c_5 => ?_)
        · have E := E.trans (if_pos c_5)
          have fc_5 := i_lt c_5
          rw [q_0] at fc_5
          refine lv_aload_n hx hb dX6_thunder_50 rfl (lv_at hl 0 rfl) ?_
          refine lv_bipush (v := (-2)) hx hb dX6_thunder_51 (by decide +kernel) ?_
          refine va_calll (va_runV (As := [.int (-2)]) (rest := []) ⟨hx, hb, hml, hown, hts⟩ (kX6_refuseLong l D cI cC cQ ad sd aK aV w (-2) hd hI) (cwV 1 hts gX6_thunder_X6_refuseLong rfl rfl rfl mdX6_refuseLong ⟨Nat.le_of_ble_eq_true rfl, Nat.le_of_ble_eq_true rfl⟩) (x6_pre hK hP hN hSE hST hS) rfl rfl hl.1 rfl (lv_room (Nat.le_of_ble_eq_true rfl)) dX6_thunder_53 ⟨Nat.zero_le _, Nat.zero_le _⟩) hS (fun _ _ h => h) (fun _ h => h) (fun rn_6 wn_6 t H locs ht hvm hp_6 hB hz hfr hS => ?_)
          obtain ⟨hp_6, hJ_6⟩ := hp_6
          have E := bnd_e E hp_6
          have hP : va_P D vwCl (MWL cI cC cQ ad wn_6) H := ht ▸ hB
          exact W.lret (v := rn_6) hx hb hr (fun t ht hW => ⟨⟨_, wn_6, rfl, ⟨E.symm, hJ_6⟩, by show va_P _ _ _ t.heap; rw [ht]; exact hP⟩, hS.F ht⟩) hS.2.2 dX6_thunder_56
        · have E := E.trans (if_neg c_5)
          have fc_5 := i_nlt c_5
          rw [q_0] at fc_5
          refine lv_iload_n hx hb dX6_thunder_45 rfl (lv_at hl 3 rfl) ?_
          refine lv_iconst (v := 1) hx hb dX6_thunder_46 (by decide) ?_
          refine lv_icmp_le (tgt := 57) hx hb dX6_thunder_47 (by decide) (fun c_7 => ?_) (fun c_7 => ?_)
          · have E := E.trans (if_pos c_7)
            have fc_7 := i_le c_7
            rw [q_1] at fc_7
            refine lv_bipush (v := 12) hx hb dX6_thunder_57 (by decide +kernel) ?_
            refine lv_aload_n hx hb dX6_thunder_59 rfl (lv_at hl 0 rfl) ?_
            refine g6_wagon hx hb hts hin6 hown hK hP (hts (.fieldLink RX6 10 "LoadedForTheLane" "wagon" "LLoadedForTheLane$Wagon;") (by decide +kernel)) dX6_thunder_60 ?_
            refine g4_waysn hx hb hts hin4 hown hK (mp_0 hP) (nf_RX6_115 hN) dX6_thunder_63 ?_
            refine lv_iload_n hx hb dX6_thunder_66 rfl (lv_at hl 1 rfl) ?_
            have ix_8 : vp_in a1 2 := ix_of (by omega) (by omega)
            refine q4_ways (j := (a1.toNatClampNeg)) hx hb hK (mp_0 hP) ix_8 rfl dX6_thunder_67 ?_
            have hk_8 : (a1.toNatClampNeg) < 2 := by have := ix_cl (x := a1) (by omega); omega
            refine vp_callSi (va_Run.run (va_runVN (As := []) (rest := [.int 12]) ⟨hx, hb, hml, hown, hts⟩ (kX5_allMinutes l D cI cC cQ (fun j => ad 0 (10 + 4 * (a1.toNatClampNeg) + j)) (wy (w 0) (a1.toNatClampNeg)) (R5I_of (R6I_0 hI) hk_8)) ⟨va_cnB 0 hts gX6_thunder_X5_allMinutes_n200 rfl rfl rfl (nm_RX6_200 hN) (hts (.initialized RX5) (by decide +kernel)) mdsX5_allMinutes ⟨Nat.le_of_ble_eq_true rfl, Nat.le_of_ble_eq_true rfl⟩, hts (.instanceMethod yX5_allMinutes) (by decide +kernel), hts (.selects RX5 yX5_allMinutes yX5_allMinutes) (by decide +kernel)⟩ (x5_pre hK (wg_way hk_8 (mp_0 hP))) rfl rfl hl.1 rfl (lv_room (Nat.le_of_ble_eq_true rfl)) dX6_thunder_68 ⟨Nat.zero_le _, Nat.zero_le _⟩)) (fun rn_9 hr_9 => ?_)
            subst hr_9
            refine va_mmin hx hb (hml.trans hl.1.symm) hown (hts (.methodLink RX6 226 Lib.Math.min.name) (by decide +kernel)) (hts (.static Lib.Math.min.name) (by decide +kernel)) (hts (.initialized "java/lang/Math") (by decide +kernel)) (hts (.code Lib.Math.min.name Lib.Math.min.code 2 (some .int)) (by decide +kernel)) (Nat.le_of_ble_eq_true rfl) (Nat.le_of_ble_eq_true rfl) (Nat.zero_le _) (Nat.zero_le _) dX6_thunder_71 ?_
            have hmm_71 := i_min_le (x := 12) (y := (sX5_allMinutes (wy (w 0) (a1.toNatClampNeg))))
            rw [q_12] at hmm_71
            refine lv_istore (lv' := [(4, .int (if (sX5_allMinutes (wy (w 0) (a1.toNatClampNeg))) < 12 then (sX5_allMinutes (wy (w 0) (a1.toNatClampNeg))) else 12)), (0, .ref (ad 5 0)), (1, .int a1), (2, .int a2), (3, .int a3)]) hx hb dX6_thunder_74 hl (by decide) rfl (fun ls hl => ?_)
            refine lv_bipush (v := 10) hx hb dX6_thunder_76 (by decide +kernel) ?_
            refine lv_iload_n hx hb dX6_thunder_78 rfl (lv_at hl 3 rfl) ?_
            refine lv_isub hx hb dX6_thunder_79 ?_
            refine vp_callSi (va_Run.run (va_runS (As := [.int (10 - a2)]) (rest := []) ⟨hx, hb, hml, hown, hts⟩ (kX6_commonDivisor l (10 - a2)) (va_cwS 1 hts gX6_thunder_X6_commonDivisor rfl rfl rfl mdsX6_commonDivisor ⟨Nat.le_of_ble_eq_true rfl, Nat.le_of_ble_eq_true rfl⟩) s_pre rfl rfl hl.1 rfl (lv_room (Nat.le_of_ble_eq_true rfl)) dX6_thunder_80 ⟨Nat.zero_le _, Nat.zero_le _⟩)) (fun rn_10 hr_10 => ?_)
            subst hr_10
            have rf_10 := rX6_commonDivisor (10 - a2)
            refine lv_istore (lv' := [(5, .int (sX6_commonDivisor (10 - a2))), (4, .int (if (sX5_allMinutes (wy (w 0) (a1.toNatClampNeg))) < 12 then (sX5_allMinutes (wy (w 0) (a1.toNatClampNeg))) else 12)), (0, .ref (ad 5 0)), (1, .int a1), (2, .int a2), (3, .int a3)]) hx hb dX6_thunder_83 hl (by decide) rfl (fun ls hl => ?_)
            refine lv_iload_n hx hb dX6_thunder_85 rfl (lv_at hl 5 rfl) ?_
            refine lv_if_ne (tgt := 96) hx hb dX6_thunder_86 (by decide) (fun c_11 => ?_) (fun c_11 => ?_)
            · have E := E.trans (if_neg c_11)
              have fc_11 := i_ne c_11
              rw [q_0] at fc_11
              refine lv_bipush (v := 10) hx hb dX6_thunder_96 (by decide +kernel) ?_
              refine lv_iload hx hb dX6_thunder_98 (lv_at hl 0 rfl) ?_
              refine lv_idiv hx hb dX6_thunder_100 (i_ne0 (by omega)) ?_
              refine lv_iload hx hb dX6_thunder_101 (lv_at hl 1 rfl) ?_
              refine vp_callSl (va_Run.run (va_runS (As := [.int (10 / (sX6_commonDivisor (10 - a2))), .int (if (sX5_allMinutes (wy (w 0) (a1.toNatClampNeg))) < 12 then (sX5_allMinutes (wy (w 0) (a1.toNatClampNeg))) else 12)]) (rest := []) ⟨hx, hb, hml, hown, hts⟩ (kX6_power l (10 / (sX6_commonDivisor (10 - a2))) (if (sX5_allMinutes (wy (w 0) (a1.toNatClampNeg))) < 12 then (sX5_allMinutes (wy (w 0) (a1.toNatClampNeg))) else 12) (by omega)) (va_cwS 2 hts gX6_thunder_X6_power rfl rfl rfl mdsX6_power ⟨Nat.le_of_ble_eq_true rfl, Nat.le_of_ble_eq_true rfl⟩) s_pre rfl rfl hl.1 rfl (lv_room (Nat.le_of_ble_eq_true rfl)) dX6_thunder_103 ⟨Nat.zero_le _, Nat.zero_le _⟩)) (fun rn_12 hr_12 => ?_)
              subst hr_12
              exact W.lret (v := (sX6_power (10 / (sX6_commonDivisor (10 - a2))) (if (sX5_allMinutes (wy (w 0) (a1.toNatClampNeg))) < 12 then (sX5_allMinutes (wy (w 0) (a1.toNatClampNeg))) else 12))) hx hb hr (fun t ht hW => ⟨⟨_, w, rfl, ⟨E.symm, hI⟩, by show va_P _ _ _ t.heap; rw [ht]; exact hP⟩, hS.F ht⟩) hS.2.2 dX6_thunder_106
            · have E := E.trans (if_pos c_11)
              have fc_11 := i_eq c_11
              rw [q_0] at fc_11
              refine lv_bipush (v := 10) hx hb dX6_thunder_89 (by decide +kernel) ?_
              refine lv_iload_n hx hb dX6_thunder_91 rfl (lv_at hl 4 rfl) ?_
              refine lv_isub hx hb dX6_thunder_92 ?_
              refine lv_goto (tgt := 98) hx hb dX6_thunder_93 (by decide) ?_
              refine lv_iload hx hb dX6_thunder_98 (lv_at hl 0 rfl) ?_
              refine lv_idiv hx hb dX6_thunder_100 (i_ne0 (by omega)) ?_
              refine lv_iload hx hb dX6_thunder_101 (lv_at hl 1 rfl) ?_
              have := i_subl (a := 10) (b := a2) (n := 10) q_10 (by omega) (by omega)
              refine vp_callSl (va_Run.run (va_runS (As := [.int ((10 - a2) / (sX6_commonDivisor (10 - a2))), .int (if (sX5_allMinutes (wy (w 0) (a1.toNatClampNeg))) < 12 then (sX5_allMinutes (wy (w 0) (a1.toNatClampNeg))) else 12)]) (rest := []) ⟨hx, hb, hml, hown, hts⟩ (kX6_power l ((10 - a2) / (sX6_commonDivisor (10 - a2))) (if (sX5_allMinutes (wy (w 0) (a1.toNatClampNeg))) < 12 then (sX5_allMinutes (wy (w 0) (a1.toNatClampNeg))) else 12) (by omega)) (va_cwS 2 hts gX6_thunder_X6_power rfl rfl rfl mdsX6_power ⟨Nat.le_of_ble_eq_true rfl, Nat.le_of_ble_eq_true rfl⟩) s_pre rfl rfl hl.1 rfl (lv_room (Nat.le_of_ble_eq_true rfl)) dX6_thunder_103 ⟨Nat.zero_le _, Nat.zero_le _⟩)) (fun rn_13 hr_13 => ?_)
              subst hr_13
              exact W.lret (v := (sX6_power ((10 - a2) / (sX6_commonDivisor (10 - a2))) (if (sX5_allMinutes (wy (w 0) (a1.toNatClampNeg))) < 12 then (sX5_allMinutes (wy (w 0) (a1.toNatClampNeg))) else 12))) hx hb hr (fun t ht hW => ⟨⟨_, w, rfl, ⟨E.symm, hI⟩, by show va_P _ _ _ t.heap; rw [ht]; exact hP⟩, hS.F ht⟩) hS.2.2 dX6_thunder_106
          · have E := E.trans (if_neg c_7)
            have fc_7 := i_nle c_7
            rw [q_1] at fc_7
            refine lv_aload_n hx hb dX6_thunder_50 rfl (lv_at hl 0 rfl) ?_
            refine lv_bipush (v := (-2)) hx hb dX6_thunder_51 (by decide +kernel) ?_
            refine va_calll (va_runV (As := [.int (-2)]) (rest := []) ⟨hx, hb, hml, hown, hts⟩ (kX6_refuseLong l D cI cC cQ ad sd aK aV w (-2) hd hI) (cwV 1 hts gX6_thunder_X6_refuseLong rfl rfl rfl mdX6_refuseLong ⟨Nat.le_of_ble_eq_true rfl, Nat.le_of_ble_eq_true rfl⟩) (x6_pre hK hP hN hSE hST hS) rfl rfl hl.1 rfl (lv_room (Nat.le_of_ble_eq_true rfl)) dX6_thunder_53 ⟨Nat.zero_le _, Nat.zero_le _⟩) hS (fun _ _ h => h) (fun _ h => h) (fun rn_14 wn_14 t H locs ht hvm hp_14 hB hz hfr hS => ?_)
            obtain ⟨hp_14, hJ_14⟩ := hp_14
            have E := bnd_e E hp_14
            have hP : va_P D vwCl (MWL cI cC cQ ad wn_14) H := ht ▸ hB
            exact W.lret (v := rn_14) hx hb hr (fun t ht hW => ⟨⟨_, wn_14, rfl, ⟨E.symm, hJ_14⟩, by show va_P _ _ _ t.heap; rw [ht]; exact hP⟩, hS.F ht⟩) hS.2.2 dX6_thunder_56
      · have E := E.trans (if_neg c_4)
        have fc_4 := i_nle c_4
        rw [q_9] at fc_4
        refine lv_aload_n hx hb dX6_thunder_34 rfl (lv_at hl 0 rfl) ?_
        refine lv_bipush (v := (-6)) hx hb dX6_thunder_35 (by decide +kernel) ?_
        refine va_calll (va_runV (As := [.int (-6)]) (rest := []) ⟨hx, hb, hml, hown, hts⟩ (kX6_refuseLong l D cI cC cQ ad sd aK aV w (-6) hd hI) (cwV 1 hts gX6_thunder_X6_refuseLong rfl rfl rfl mdX6_refuseLong ⟨Nat.le_of_ble_eq_true rfl, Nat.le_of_ble_eq_true rfl⟩) (x6_pre hK hP hN hSE hST hS) rfl rfl hl.1 rfl (lv_room (Nat.le_of_ble_eq_true rfl)) dX6_thunder_37 ⟨Nat.zero_le _, Nat.zero_le _⟩) hS (fun _ _ h => h) (fun _ h => h) (fun rn_15 wn_15 t H locs ht hvm hp_15 hB hz hfr hS => ?_)
        obtain ⟨hp_15, hJ_15⟩ := hp_15
        have E := bnd_e E hp_15
        have hP : va_P D vwCl (MWL cI cC cQ ad wn_15) H := ht ▸ hB
        exact W.lret (v := rn_15) hx hb hr (fun t ht hW => ⟨⟨_, wn_15, rfl, ⟨E.symm, hJ_15⟩, by show va_P _ _ _ t.heap; rw [ht]; exact hP⟩, hS.F ht⟩) hS.2.2 dX6_thunder_40
    · have E := E.trans (if_neg c_3)
      have fc_3 := i_nle c_3
      rw [q_0] at fc_3
      refine lv_aload_n hx hb dX6_thunder_21 rfl (lv_at hl 0 rfl) ?_
      refine lv_bipush (v := (-4)) hx hb dX6_thunder_22 (by decide +kernel) ?_
      refine va_calll (va_runV (As := [.int (-4)]) (rest := []) ⟨hx, hb, hml, hown, hts⟩ (kX6_refuseLong l D cI cC cQ ad sd aK aV w (-4) hd hI) (cwV 1 hts gX6_thunder_X6_refuseLong rfl rfl rfl mdX6_refuseLong ⟨Nat.le_of_ble_eq_true rfl, Nat.le_of_ble_eq_true rfl⟩) (x6_pre hK hP hN hSE hST hS) rfl rfl hl.1 rfl (lv_room (Nat.le_of_ble_eq_true rfl)) dX6_thunder_24 ⟨Nat.zero_le _, Nat.zero_le _⟩) hS (fun _ _ h => h) (fun _ h => h) (fun rn_16 wn_16 t H locs ht hvm hp_16 hB hz hfr hS => ?_)
      obtain ⟨hp_16, hJ_16⟩ := hp_16
      have E := bnd_e E hp_16
      have hP : va_P D vwCl (MWL cI cC cQ ad wn_16) H := ht ▸ hB
      exact W.lret (v := rn_16) hx hb hr (fun t ht hW => ⟨⟨_, wn_16, rfl, ⟨E.symm, hJ_16⟩, by show va_P _ _ _ t.heap; rw [ht]; exact hP⟩, hS.F ht⟩) hS.2.2 dX6_thunder_27
  · have E := E.trans (if_pos c_2)
    have fc_2 := i_eq c_2
    rw [q_0] at fc_2
    refine lv_aload_n hx hb dX6_thunder_11 rfl (lv_at hl 0 rfl) ?_
    refine lv_iconst (v := (-1)) hx hb dX6_thunder_12 (by decide) ?_
    refine va_calll (va_runV (As := [.int (-1)]) (rest := []) ⟨hx, hb, hml, hown, hts⟩ (kX6_refuseLong l D cI cC cQ ad sd aK aV w (-1) hd hI) (cwV 1 hts gX6_thunder_X6_refuseLong rfl rfl rfl mdX6_refuseLong ⟨Nat.le_of_ble_eq_true rfl, Nat.le_of_ble_eq_true rfl⟩) (x6_pre hK hP hN hSE hST hS) rfl rfl hl.1 rfl (lv_room (Nat.le_of_ble_eq_true rfl)) dX6_thunder_13 ⟨Nat.zero_le _, Nat.zero_le _⟩) hS (fun _ _ h => h) (fun _ h => h) (fun rn_17 wn_17 t H locs ht hvm hp_17 hB hz hfr hS => ?_)
    obtain ⟨hp_17, hJ_17⟩ := hp_17
    have E := bnd_e E hp_17
    have hP : va_P D vwCl (MWL cI cC cQ ad wn_17) H := ht ▸ hB
    exact W.lret (v := rn_17) hx hb hr (fun t ht hW => ⟨⟨_, wn_17, rfl, ⟨E.symm, hJ_17⟩, by show va_P _ _ _ t.heap; rw [ht]; exact hP⟩, hS.F ht⟩) hS.2.2 dX6_thunder_16
abbrev rmX6_fell : Room := { frames := 3, cells := 0, slots := 0, locals := 67 }
set_option maxHeartbeats 4000000 in
set_option maxRecDepth 100000 in
theorem kX6_fell (l : Launch) (D : va_G) (cI cC cQ : ClassId) (ad : Nat → Nat → Nat) (sd aK aV : Nat → Nat) (w : Nat → Nat → Nat → Int32) (a1 : Int32) (a2 : Int32) (hd : MD ad) (hI : R6I w)  : Met l yX6_fell wsX6_fell rmX6_fell (va_Pc [Value.ref (ad 5 0), Value.int a1, Value.int a2] (fun U => va_P D vwCl (MWL cI cC cQ ad w) U.heap ∧ va_K D vwCl [(cI, .int), (cC, .char), (cQ, .object "LoadedForTheLane$Way")] U ∧ NW U ∧ SE sd (MA ad) U U.heap ∧ STR aK aV (MA ad) U U.heap)) (va_Qi (fun r u => (r, u) = sX6_fell w a1 a2 ∧ R6I u) (fun u t => va_P D vwCl (MWL cI cC cQ ad u) t.heap) (MA ad)) 0 0 (MA ad) := by
  refine Met.ofW (cc := cX6_fell) (maxL := 5) (ret := (some .int)) (by decide) rfl ?_
  intro p e s m args below meth c s₁ B hml hv
  obtain ⟨rfl, hP, hK, hN, hSE, hST⟩ := hv
  have hx := B.exec
  have hb := B.bytes
  have hr := B.returns
  have hts := atoms_spec (ws := wsX6_fell) B.pre
  have hown : s.vm.findClass RX6 = some m.cls := findClass_of_methodNamed B.named
  have hlocks := B.notSynchronized
  have hin4 : ∀ q ∈ wsX40, q ∈ wsX6_fell := by decide +kernel
  have hin6 : ∀ q ∈ wsX60, q ∈ wsX6_fell := by decide +kernel
  have hl := lv_entry ([.ref (ad 5 0), .int a1, .int a2]) (n := 5) (Nat.le_of_ble_eq_true rfl)
  rw [lg_entry_eq]
  generalize (lg_sl ([.ref (ad 5 0), .int a1, .int a2]) ++ List.replicate (5 - (lg_sl ([.ref (ad 5 0), .int a1, .int a2])).length) Slot.unset).toArray = ls at hl ⊢
  have hl : lv_has ls 5 [(0, .ref (ad 5 0)), (1, .int a1), (2, .int a2)] := hl
  suffices hgo : ∀ (H : Heap) (locs : List Loc), va_P D vwCl (MWL cI cC cQ ad w) H → va_S (MA ad) s.heap H locs → W p l e (headSpec wsX6_fell rmX6_fell).room s m [Value.ref (ad 5 0), Value.int a1, Value.int a2].toArray below meth c H locs 0 0 (MQ below (va_Qi (fun r u => (r, u) = sX6_fell w a1 a2 ∧ R6I u) (fun u t => va_P D vwCl (MWL cI cC cQ ad u) t.heap) (MA ad)) [Value.ref (ad 5 0), Value.int a1, Value.int a2].toArray s 0 0 (MA ad)) (F0 m 0 ls []) from hgo s.heap [] hP va_S.rf
  intro H locs hP hS
  have E := sX6_fell.eq_1 w a1 a2
  refine lv_aload_n hx hb dX6_fell_0 rfl (lv_at hl 0 rfl) ?_
  refine g6_wagon hx hb hts hin6 hown hK hP (hts (.fieldLink RX6 10 "LoadedForTheLane" "wagon" "LLoadedForTheLane$Wagon;") (by decide +kernel)) dX6_fell_1 ?_
  refine lv_iload_n hx hb dX6_fell_4 rfl (lv_at hl 1 rfl) ?_
  refine lv_iload_n hx hb dX6_fell_5 rfl (lv_at hl 2 rfl) ?_
  refine vp_callSi (va_Run.run (va_runVN (As := [.int a1, .int a2]) (rest := []) ⟨hx, hb, hml, hown, hts⟩ (kX4_hasPiece l D cI cC cQ (ad 0) (w 0) a1 a2) ⟨va_cnB 2 hts gX6_fell_X4_hasPiece_n157 rfl rfl rfl (nm_RX6_157 hN) (hts (.initialized RX4) (by decide +kernel)) mdsX4_hasPiece ⟨Nat.le_of_ble_eq_true rfl, Nat.le_of_ble_eq_true rfl⟩, hts (.instanceMethod yX4_hasPiece) (by decide +kernel), hts (.selects RX4 yX4_hasPiece yX4_hasPiece) (by decide +kernel)⟩ (x4_pre hK (mp_0 hP) hN) rfl rfl hl.1 rfl (lv_room (Nat.le_of_ble_eq_true rfl)) dX6_fell_6 ⟨Nat.zero_le _, Nat.zero_le _⟩)) (fun rn_1 hr_1 => ?_)
  obtain ⟨rfl, hz_1⟩ := hr_1
  refine lv_if_ne (tgt := 18) hx hb dX6_fell_9 (by decide) (fun c_2 => ?_) (fun c_2 => ?_)
  · have E := E.trans (if_neg c_2)
    have fc_2 := i_ne c_2
    rw [q_0] at fc_2
    have gc_2 := fX4_hasPiece c_2
    have gpc_2 := R4I_pieces (R6I_0 hI) (k := a1.toNatClampNeg) (by have := ix_cl (x := a1) (by omega); omega)
    refine lv_iconst (v := 0) hx hb dX6_fell_18 (by decide) ?_
    refine lv_istore_n (lv' := [(3, .int 0), (0, .ref (ad 5 0)), (1, .int a1), (2, .int a2)]) hx hb dX6_fell_19 rfl hl (by decide) rfl (fun ls hl => ?_)
    refine lv_iconst (v := 0) hx hb dX6_fell_20 (by decide) ?_
    refine lv_istore (lv' := [(4, .int 0), (3, .int 0), (0, .ref (ad 5 0)), (1, .int a1), (2, .int a2)]) hx hb dX6_fell_21 hl (by decide) rfl (fun ls hl => ?_)
    have L_23 : ∀ (n_23 : Nat) (x3_23 : Int32) (x4_23 : Int32) (ls : Array Slot), ((0 ≤ x4_23.toInt) ∧ (x4_23.toInt ≤ 12)) → (12 - x4_23.toInt < (n_23 : Int)) → lv_has ls 5 [(4, .int x4_23), (3, .int x3_23), (0, .ref (ad 5 0)), (1, .int a1), (2, .int a2)] → sX6_fell w a1 a2 = sX6_fell_23 w a1 a2 n_23 x3_23 x4_23 → W p l e (headSpec wsX6_fell rmX6_fell).room s m [Value.ref (ad 5 0), Value.int a1, Value.int a2].toArray below meth c H locs 0 0 (MQ below (va_Qi (fun r u => (r, u) = sX6_fell w a1 a2 ∧ R6I u) (fun u t => va_P D vwCl (MWL cI cC cQ ad u) t.heap) (MA ad)) [Value.ref (ad 5 0), Value.int a1, Value.int a2].toArray s 0 0 (MA ad)) (F0 m 23 ls []) := by
      intro n_23
      induction n_23 with
      | zero =>
        intro x3_23 x4_23 ls hinv hm
        obtain ⟨v0_23, v1_23⟩ := hinv
        exact absurd hm (by omega)
      | succ n_23 ih_23 =>
        intro x3_23 x4_23 ls hinv hm_23 hl E
        obtain ⟨v0_23, v1_23⟩ := hinv
        have E := E.trans (sX6_fell_23.eq_2 ..)
        refine lv_iload hx hb dX6_fell_23 (lv_at hl 0 rfl) ?_
        refine lv_aload_n hx hb dX6_fell_25 rfl (lv_at hl 2 rfl) ?_
        refine g6_wagon hx hb hts hin6 hown hK hP (hts (.fieldLink RX6 10 "LoadedForTheLane" "wagon" "LLoadedForTheLane$Wagon;") (by decide +kernel)) dX6_fell_26 ?_
        refine g4_layersn hx hb hts hin4 hown hK (mp_0 hP) (nf_RX6_99 hN) dX6_fell_29 ?_
        have f_3 := R4I_layers (R6I_0 hI)
        refine lv_icmp_ge (tgt := 62) hx hb dX6_fell_32 (by decide) (fun c_4 => ?_) (fun c_4 => ?_)
        · have E := E.trans (if_pos c_4)
          have fc_4 := i_le c_4
          refine lv_iload_n hx hb dX6_fell_62 rfl (lv_at hl 1 rfl) ?_
          exact W.iret (v := x3_23) hx hb hr (fun t ht hW => ⟨⟨_, w, rfl, ⟨E.symm, hI⟩, by show va_P _ _ _ t.heap; rw [ht]; exact hP⟩, hS.F ht⟩) hS.2.2 dX6_fell_63
        · have E := E.trans (if_neg c_4)
          have fc_4 := i_nle c_4
          refine lv_aload_n hx hb dX6_fell_35 rfl (lv_at hl 2 rfl) ?_
          refine g6_wagon hx hb hts hin6 hown hK hP (hts (.fieldLink RX6 10 "LoadedForTheLane" "wagon" "LLoadedForTheLane$Wagon;") (by decide +kernel)) dX6_fell_36 ?_
          refine lv_iload_n hx hb dX6_fell_39 rfl (lv_at hl 3 rfl) ?_
          refine lv_iload_n hx hb dX6_fell_40 rfl (lv_at hl 4 rfl) ?_
          refine lv_iload hx hb dX6_fell_41 (lv_at hl 0 rfl) ?_
          refine vp_callSi (va_Run.run (va_runVN (As := [.int a1, .int a2, .int x4_23]) (rest := []) ⟨hx, hb, hml, hown, hts⟩ (kX4_slipsAt l D cI cC cQ (ad 0) (w 0) a1 a2 x4_23 (R6I_0 hI) (by omega) (by omega) (by omega) (by omega) (by omega) (by omega)) ⟨va_cnB 3 hts gX6_fell_X4_slipsAt_n236 rfl rfl rfl (nm_RX6_236 hN) (hts (.initialized RX4) (by decide +kernel)) mdsX4_slipsAt ⟨Nat.le_of_ble_eq_true rfl, Nat.le_of_ble_eq_true rfl⟩, hts (.instanceMethod yX4_slipsAt) (by decide +kernel), hts (.selects RX4 yX4_slipsAt yX4_slipsAt) (by decide +kernel)⟩ (x4_pre hK (mp_0 hP) hN) rfl rfl hl.1 rfl (lv_room (Nat.le_of_ble_eq_true rfl)) dX6_fell_43 ⟨Nat.zero_le _, Nat.zero_le _⟩)) (fun rn_5 hr_5 => ?_)
          obtain ⟨rfl, hz_5⟩ := hr_5
          refine lv_if_eq (tgt := 56) hx hb dX6_fell_46 (by decide) (fun c_6 => ?_) (fun c_6 => ?_)
          · have E := E.trans (if_pos c_6)
            have fc_6 := i_eq c_6
            rw [q_0] at fc_6
            refine lv_iinc (v := x4_23 + 1) (lv' := [(4, .int (x4_23 + 1)), (3, .int x3_23), (0, .ref (ad 5 0)), (1, .int a1), (2, .int a2)]) hx hb dX6_fell_56 hl (k := 0) rfl rfl (by decide) rfl (fun ls hl => ?_)
            refine lv_goto (tgt := 23) hx hb dX6_fell_59 (by decide) ?_
            try have := i_addr (a := x4_23) (b := 1) (n := 1) q_1 (by omega) (by omega)
            exact ih_23 x3_23 (x4_23 + 1) ls ⟨by omega, by omega⟩ (by omega) (lv_sub hl [0, 1, 2, 3, 4] rfl) E
          · have E := E.trans (if_neg c_6)
            have fc_6 := i_ne c_6
            rw [q_0] at fc_6
            refine lv_iload_n hx hb dX6_fell_49 rfl (lv_at hl 1 rfl) ?_
            refine lv_iconst (v := 1) hx hb dX6_fell_50 (by decide) ?_
            refine lv_iload hx hb dX6_fell_51 (lv_at hl 0 rfl) ?_
            refine lv_ishl hx hb dX6_fell_53 ?_
            refine lv_ior hx hb dX6_fell_54 ?_
            refine lv_istore_n (lv' := [(3, .int (x3_23 ||| (1 <<< (x4_23 &&& 31)))), (4, .int x4_23), (0, .ref (ad 5 0)), (1, .int a1), (2, .int a2)]) hx hb dX6_fell_55 rfl hl (by decide) rfl (fun ls hl => ?_)
            refine lv_iinc (v := x4_23 + 1) (lv' := [(4, .int (x4_23 + 1)), (3, .int (x3_23 ||| (1 <<< (x4_23 &&& 31)))), (0, .ref (ad 5 0)), (1, .int a1), (2, .int a2)]) hx hb dX6_fell_56 hl (k := 1) rfl rfl (by decide) rfl (fun ls hl => ?_)
            refine lv_goto (tgt := 23) hx hb dX6_fell_59 (by decide) ?_
            try have := i_addr (a := x4_23) (b := 1) (n := 1) q_1 (by omega) (by omega)
            exact ih_23 (x3_23 ||| (1 <<< (x4_23 &&& 31))) (x4_23 + 1) ls ⟨by omega, by omega⟩ (by omega) (lv_sub hl [0, 1, 2, 3, 4] rfl) E
    have := q_0
    exact L_23 13 0 0 ls ⟨by omega, by omega⟩ (by omega) (lv_sub hl [0, 1, 2, 3, 4] rfl) E
  · have E := E.trans (if_pos c_2)
    have fc_2 := i_eq c_2
    rw [q_0] at fc_2
    refine lv_aload_n hx hb dX6_fell_12 rfl (lv_at hl 0 rfl) ?_
    refine lv_iconst (v := (-1)) hx hb dX6_fell_13 (by decide) ?_
    refine va_calli (va_runV (As := [.int (-1)]) (rest := []) ⟨hx, hb, hml, hown, hts⟩ (kX6_refuse l D cI cC cQ ad sd aK aV w (-1) hd hI) (cwV 1 hts gX6_fell_X6_refuse rfl rfl rfl mdX6_refuse ⟨Nat.le_of_ble_eq_true rfl, Nat.le_of_ble_eq_true rfl⟩) (x6_pre hK hP hN hSE hST hS) rfl rfl hl.1 rfl (lv_room (Nat.le_of_ble_eq_true rfl)) dX6_fell_14 ⟨Nat.zero_le _, Nat.zero_le _⟩) hS (fun _ _ h => h) (fun _ h => h) (fun rn_7 wn_7 t H locs ht hvm hp_7 hB hz hfr hS => ?_)
    obtain ⟨hp_7, hJ_7⟩ := hp_7
    have E := bnd_e E hp_7
    have hP : va_P D vwCl (MWL cI cC cQ ad wn_7) H := ht ▸ hB
    exact W.iret (v := rn_7) hx hb hr (fun t ht hW => ⟨⟨_, wn_7, rfl, ⟨E.symm, hJ_7⟩, by show va_P _ _ _ t.heap; rw [ht]; exact hP⟩, hS.F ht⟩) hS.2.2 dX6_fell_17
