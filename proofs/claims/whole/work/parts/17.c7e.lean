abbrev rmX7_passesAll : Room := { frames := 1, cells := 0, slots := 0, locals := 22 }
set_option maxHeartbeats 4000000 in
set_option maxRecDepth 100000 in
theorem kX7_passesAll (l : Launch) (D : va_G) (cI : ClassId) (ad : Nat → Nat) (w : Nat → Nat → Int32) (a1 : Int32) (a2 : Int32) (hd : RD ad) (h1 : 0 ≤ a1.toInt) (h2 : a1.toInt ≤ 1) (h3 : (a2 = 0 ∨ a2 = 1)) : Met l yX7_passesAll wsX7_passesAll rmX7_passesAll (va_Pc [Value.ref (ad 0), Value.int a1, Value.int a2] (fun U => va_P D vwCl (RM cI ad w) U.heap ∧ va_K D vwCl [(cI, .int)] U)) (va_Qv (fun u => u = sX7_passesAll w a1 a2) (fun u t => va_P D vwCl (RM cI ad u) t.heap) (RA ad)) 0 0 (RA ad) := by
  refine Met.ofW (cc := cX7_passesAll) (maxL := 3) (ret := none) (by decide) rfl ?_
  intro p e s m args below meth c s₁ B hml hv
  obtain ⟨rfl, hP, hK⟩ := hv
  have hx := B.exec
  have hb := B.bytes
  have hr := B.returns
  have hts := atoms_spec (ws := wsX7_passesAll) B.pre
  have hown : s.vm.findClass RX7 = some m.cls := findClass_of_methodNamed B.named
  have hlocks := B.notSynchronized
  have hin : ∀ q ∈ wsX70, q ∈ wsX7_passesAll := by decide +kernel
  have hl := lv_entry ([.ref (ad 0), .int a1, .int a2]) (n := 3) (Nat.le_of_ble_eq_true rfl)
  rw [lg_entry_eq]
  generalize (lg_sl ([.ref (ad 0), .int a1, .int a2]) ++ List.replicate (3 - (lg_sl ([.ref (ad 0), .int a1, .int a2])).length) Slot.unset).toArray = ls at hl ⊢
  have hl : lv_has ls 3 [(0, .ref (ad 0)), (1, .int a1), (2, .int a2)] := hl
  suffices hgo : ∀ (H : Heap) (locs : List Loc), va_P D vwCl (RM cI ad w) H → va_S (RA ad) s.heap H locs → W p l e (headSpec wsX7_passesAll rmX7_passesAll).room s m [Value.ref (ad 0), Value.int a1, Value.int a2].toArray below meth c H locs 0 0 (MQ below (va_Qv (fun u => u = sX7_passesAll w a1 a2) (fun u t => va_P D vwCl (RM cI ad u) t.heap) (RA ad)) [Value.ref (ad 0), Value.int a1, Value.int a2].toArray s 0 0 (RA ad)) (F0 m 0 ls []) from hgo s.heap [] hP va_S.rf
  intro H locs hP hS
  have E := sX7_passesAll.eq_1 w a1 a2
  refine lv_aload_n hx hb dX7_passesAll_0 rfl (lv_at hl 0 rfl) ?_
  refine lv_bipush (v := 125) hx hb dX7_passesAll_1 (by decide +kernel) ?_
  refine lv_iload_n hx hb dX7_passesAll_3 rfl (lv_at hl 1 rfl) ?_
  refine lv_imul hx hb dX7_passesAll_4 ?_
  refine p7_cursor hx hb hts hin hown hK hP hd hS (hts (.fieldLink RX7 140 "LoadedForTheLaneModel" "cursor" "I") (by decide +kernel)) dX7_passesAll_5 (fun H locs hP hS => ?_)
  obtain ⟨wn_1, hwn_1⟩ : ∃ x, x = st w 22 0 (125 * a1) := ⟨_, rfl⟩
  rw [← hwn_1] at hP
  have E := bns_e E hwn_1
  have ft1_cursor : (wn_1 22 0).toInt = (125 * a1 : Int32).toInt := by rw [hwn_1]; rfl
  have := i_mull (a := 125) (b := a1) (n := 125) q_125 (by omega) (by omega)
  refine lv_aload_n hx hb dX7_passesAll_8 rfl (lv_at hl 0 rfl) ?_
  refine lv_iload_n hx hb dX7_passesAll_9 rfl (lv_at hl 2 rfl) ?_
  refine p7_isKeeping hx hb hts hin hown hK hP hd hS h3 (hts (.fieldLink RX7 136 "LoadedForTheLaneModel" "isKeeping" "Z") (by decide +kernel)) dX7_passesAll_10 (fun H locs hP hS => ?_)
  obtain ⟨wn_2, hwn_2⟩ : ∃ x, x = st wn_1 21 0 a2 := ⟨_, rfl⟩
  rw [← hwn_2] at hP
  have E := bns_e E hwn_2
  have ft2_cursor : (wn_2 22 0).toInt = (wn_1 22 0).toInt := by rw [hwn_2]; rfl
  refine lv_aload_n hx hb dX7_passesAll_13 rfl (lv_at hl 0 rfl) ?_
  refine lv_aload_n hx hb dX7_passesAll_14 rfl (lv_at hl 0 rfl) ?_
  refine g7_setting hx hb hts hin hown hK hP (hts (.fieldLink RX7 13 "LoadedForTheLaneModel" "setting" "[I") (by decide +kernel)) dX7_passesAll_15 ?_
  refine va_callv (va_runV (As := [.ref (ad 2)]) (rest := []) ⟨hx, hb, hml, hown, hts⟩ (kX7_passes_setting l D cI ad wn_2 hd (by omega) (by omega)) (cwV 1 hts gX7_passesAll_X7_passes rfl rfl rfl mdX7_passes ⟨Nat.le_of_ble_eq_true rfl, Nat.le_of_ble_eq_true rfl⟩) (r7_pre hK hP) rfl rfl hl.1 rfl (lv_room (Nat.le_of_ble_eq_true rfl)) dX7_passesAll_18 ⟨Nat.zero_le _, Nat.zero_le _⟩) hS (fun _ _ h => h) (fun _ h => h) (fun wn_3 t H locs ht hvm hp_3 hB hz hfr hS => ?_)
  have hP : va_P D vwCl (RM cI ad wn_3) H := ht ▸ hB
  obtain ⟨hp_3, hq0_3⟩ := hp_3
  have E := bns_e E hp_3
  refine lv_aload_n hx hb dX7_passesAll_21 rfl (lv_at hl 0 rfl) ?_
  refine lv_aload_n hx hb dX7_passesAll_22 rfl (lv_at hl 0 rfl) ?_
  refine g7_kind hx hb hts hin hown hK hP (hts (.fieldLink RX7 16 "LoadedForTheLaneModel" "kind" "[I") (by decide +kernel)) dX7_passesAll_23 ?_
  refine va_callv (va_runV (As := [.ref (ad 3)]) (rest := []) ⟨hx, hb, hml, hown, hts⟩ (kX7_passes_kind l D cI ad wn_3 hd (by omega) (by omega)) (cwV 1 hts gX7_passesAll_X7_passes rfl rfl rfl mdX7_passes ⟨Nat.le_of_ble_eq_true rfl, Nat.le_of_ble_eq_true rfl⟩) (r7_pre hK hP) rfl rfl hl.1 rfl (lv_room (Nat.le_of_ble_eq_true rfl)) dX7_passesAll_26 ⟨Nat.zero_le _, Nat.zero_le _⟩) hS (fun _ _ h => h) (fun _ h => h) (fun wn_4 t H locs ht hvm hp_4 hB hz hfr hS => ?_)
  have hP : va_P D vwCl (RM cI ad wn_4) H := ht ▸ hB
  obtain ⟨hp_4, hq0_4⟩ := hp_4
  have E := bns_e E hp_4
  refine lv_aload_n hx hb dX7_passesAll_29 rfl (lv_at hl 0 rfl) ?_
  refine lv_aload_n hx hb dX7_passesAll_30 rfl (lv_at hl 0 rfl) ?_
  refine g7_sheaves hx hb hts hin hown hK hP (hts (.fieldLink RX7 19 "LoadedForTheLaneModel" "sheaves" "[I") (by decide +kernel)) dX7_passesAll_31 ?_
  refine va_callv (va_runV (As := [.ref (ad 4)]) (rest := []) ⟨hx, hb, hml, hown, hts⟩ (kX7_passes_sheaves l D cI ad wn_4 hd (by omega) (by omega)) (cwV 1 hts gX7_passesAll_X7_passes rfl rfl rfl mdX7_passes ⟨Nat.le_of_ble_eq_true rfl, Nat.le_of_ble_eq_true rfl⟩) (r7_pre hK hP) rfl rfl hl.1 rfl (lv_room (Nat.le_of_ble_eq_true rfl)) dX7_passesAll_34 ⟨Nat.zero_le _, Nat.zero_le _⟩) hS (fun _ _ h => h) (fun _ h => h) (fun wn_5 t H locs ht hvm hp_5 hB hz hfr hS => ?_)
  have hP : va_P D vwCl (RM cI ad wn_5) H := ht ▸ hB
  obtain ⟨hp_5, hq0_5⟩ := hp_5
  have E := bns_e E hp_5
  refine lv_aload_n hx hb dX7_passesAll_37 rfl (lv_at hl 0 rfl) ?_
  refine lv_aload_n hx hb dX7_passesAll_38 rfl (lv_at hl 0 rfl) ?_
  refine g7_out hx hb hts hin hown hK hP (hts (.fieldLink RX7 22 "LoadedForTheLaneModel" "out" "[I") (by decide +kernel)) dX7_passesAll_39 ?_
  refine va_callv (va_runV (As := [.ref (ad 5)]) (rest := []) ⟨hx, hb, hml, hown, hts⟩ (kX7_passes_out l D cI ad wn_5 hd (by omega) (by omega)) (cwV 1 hts gX7_passesAll_X7_passes rfl rfl rfl mdX7_passes ⟨Nat.le_of_ble_eq_true rfl, Nat.le_of_ble_eq_true rfl⟩) (r7_pre hK hP) rfl rfl hl.1 rfl (lv_room (Nat.le_of_ble_eq_true rfl)) dX7_passesAll_42 ⟨Nat.zero_le _, Nat.zero_le _⟩) hS (fun _ _ h => h) (fun _ h => h) (fun wn_6 t H locs ht hvm hp_6 hB hz hfr hS => ?_)
  have hP : va_P D vwCl (RM cI ad wn_6) H := ht ▸ hB
  obtain ⟨hp_6, hq0_6⟩ := hp_6
  have E := bns_e E hp_6
  refine lv_aload_n hx hb dX7_passesAll_45 rfl (lv_at hl 0 rfl) ?_
  refine lv_aload_n hx hb dX7_passesAll_46 rfl (lv_at hl 0 rfl) ?_
  refine g7_lean hx hb hts hin hown hK hP (hts (.fieldLink RX7 25 "LoadedForTheLaneModel" "lean" "[I") (by decide +kernel)) dX7_passesAll_47 ?_
  refine va_callv (va_runV (As := [.ref (ad 6)]) (rest := []) ⟨hx, hb, hml, hown, hts⟩ (kX7_passes_lean l D cI ad wn_6 hd (by omega) (by omega)) (cwV 1 hts gX7_passesAll_X7_passes rfl rfl rfl mdX7_passes ⟨Nat.le_of_ble_eq_true rfl, Nat.le_of_ble_eq_true rfl⟩) (r7_pre hK hP) rfl rfl hl.1 rfl (lv_room (Nat.le_of_ble_eq_true rfl)) dX7_passesAll_50 ⟨Nat.zero_le _, Nat.zero_le _⟩) hS (fun _ _ h => h) (fun _ h => h) (fun wn_7 t H locs ht hvm hp_7 hB hz hfr hS => ?_)
  have hP : va_P D vwCl (RM cI ad wn_7) H := ht ▸ hB
  obtain ⟨hp_7, hq0_7⟩ := hp_7
  have E := bns_e E hp_7
  refine lv_aload_n hx hb dX7_passesAll_53 rfl (lv_at hl 0 rfl) ?_
  refine lv_aload_n hx hb dX7_passesAll_54 rfl (lv_at hl 0 rfl) ?_
  refine g7_badly hx hb hts hin hown hK hP (hts (.fieldLink RX7 28 "LoadedForTheLaneModel" "badly" "[I") (by decide +kernel)) dX7_passesAll_55 ?_
  refine va_callv (va_runV (As := [.ref (ad 7)]) (rest := []) ⟨hx, hb, hml, hown, hts⟩ (kX7_passes_badly l D cI ad wn_7 hd (by omega) (by omega)) (cwV 1 hts gX7_passesAll_X7_passes rfl rfl rfl mdX7_passes ⟨Nat.le_of_ble_eq_true rfl, Nat.le_of_ble_eq_true rfl⟩) (r7_pre hK hP) rfl rfl hl.1 rfl (lv_room (Nat.le_of_ble_eq_true rfl)) dX7_passesAll_58 ⟨Nat.zero_le _, Nat.zero_le _⟩) hS (fun _ _ h => h) (fun _ h => h) (fun wn_8 t H locs ht hvm hp_8 hB hz hfr hS => ?_)
  have hP : va_P D vwCl (RM cI ad wn_8) H := ht ▸ hB
  obtain ⟨hp_8, hq0_8⟩ := hp_8
  have E := bns_e E hp_8
  refine lv_aload_n hx hb dX7_passesAll_61 rfl (lv_at hl 0 rfl) ?_
  refine lv_aload_n hx hb dX7_passesAll_62 rfl (lv_at hl 0 rfl) ?_
  refine g7_sort hx hb hts hin hown hK hP (hts (.fieldLink RX7 31 "LoadedForTheLaneModel" "sort" "[I") (by decide +kernel)) dX7_passesAll_63 ?_
  refine va_callv (va_runV (As := [.ref (ad 8)]) (rest := []) ⟨hx, hb, hml, hown, hts⟩ (kX7_passes_sort l D cI ad wn_8 hd (by omega) (by omega)) (cwV 1 hts gX7_passesAll_X7_passes rfl rfl rfl mdX7_passes ⟨Nat.le_of_ble_eq_true rfl, Nat.le_of_ble_eq_true rfl⟩) (r7_pre hK hP) rfl rfl hl.1 rfl (lv_room (Nat.le_of_ble_eq_true rfl)) dX7_passesAll_66 ⟨Nat.zero_le _, Nat.zero_le _⟩) hS (fun _ _ h => h) (fun _ h => h) (fun wn_9 t H locs ht hvm hp_9 hB hz hfr hS => ?_)
  have hP : va_P D vwCl (RM cI ad wn_9) H := ht ▸ hB
  obtain ⟨hp_9, hq0_9⟩ := hp_9
  have E := bns_e E hp_9
  refine lv_aload_n hx hb dX7_passesAll_69 rfl (lv_at hl 0 rfl) ?_
  refine lv_aload_n hx hb dX7_passesAll_70 rfl (lv_at hl 0 rfl) ?_
  refine g7_figure hx hb hts hin hown hK hP (hts (.fieldLink RX7 34 "LoadedForTheLaneModel" "figure" "[I") (by decide +kernel)) dX7_passesAll_71 ?_
  refine va_callv (va_runV (As := [.ref (ad 9)]) (rest := []) ⟨hx, hb, hml, hown, hts⟩ (kX7_passes_figure l D cI ad wn_9 hd (by omega) (by omega)) (cwV 1 hts gX7_passesAll_X7_passes rfl rfl rfl mdX7_passes ⟨Nat.le_of_ble_eq_true rfl, Nat.le_of_ble_eq_true rfl⟩) (r7_pre hK hP) rfl rfl hl.1 rfl (lv_room (Nat.le_of_ble_eq_true rfl)) dX7_passesAll_74 ⟨Nat.zero_le _, Nat.zero_le _⟩) hS (fun _ _ h => h) (fun _ h => h) (fun wn_10 t H locs ht hvm hp_10 hB hz hfr hS => ?_)
  have hP : va_P D vwCl (RM cI ad wn_10) H := ht ▸ hB
  obtain ⟨hp_10, hq0_10⟩ := hp_10
  have E := bns_e E hp_10
  refine lv_aload_n hx hb dX7_passesAll_77 rfl (lv_at hl 0 rfl) ?_
  refine lv_aload_n hx hb dX7_passesAll_78 rfl (lv_at hl 0 rfl) ?_
  refine g7_lasting hx hb hts hin hown hK hP (hts (.fieldLink RX7 37 "LoadedForTheLaneModel" "lasting" "[I") (by decide +kernel)) dX7_passesAll_79 ?_
  refine va_callv (va_runV (As := [.ref (ad 10)]) (rest := []) ⟨hx, hb, hml, hown, hts⟩ (kX7_passes_lasting l D cI ad wn_10 hd (by omega) (by omega)) (cwV 1 hts gX7_passesAll_X7_passes rfl rfl rfl mdX7_passes ⟨Nat.le_of_ble_eq_true rfl, Nat.le_of_ble_eq_true rfl⟩) (r7_pre hK hP) rfl rfl hl.1 rfl (lv_room (Nat.le_of_ble_eq_true rfl)) dX7_passesAll_82 ⟨Nat.zero_le _, Nat.zero_le _⟩) hS (fun _ _ h => h) (fun _ h => h) (fun wn_11 t H locs ht hvm hp_11 hB hz hfr hS => ?_)
  have hP : va_P D vwCl (RM cI ad wn_11) H := ht ▸ hB
  obtain ⟨hp_11, hq0_11⟩ := hp_11
  have E := bns_e E hp_11
  refine lv_aload_n hx hb dX7_passesAll_85 rfl (lv_at hl 0 rfl) ?_
  refine lv_aload_n hx hb dX7_passesAll_86 rfl (lv_at hl 0 rfl) ?_
  refine g7_pieces hx hb hts hin hown hK hP (hts (.fieldLink RX7 40 "LoadedForTheLaneModel" "pieces" "[I") (by decide +kernel)) dX7_passesAll_87 ?_
  refine va_callv (va_runV (As := [.ref (ad 11)]) (rest := []) ⟨hx, hb, hml, hown, hts⟩ (kX7_passes_pieces l D cI ad wn_11 hd (by omega) (by omega)) (cwV 1 hts gX7_passesAll_X7_passes rfl rfl rfl mdX7_passes ⟨Nat.le_of_ble_eq_true rfl, Nat.le_of_ble_eq_true rfl⟩) (r7_pre hK hP) rfl rfl hl.1 rfl (lv_room (Nat.le_of_ble_eq_true rfl)) dX7_passesAll_90 ⟨Nat.zero_le _, Nat.zero_le _⟩) hS (fun _ _ h => h) (fun _ h => h) (fun wn_12 t H locs ht hvm hp_12 hB hz hfr hS => ?_)
  have hP : va_P D vwCl (RM cI ad wn_12) H := ht ▸ hB
  obtain ⟨hp_12, hq0_12⟩ := hp_12
  have E := bns_e E hp_12
  refine lv_aload_n hx hb dX7_passesAll_93 rfl (lv_at hl 0 rfl) ?_
  refine lv_aload_n hx hb dX7_passesAll_94 rfl (lv_at hl 0 rfl) ?_
  refine lv_aload_n hx hb dX7_passesAll_95 rfl (lv_at hl 0 rfl) ?_
  refine g7_layers hx hb hts hin hown hK hP (hts (.fieldLink RX7 67 "LoadedForTheLaneModel" "layers" "I") (by decide +kernel)) dX7_passesAll_96 ?_
  refine va_calli (va_runV (As := [.int (wn_12 11 0)]) (rest := [.ref (ad 0)]) ⟨hx, hb, hml, hown, hts⟩ (kX7_passOne l D cI ad wn_12 (wn_12 11 0) hd (by omega) (by omega)) (cwV 1 hts gX7_passesAll_X7_passOne rfl rfl rfl mdX7_passOne ⟨Nat.le_of_ble_eq_true rfl, Nat.le_of_ble_eq_true rfl⟩) (r7_pre hK hP) rfl rfl hl.1 rfl (lv_room (Nat.le_of_ble_eq_true rfl)) dX7_passesAll_99 ⟨Nat.zero_le _, Nat.zero_le _⟩) hS (fun _ _ h => h) (fun _ h => h) (fun rn_13 wn_13 t H locs ht hvm hp_13 hB hz hfr hS => ?_)
  have hP : va_P D vwCl (RM cI ad wn_13) H := ht ▸ hB
  obtain ⟨hp_13, hq0_13⟩ := hp_13
  have E := bnd_e E hp_13
  refine p7_layers hx hb hts hin hown hK hP hd hS (hts (.fieldLink RX7 67 "LoadedForTheLaneModel" "layers" "I") (by decide +kernel)) dX7_passesAll_102 (fun H locs hP hS => ?_)
  obtain ⟨wn_14, hwn_14⟩ : ∃ x, x = st wn_13 11 0 rn_13 := ⟨_, rfl⟩
  rw [← hwn_14] at hP
  have E := bns_e E hwn_14
  have ft14_cursor : (wn_14 22 0).toInt = (wn_13 22 0).toInt := by rw [hwn_14]; rfl
  exact W.vret hx hb hr (fun t ht hW => ⟨⟨wn_14, rfl, E.symm, by show va_P _ _ _ t.heap; rw [ht]; exact hP⟩, hS.F ht⟩) hS.2.2 dX7_passesAll_105
abbrev rmX7_load : Room := { frames := 5, cells := 0, slots := 0, locals := 112 }
set_option maxHeartbeats 4000000 in
set_option maxRecDepth 100000 in
theorem kX7_load (l : Launch) (D : va_G) (cI : ClassId) (ad : Nat → Nat) (w : Nat → Nat → Int32) (hd : RD ad) (hI : R7I w) (h1 : (w 11 0).toInt ≤ 11) : Met l yX7_load wsX7_load rmX7_load (va_Pc [Value.ref (ad 0)] (fun U => va_P D vwCl (RM cI ad w) U.heap ∧ va_K D vwCl [(cI, .int)] U)) (va_Qi (fun r u => (r, u) = sX7_load w) (fun u t => va_P D vwCl (RM cI ad u) t.heap) (RA ad)) 0 0 (RA ad) := by
  refine Met.ofW (cc := cX7_load) (maxL := 3) (ret := (some .int)) (by decide) rfl ?_
  intro p e s m args below meth c s₁ B hml hv
  obtain ⟨rfl, hP, hK⟩ := hv
  have hx := B.exec
  have hb := B.bytes
  have hr := B.returns
  have hts := atoms_spec (ws := wsX7_load) B.pre
  have hown : s.vm.findClass RX7 = some m.cls := findClass_of_methodNamed B.named
  have hlocks := B.notSynchronized
  have hin : ∀ q ∈ wsX70, q ∈ wsX7_load := by decide +kernel
  have hl := lv_entry ([.ref (ad 0)]) (n := 3) (Nat.le_of_ble_eq_true rfl)
  rw [lg_entry_eq]
  generalize (lg_sl ([.ref (ad 0)]) ++ List.replicate (3 - (lg_sl ([.ref (ad 0)])).length) Slot.unset).toArray = ls at hl ⊢
  have hl : lv_has ls 3 [(0, .ref (ad 0))] := hl
  suffices hgo : ∀ (H : Heap) (locs : List Loc), va_P D vwCl (RM cI ad w) H → va_S (RA ad) s.heap H locs → W p l e (headSpec wsX7_load rmX7_load).room s m [Value.ref (ad 0)].toArray below meth c H locs 0 0 (MQ below (va_Qi (fun r u => (r, u) = sX7_load w) (fun u t => va_P D vwCl (RM cI ad u) t.heap) (RA ad)) [Value.ref (ad 0)].toArray s 0 0 (RA ad)) (F0 m 0 ls []) from hgo s.heap [] hP va_S.rf
  intro H locs hP hS
  have E := sX7_load.eq_1 w
  refine lv_aload_n hx hb dX7_load_0 rfl (lv_at hl 0 rfl) ?_
  refine lv_iconst (v := 0) hx hb dX7_load_1 (by decide) ?_
  refine p7_at hx hb hts hin hown hK hP hd hS (hts (.fieldLink RX7 86 "LoadedForTheLaneModel" "at" "I") (by decide +kernel)) dX7_load_2 (fun H locs hP hS => ?_)
  obtain ⟨wn_1, hwn_1⟩ : ∃ x, x = st w 17 0 0 := ⟨_, rfl⟩
  rw [← hwn_1] at hP
  have E := bns_e E hwn_1
  have ft1_taped : (wn_1 16 0).toInt = (w 16 0).toInt := by rw [hwn_1]; rfl
  have ft1_at : (wn_1 17 0).toInt = (0 : Int32).toInt := by rw [hwn_1]; rfl
  have := q_0
  have ft1_statements : (wn_1 18 0).toInt = (w 18 0).toInt := by rw [hwn_1]; rfl
  have ft1_layers : (wn_1 11 0).toInt = (w 11 0).toInt := by rw [hwn_1]; rfl
  have := q_0
  have hI_1 : R7I wn_1 := by rw [hwn_1]; exact R7I_put_at hI (by omega) (by omega)
  refine lv_aload_n hx hb dX7_load_5 rfl (lv_at hl 0 rfl) ?_
  refine lv_iconst (v := 0) hx hb dX7_load_6 (by decide) ?_
  refine p7_statements hx hb hts hin hown hK hP hd hS (hts (.fieldLink RX7 112 "LoadedForTheLaneModel" "statements" "I") (by decide +kernel)) dX7_load_7 (fun H locs hP hS => ?_)
  obtain ⟨wn_2, hwn_2⟩ : ∃ x, x = st wn_1 18 0 0 := ⟨_, rfl⟩
  rw [← hwn_2] at hP
  have E := bns_e E hwn_2
  have ft2_taped : (wn_2 16 0).toInt = (wn_1 16 0).toInt := by rw [hwn_2]; rfl
  have ft2_at : (wn_2 17 0).toInt = (wn_1 17 0).toInt := by rw [hwn_2]; rfl
  have ft2_statements : (wn_2 18 0).toInt = (0 : Int32).toInt := by rw [hwn_2]; rfl
  have := q_0
  have ft2_layers : (wn_2 11 0).toInt = (wn_1 11 0).toInt := by rw [hwn_2]; rfl
  have := q_0
  have hI_2 : R7I wn_2 := by rw [hwn_2]; exact R7I_put_statements hI_1 (by omega) (by omega)
  refine lv_iconst (v := 1) hx hb dX7_load_10 (by decide) ?_
  refine lv_istore_n (lv' := [(1, .int 1), (0, .ref (ad 0))]) hx hb dX7_load_11 rfl hl (by decide) rfl (fun ls hl => ?_)
  have L_12 : ∀ (n_12 : Nat) (x1_12 : Int32) (w_12 : Nat → Nat → Int32) (H : Heap) (locs : List Loc) (ls : Array Slot), ((0 ≤ x1_12.toInt) ∧ (x1_12.toInt ≤ 1) ∧ (0 ≤ (w_12 17 0).toInt) ∧ ((w_12 17 0).toInt ≤ 96) ∧ (0 ≤ (w_12 18 0).toInt) ∧ (2 * (w_12 18 0).toInt ≤ (w_12 17 0).toInt) ∧ ((w_12 11 0).toInt ≤ 11)) → (2 * (97 - (w_12 17 0).toInt) + x1_12.toInt < (n_12 : Int)) → R7I w_12 → va_P D vwCl (RM cI ad w_12) H → va_S (RA ad) s.heap H locs → lv_has ls 3 [(1, .int x1_12), (0, .ref (ad 0))] → sX7_load w = sX7_load_12 n_12 x1_12 w_12 → W p l e (headSpec wsX7_load rmX7_load).room s m [Value.ref (ad 0)].toArray below meth c H locs 0 0 (MQ below (va_Qi (fun r u => (r, u) = sX7_load w) (fun u t => va_P D vwCl (RM cI ad u) t.heap) (RA ad)) [Value.ref (ad 0)].toArray s 0 0 (RA ad)) (F0 m 12 ls []) := by
    intro n_12
    induction n_12 with
    | zero =>
      intro x1_12 w_12 H locs ls hinv hm
      obtain ⟨v0_12, v1_12, v2_12, v3_12, v4_12, v5_12, v6_12⟩ := hinv
      exact absurd hm (by omega)
    | succ n_12 ih_12 =>
      intro x1_12 w_12 H locs ls hinv hm_12 hI_12 hP hS hl E
      obtain ⟨v0_12, v1_12, v2_12, v3_12, v4_12, v5_12, v6_12⟩ := hinv
      have E := E.trans (sX7_load_12.eq_2 ..)
      refine lv_iload_n hx hb dX7_load_12 rfl (lv_at hl 0 rfl) ?_
      refine lv_if_eq (tgt := 60) hx hb dX7_load_13 (by decide) (fun c_3 => ?_) (fun c_3 => ?_)
      · have E := E.trans (if_pos c_3)
        have fc_3 := i_eq c_3
        rw [q_0] at fc_3
        refine lv_aload_n hx hb dX7_load_60 rfl (lv_at hl 1 rfl) ?_
        refine lv_iconst (v := 0) hx hb dX7_load_61 (by decide) ?_
        refine p7_taped hx hb hts hin hown hK hP hd hS (hts (.fieldLink RX7 79 "LoadedForTheLaneModel" "taped" "I") (by decide +kernel)) dX7_load_62 (fun H locs hP hS => ?_)
        obtain ⟨wn_4, hwn_4⟩ : ∃ x, x = st w_12 16 0 0 := ⟨_, rfl⟩
        rw [← hwn_4] at hP
        have E := bns_e E hwn_4
        have ft4_taped : (wn_4 16 0).toInt = (0 : Int32).toInt := by rw [hwn_4]; rfl
        have := q_0
        have ft4_at : (wn_4 17 0).toInt = (w_12 17 0).toInt := by rw [hwn_4]; rfl
        have ft4_statements : (wn_4 18 0).toInt = (w_12 18 0).toInt := by rw [hwn_4]; rfl
        have ft4_layers : (wn_4 11 0).toInt = (w_12 11 0).toInt := by rw [hwn_4]; rfl
        have := q_0
        have hI_4 : R7I wn_4 := by rw [hwn_4]; exact R7I_put_taped hI_12 (by omega) (by omega)
        refine lv_iload_n hx hb dX7_load_65 rfl (lv_at hl 0 rfl) ?_
        refine lv_if_ne (tgt := 78) hx hb dX7_load_66 (by decide) (fun z => absurd c_3 z) (fun _ => ?_)
        refine lv_sipush (v := (-1000)) hx hb dX7_load_69 (by decide +kernel) ?_
        refine lv_aload_n hx hb dX7_load_72 rfl (lv_at hl 1 rfl) ?_
        refine g7_at hx hb hts hin hown hK hP (hts (.fieldLink RX7 86 "LoadedForTheLaneModel" "at" "I") (by decide +kernel)) dX7_load_73 ?_
        have f_5 := R7I_at hI_4
        refine lv_isub hx hb dX7_load_76 ?_
        exact W.iret (v := (-1000) - (wn_4 17 0)) hx hb hr (fun t ht hW => ⟨⟨_, wn_4, rfl, E.symm, by show va_P _ _ _ t.heap; rw [ht]; exact hP⟩, hS.F ht⟩) hS.2.2 dX7_load_77
      · have E := E.trans (if_neg c_3)
        have fc_3 := i_ne c_3
        rw [q_0] at fc_3
        refine lv_aload_n hx hb dX7_load_16 rfl (lv_at hl 1 rfl) ?_
        refine g7_at hx hb hts hin hown hK hP (hts (.fieldLink RX7 86 "LoadedForTheLaneModel" "at" "I") (by decide +kernel)) dX7_load_17 ?_
        have f_6 := R7I_at hI_12
        refine lv_aload_n hx hb dX7_load_20 rfl (lv_at hl 1 rfl) ?_
        refine g7_taped hx hb hts hin hown hK hP (hts (.fieldLink RX7 79 "LoadedForTheLaneModel" "taped" "I") (by decide +kernel)) dX7_load_21 ?_
        have f_7 := R7I_taped hI_12
        refine lv_icmp_lt (tgt := 34) hx hb dX7_load_24 (by decide) (fun c_8 => ?_) (fun c_8 => ?_)
        · have E := E.trans (if_pos c_8)
          have fc_8 := i_lt c_8
          refine lv_aload_n hx hb dX7_load_34 rfl (lv_at hl 1 rfl) ?_
          refine va_calli (va_runV (As := []) (rest := []) ⟨hx, hb, hml, hown, hts⟩ (kX7_statement l D cI ad w_12 hd hI_12 (by omega)) (cwV 0 hts gX7_load_X7_statement rfl rfl rfl mdX7_statement ⟨Nat.le_of_ble_eq_true rfl, Nat.le_of_ble_eq_true rfl⟩) (r7_pre hK hP) rfl rfl hl.1 rfl (lv_room (Nat.le_of_ble_eq_true rfl)) dX7_load_35 ⟨Nat.zero_le _, Nat.zero_le _⟩) hS (fun _ _ h => h) (fun _ h => h) (fun rn_9 wn_9 t H locs ht hvm hp_9 hB hz hfr hS => ?_)
          have hP : va_P D vwCl (RM cI ad wn_9) H := ht ▸ hB
          obtain ⟨hp_9, hz_9, hI_9, hq0_9, hq1_9, hq2_9, hq3_9, hq4_9⟩ := hp_9
          have E := bnd_e E hp_9
          have hzi_9 := z_int hz_9
          refine lv_istore_n (lv' := [(1, .int rn_9), (0, .ref (ad 0))]) hx hb dX7_load_38 rfl hl (by decide) rfl (fun ls hl => ?_)
          refine lv_aload_n hx hb dX7_load_39 rfl (lv_at hl 1 rfl) ?_
          refine lv_dup hx hb dX7_load_40 rfl ?_
          refine g7_statements hx hb hts hin hown hK hP (hts (.fieldLink RX7 112 "LoadedForTheLaneModel" "statements" "I") (by decide +kernel)) dX7_load_41 ?_
          have f_10 := R7I_statements hI_9
          refine lv_iload_n hx hb dX7_load_44 rfl (lv_at hl 0 rfl) ?_
          refine lv_if_eq (tgt := 52) hx hb dX7_load_45 (by decide) (fun c_11 => ?_) (fun c_11 => ?_)
          · have E := E.trans (if_pos c_11)
            have fc_11 := i_eq c_11
            rw [q_0] at fc_11
            refine lv_iconst (v := 0) hx hb dX7_load_52 (by decide) ?_
            refine lv_iadd hx hb dX7_load_53 ?_
            refine p7_statements hx hb hts hin hown hK hP hd hS (hts (.fieldLink RX7 112 "LoadedForTheLaneModel" "statements" "I") (by decide +kernel)) dX7_load_54 (fun H locs hP hS => ?_)
            obtain ⟨wn_12, hwn_12⟩ : ∃ x, x = st wn_9 18 0 ((wn_9 18 0) + 0) := ⟨_, rfl⟩
            rw [← hwn_12] at hP
            have E := bns_e E hwn_12
            have ft12_taped : (wn_12 16 0).toInt = (wn_9 16 0).toInt := by rw [hwn_12]; rfl
            have ft12_at : (wn_12 17 0).toInt = (wn_9 17 0).toInt := by rw [hwn_12]; rfl
            have ft12_statements : (wn_12 18 0).toInt = ((wn_9 18 0) + 0 : Int32).toInt := by rw [hwn_12]; rfl
            have := i_addr (a := wn_9 18 0) (b := 0) (n := 0) q_0 (by omega) (by omega)
            have ft12_layers : (wn_12 11 0).toInt = (wn_9 11 0).toInt := by rw [hwn_12]; rfl
            have := i_addr (a := wn_9 18 0) (b := 0) (n := 0) q_0 (by omega) (by omega)
            have hI_12 : R7I wn_12 := by rw [hwn_12]; exact R7I_put_statements hI_9 (by omega) (by omega)
            refine lv_goto (tgt := 12) hx hb dX7_load_57 (by decide) ?_
            have := R7I_at hI_12
            exact ih_12 rn_9 wn_12 H locs ls ⟨by omega, by omega, by omega, by omega, by omega, by omega, by omega⟩ (by omega) hI_12 hP hS (lv_sub hl [0, 1] rfl) E
          · have E := E.trans (if_neg c_11)
            have fc_11 := i_ne c_11
            rw [q_0] at fc_11
            refine lv_iconst (v := 1) hx hb dX7_load_48 (by decide) ?_
            refine lv_goto (tgt := 53) hx hb dX7_load_49 (by decide) ?_
            refine lv_iadd hx hb dX7_load_53 ?_
            refine p7_statements hx hb hts hin hown hK hP hd hS (hts (.fieldLink RX7 112 "LoadedForTheLaneModel" "statements" "I") (by decide +kernel)) dX7_load_54 (fun H locs hP hS => ?_)
            obtain ⟨wn_13, hwn_13⟩ : ∃ x, x = st wn_9 18 0 ((wn_9 18 0) + 1) := ⟨_, rfl⟩
            rw [← hwn_13] at hP
            have E := bns_e E hwn_13
            have ft13_taped : (wn_13 16 0).toInt = (wn_9 16 0).toInt := by rw [hwn_13]; rfl
            have ft13_at : (wn_13 17 0).toInt = (wn_9 17 0).toInt := by rw [hwn_13]; rfl
            have ft13_statements : (wn_13 18 0).toInt = ((wn_9 18 0) + 1 : Int32).toInt := by rw [hwn_13]; rfl
            have := i_addr (a := wn_9 18 0) (b := 1) (n := 1) q_1 (by omega) (by omega)
            have ft13_layers : (wn_13 11 0).toInt = (wn_9 11 0).toInt := by rw [hwn_13]; rfl
            have := i_addr (a := wn_9 18 0) (b := 1) (n := 1) q_1 (by omega) (by omega)
            have hI_13 : R7I wn_13 := by rw [hwn_13]; exact R7I_put_statements hI_9 (by omega) (by omega)
            refine lv_goto (tgt := 12) hx hb dX7_load_57 (by decide) ?_
            have := R7I_at hI_13
            exact ih_12 rn_9 wn_13 H locs ls ⟨by omega, by omega, by omega, by omega, by omega, by omega, by omega⟩ (by omega) hI_13 hP hS (lv_sub hl [0, 1] rfl) E
        · have E := E.trans (if_neg c_8)
          have fc_8 := i_nlt c_8
          refine lv_aload_n hx hb dX7_load_27 rfl (lv_at hl 1 rfl) ?_
          refine g7_statements hx hb hts hin hown hK hP (hts (.fieldLink RX7 112 "LoadedForTheLaneModel" "statements" "I") (by decide +kernel)) dX7_load_28 ?_
          have f_14 := R7I_statements hI_12
          refine lv_if_ne (tgt := 60) hx hb dX7_load_31 (by decide) (fun c_15 => ?_) (fun c_15 => ?_)
          · have E := E.trans (if_neg c_15)
            have fc_15 := i_ne c_15
            rw [q_0] at fc_15
            refine lv_aload_n hx hb dX7_load_60 rfl (lv_at hl 1 rfl) ?_
            refine lv_iconst (v := 0) hx hb dX7_load_61 (by decide) ?_
            refine p7_taped hx hb hts hin hown hK hP hd hS (hts (.fieldLink RX7 79 "LoadedForTheLaneModel" "taped" "I") (by decide +kernel)) dX7_load_62 (fun H locs hP hS => ?_)
            obtain ⟨wn_16, hwn_16⟩ : ∃ x, x = st w_12 16 0 0 := ⟨_, rfl⟩
            rw [← hwn_16] at hP
            have E := bns_e E hwn_16
            have ft16_taped : (wn_16 16 0).toInt = (0 : Int32).toInt := by rw [hwn_16]; rfl
            have := q_0
            have ft16_at : (wn_16 17 0).toInt = (w_12 17 0).toInt := by rw [hwn_16]; rfl
            have ft16_statements : (wn_16 18 0).toInt = (w_12 18 0).toInt := by rw [hwn_16]; rfl
            have ft16_layers : (wn_16 11 0).toInt = (w_12 11 0).toInt := by rw [hwn_16]; rfl
            have := q_0
            have hI_16 : R7I wn_16 := by rw [hwn_16]; exact R7I_put_taped hI_12 (by omega) (by omega)
            refine lv_iload_n hx hb dX7_load_65 rfl (lv_at hl 0 rfl) ?_
            refine lv_if_ne (tgt := 78) hx hb dX7_load_66 (by decide) (fun _ => ?_) (fun z => absurd z c_3)
            refine lv_aload_n hx hb dX7_load_78 rfl (lv_at hl 1 rfl) ?_
            refine lv_iconst (v := 1) hx hb dX7_load_79 (by decide) ?_
            refine lv_iconst (v := 1) hx hb dX7_load_80 (by decide) ?_
            have := q_1
            refine va_callv (va_runV (As := [.int 1, .int 1]) (rest := []) ⟨hx, hb, hml, hown, hts⟩ (kX7_passesAll l D cI ad wn_16 1 1 hd (by omega) (by omega) (Or.inr rfl)) (cwV 2 hts gX7_load_X7_passesAll rfl rfl rfl mdX7_passesAll ⟨Nat.le_of_ble_eq_true rfl, Nat.le_of_ble_eq_true rfl⟩) (r7_pre hK hP) rfl rfl hl.1 rfl (lv_room (Nat.le_of_ble_eq_true rfl)) dX7_load_81 ⟨Nat.zero_le _, Nat.zero_le _⟩) hS (fun _ _ h => h) (fun _ h => h) (fun wn_17 t H locs ht hvm hp_17 hB hz hfr hS => ?_)
            have hP : va_P D vwCl (RM cI ad wn_17) H := ht ▸ hB
            have E := bns_e E hp_17
            have e_17 := fun k h1 h2 h3 => (congrFun hp_17 k).trans (iX7_save (w := wn_16) (a := 1) k h1 h2 h3)
            have hI_17 : R7I wn_17 := R7I_eq hI_16 (e_17 10 (by decide) (by decide) (by decide)) (e_17 11 (by decide) (by decide) (by decide)) (e_17 16 (by decide) (by decide) (by decide)) (e_17 17 (by decide) (by decide) (by decide)) (e_17 18 (by decide) (by decide) (by decide)) (e_17 27 (by decide) (by decide) (by decide))
            have el_17 : (wn_17 11 0).toInt = (wn_16 11 0).toInt := by rw [e_17 11 (by decide) (by decide) (by decide)]
            have es_17 : (wn_17 18 0).toInt = (wn_16 18 0).toInt := by rw [e_17 18 (by decide) (by decide) (by decide)]
            refine lv_iconst (v := 0) hx hb dX7_load_84 (by decide) ?_
            refine lv_istore_n (lv' := [(2, .int 0), (1, .int x1_12), (0, .ref (ad 0))]) hx hb dX7_load_85 rfl hl (by decide) rfl (fun ls hl => ?_)
            have L_86 : ∀ (n_86 : Nat) (x2_86 : Int32) (w_86 : Nat → Nat → Int32) (H : Heap) (locs : List Loc) (ls : Array Slot), ((0 ≤ x2_86.toInt) ∧ (x2_86.toInt ≤ 48) ∧ ((w_86 11 0).toInt ≤ 11)) → (48 - x2_86.toInt < (n_86 : Int)) → R7I w_86 → va_P D vwCl (RM cI ad w_86) H → va_S (RA ad) s.heap H locs → lv_has ls 3 [(2, .int x2_86), (0, .ref (ad 0))] → sX7_load w = sX7_load_86 n_86 x2_86 w_86 → W p l e (headSpec wsX7_load rmX7_load).room s m [Value.ref (ad 0)].toArray below meth c H locs 0 0 (MQ below (va_Qi (fun r u => (r, u) = sX7_load w) (fun u t => va_P D vwCl (RM cI ad u) t.heap) (RA ad)) [Value.ref (ad 0)].toArray s 0 0 (RA ad)) (F0 m 86 ls []) := by
              intro n_86
              induction n_86 with
              | zero =>
                intro x2_86 w_86 H locs ls hinv hm
                obtain ⟨v0_86, v1_86, v2_86⟩ := hinv
                exact absurd hm (by omega)
              | succ n_86 ih_86 =>
                intro x2_86 w_86 H locs ls hinv hm_86 hI_86 hP hS hl E
                obtain ⟨v0_86, v1_86, v2_86⟩ := hinv
                have E := E.trans (sX7_load_86.eq_2 ..)
                refine lv_iload_n hx hb dX7_load_86 rfl (lv_at hl 0 rfl) ?_
                refine lv_aload_n hx hb dX7_load_87 rfl (lv_at hl 1 rfl) ?_
                refine g7_statements hx hb hts hin hown hK hP (hts (.fieldLink RX7 112 "LoadedForTheLaneModel" "statements" "I") (by decide +kernel)) dX7_load_88 ?_
                have f_18 := R7I_statements hI_86
                refine lv_icmp_ge (tgt := 128) hx hb dX7_load_91 (by decide) (fun c_19 => ?_) (fun c_19 => ?_)
                · have E := E.trans (if_pos c_19)
                  have fc_19 := i_le c_19
                  refine lv_aload_n hx hb dX7_load_128 rfl (lv_at hl 1 rfl) ?_
                  refine g7_statements hx hb hts hin hown hK hP (hts (.fieldLink RX7 112 "LoadedForTheLaneModel" "statements" "I") (by decide +kernel)) dX7_load_129 ?_
                  have f_20 := R7I_statements hI_86
                  exact W.iret (v := w_86 18 0) hx hb hr (fun t ht hW => ⟨⟨_, w_86, rfl, E.symm, by show va_P _ _ _ t.heap; rw [ht]; exact hP⟩, hS.F ht⟩) hS.2.2 dX7_load_132
                · have E := E.trans (if_neg c_19)
                  have fc_19 := i_nle c_19
                  refine lv_aload_n hx hb dX7_load_94 rfl (lv_at hl 1 rfl) ?_
                  refine lv_iload_n hx hb dX7_load_95 rfl (lv_at hl 0 rfl) ?_
                  refine va_calli (va_runV (As := [.int x2_86]) (rest := []) ⟨hx, hb, hml, hown, hts⟩ (kX7_comes l D cI ad w_86 x2_86 hd hI_86 (by omega) (by omega) (by omega)) (cwV 1 hts gX7_load_X7_comes rfl rfl rfl mdX7_comes ⟨Nat.le_of_ble_eq_true rfl, Nat.le_of_ble_eq_true rfl⟩) (r7_pre hK hP) rfl rfl hl.1 rfl (lv_room (Nat.le_of_ble_eq_true rfl)) dX7_load_96 ⟨Nat.zero_le _, Nat.zero_le _⟩) hS (fun _ _ h => h) (fun _ h => h) (fun rn_21 wn_21 t H locs ht hvm hp_21 hB hz hfr hS => ?_)
                  have hP : va_P D vwCl (RM cI ad wn_21) H := ht ▸ hB
                  obtain ⟨hp_21, hz_21, hI_21, hq0_21⟩ := hp_21
                  have E := bnd_e E hp_21
                  have hzi_21 := z_int hz_21
                  refine lv_if_eq (tgt := 105) hx hb dX7_load_99 (by decide) (fun c_22 => ?_) (fun c_22 => ?_)
                  · have E := E.trans (if_pos c_22)
                    have fc_22 := i_eq c_22
                    rw [q_0] at fc_22
                    refine lv_aload_n hx hb dX7_load_105 rfl (lv_at hl 1 rfl) ?_
                    refine lv_iconst (v := 1) hx hb dX7_load_106 (by decide) ?_
                    refine lv_iconst (v := 0) hx hb dX7_load_107 (by decide) ?_
                    have := q_1
                    have := q_0
                    refine va_callv (va_runV (As := [.int 1, .int 0]) (rest := []) ⟨hx, hb, hml, hown, hts⟩ (kX7_passesAll l D cI ad wn_21 1 0 hd (by omega) (by omega) (Or.inl rfl)) (cwV 2 hts gX7_load_X7_passesAll rfl rfl rfl mdX7_passesAll ⟨Nat.le_of_ble_eq_true rfl, Nat.le_of_ble_eq_true rfl⟩) (r7_pre hK hP) rfl rfl hl.1 rfl (lv_room (Nat.le_of_ble_eq_true rfl)) dX7_load_108 ⟨Nat.zero_le _, Nat.zero_le _⟩) hS (fun _ _ h => h) (fun _ h => h) (fun wn_23 t H locs ht hvm hp_23 hB hz hfr hS => ?_)
                    have hP : va_P D vwCl (RM cI ad wn_23) H := ht ▸ hB
                    have E := bns_e E hp_23
                    refine lv_sipush (v := (-2000)) hx hb dX7_load_111 (by decide +kernel) ?_
                    refine lv_aload_n hx hb dX7_load_114 rfl (lv_at hl 1 rfl) ?_
                    refine g7_letterAt hx hb hts hin hown hK hP (hts (.fieldLink RX7 49 "LoadedForTheLaneModel" "letterAt" "[I") (by decide +kernel)) dX7_load_115 ?_
                    refine lv_iload_n hx hb dX7_load_118 rfl (lv_at hl 0 rfl) ?_
                    have ix_24 : vp_in x2_86 48 := ix_of (by omega) (by omega)
                    refine l7_letterAt (j := x2_86.toNatClampNeg) hx hb hK hP ix_24 rfl dX7_load_119 ?_
                    refine lv_isub hx hb dX7_load_120 ?_
                    exact W.iret (v := (-2000) - (wn_23 14 (x2_86.toNatClampNeg))) hx hb hr (fun t ht hW => ⟨⟨_, wn_23, rfl, E.symm, by show va_P _ _ _ t.heap; rw [ht]; exact hP⟩, hS.F ht⟩) hS.2.2 dX7_load_121
                  · have E := E.trans (if_neg c_22)
                    have fc_22 := i_ne c_22
                    rw [q_0] at fc_22
                    refine lv_goto (tgt := 122) hx hb dX7_load_102 (by decide) ?_
                    refine lv_iinc (v := x2_86 + 1) (lv' := [(2, .int (x2_86 + 1)), (0, .ref (ad 0))]) hx hb dX7_load_122 hl (k := 0) rfl rfl (by decide) rfl (fun ls hl => ?_)
                    refine lv_goto (tgt := 86) hx hb dX7_load_125 (by decide) ?_
                    try have := i_addr (a := x2_86) (b := 1) (n := 1) q_1 (by omega) (by omega)
                    exact ih_86 (x2_86 + 1) wn_21 H locs ls ⟨by omega, by omega, by omega⟩ (by omega) hI_21 hP hS (lv_sub hl [0, 1] rfl) E
            have := q_0
            exact L_86 49 0 wn_17 H locs ls ⟨by omega, by omega, by omega⟩ (by omega) hI_17 hP hS (lv_sub hl [0, 2] rfl) E
          · have E := E.trans (if_pos c_15)
            have fc_15 := i_eq c_15
            rw [q_0] at fc_15
            refine lv_aload_n hx hb dX7_load_34 rfl (lv_at hl 1 rfl) ?_
            refine va_calli (va_runV (As := []) (rest := []) ⟨hx, hb, hml, hown, hts⟩ (kX7_statement l D cI ad w_12 hd hI_12 (by omega)) (cwV 0 hts gX7_load_X7_statement rfl rfl rfl mdX7_statement ⟨Nat.le_of_ble_eq_true rfl, Nat.le_of_ble_eq_true rfl⟩) (r7_pre hK hP) rfl rfl hl.1 rfl (lv_room (Nat.le_of_ble_eq_true rfl)) dX7_load_35 ⟨Nat.zero_le _, Nat.zero_le _⟩) hS (fun _ _ h => h) (fun _ h => h) (fun rn_25 wn_25 t H locs ht hvm hp_25 hB hz hfr hS => ?_)
            have hP : va_P D vwCl (RM cI ad wn_25) H := ht ▸ hB
            obtain ⟨hp_25, hz_25, hI_25, hq0_25, hq1_25, hq2_25, hq3_25, hq4_25⟩ := hp_25
            have E := bnd_e E hp_25
            have hzi_25 := z_int hz_25
            refine lv_istore_n (lv' := [(1, .int rn_25), (0, .ref (ad 0))]) hx hb dX7_load_38 rfl hl (by decide) rfl (fun ls hl => ?_)
            refine lv_aload_n hx hb dX7_load_39 rfl (lv_at hl 1 rfl) ?_
            refine lv_dup hx hb dX7_load_40 rfl ?_
            refine g7_statements hx hb hts hin hown hK hP (hts (.fieldLink RX7 112 "LoadedForTheLaneModel" "statements" "I") (by decide +kernel)) dX7_load_41 ?_
            have f_26 := R7I_statements hI_25
            refine lv_iload_n hx hb dX7_load_44 rfl (lv_at hl 0 rfl) ?_
            refine lv_if_eq (tgt := 52) hx hb dX7_load_45 (by decide) (fun c_27 => ?_) (fun c_27 => ?_)
            · have E := E.trans (if_pos c_27)
              have fc_27 := i_eq c_27
              rw [q_0] at fc_27
              refine lv_iconst (v := 0) hx hb dX7_load_52 (by decide) ?_
              refine lv_iadd hx hb dX7_load_53 ?_
              refine p7_statements hx hb hts hin hown hK hP hd hS (hts (.fieldLink RX7 112 "LoadedForTheLaneModel" "statements" "I") (by decide +kernel)) dX7_load_54 (fun H locs hP hS => ?_)
              obtain ⟨wn_28, hwn_28⟩ : ∃ x, x = st wn_25 18 0 ((wn_25 18 0) + 0) := ⟨_, rfl⟩
              rw [← hwn_28] at hP
              have E := bns_e E hwn_28
              have ft28_taped : (wn_28 16 0).toInt = (wn_25 16 0).toInt := by rw [hwn_28]; rfl
              have ft28_at : (wn_28 17 0).toInt = (wn_25 17 0).toInt := by rw [hwn_28]; rfl
              have ft28_statements : (wn_28 18 0).toInt = ((wn_25 18 0) + 0 : Int32).toInt := by rw [hwn_28]; rfl
              have := i_addr (a := wn_25 18 0) (b := 0) (n := 0) q_0 (by omega) (by omega)
              have ft28_layers : (wn_28 11 0).toInt = (wn_25 11 0).toInt := by rw [hwn_28]; rfl
              have := i_addr (a := wn_25 18 0) (b := 0) (n := 0) q_0 (by omega) (by omega)
              have hI_28 : R7I wn_28 := by rw [hwn_28]; exact R7I_put_statements hI_25 (by omega) (by omega)
              refine lv_goto (tgt := 12) hx hb dX7_load_57 (by decide) ?_
              have := R7I_at hI_28
              exact ih_12 rn_25 wn_28 H locs ls ⟨by omega, by omega, by omega, by omega, by omega, by omega, by omega⟩ (by omega) hI_28 hP hS (lv_sub hl [0, 1] rfl) E
            · have E := E.trans (if_neg c_27)
              have fc_27 := i_ne c_27
              rw [q_0] at fc_27
              refine lv_iconst (v := 1) hx hb dX7_load_48 (by decide) ?_
              refine lv_goto (tgt := 53) hx hb dX7_load_49 (by decide) ?_
              refine lv_iadd hx hb dX7_load_53 ?_
              refine p7_statements hx hb hts hin hown hK hP hd hS (hts (.fieldLink RX7 112 "LoadedForTheLaneModel" "statements" "I") (by decide +kernel)) dX7_load_54 (fun H locs hP hS => ?_)
              obtain ⟨wn_29, hwn_29⟩ : ∃ x, x = st wn_25 18 0 ((wn_25 18 0) + 1) := ⟨_, rfl⟩
              rw [← hwn_29] at hP
              have E := bns_e E hwn_29
              have ft29_taped : (wn_29 16 0).toInt = (wn_25 16 0).toInt := by rw [hwn_29]; rfl
              have ft29_at : (wn_29 17 0).toInt = (wn_25 17 0).toInt := by rw [hwn_29]; rfl
              have ft29_statements : (wn_29 18 0).toInt = ((wn_25 18 0) + 1 : Int32).toInt := by rw [hwn_29]; rfl
              have := i_addr (a := wn_25 18 0) (b := 1) (n := 1) q_1 (by omega) (by omega)
              have ft29_layers : (wn_29 11 0).toInt = (wn_25 11 0).toInt := by rw [hwn_29]; rfl
              have := i_addr (a := wn_25 18 0) (b := 1) (n := 1) q_1 (by omega) (by omega)
              have hI_29 : R7I wn_29 := by rw [hwn_29]; exact R7I_put_statements hI_25 (by omega) (by omega)
              refine lv_goto (tgt := 12) hx hb dX7_load_57 (by decide) ?_
              have := R7I_at hI_29
              exact ih_12 rn_25 wn_29 H locs ls ⟨by omega, by omega, by omega, by omega, by omega, by omega, by omega⟩ (by omega) hI_29 hP hS (lv_sub hl [0, 1] rfl) E
  have := q_1
  exact L_12 196 1 wn_2 H locs ls ⟨by omega, by omega, by omega, by omega, by omega, by omega, by omega⟩ (by omega) hI_2 hP hS (lv_sub hl [0, 1] rfl) E
abbrev rmX7_image : Room := { frames := 2, cells := 0, slots := 0, locals := 44 }
set_option maxHeartbeats 4000000 in
set_option maxRecDepth 100000 in
theorem kX7_image (l : Launch) (D : va_G) (cI : ClassId) (ad : Nat → Nat) (w : Nat → Nat → Int32) (hd : RD ad) (hI : R7I w)  : Met l yX7_image wsX7_image rmX7_image (va_Pc [Value.ref (ad 0)] (fun U => va_P D vwCl (RM cI ad w) U.heap ∧ va_K D vwCl [(cI, .int)] U)) (va_Qi (fun r u => (r, u) = sX7_image w) (fun u t => va_P D vwCl (RM cI ad u) t.heap) (RA ad)) 0 0 (RA ad) := by
  refine Met.ofW (cc := cX7_image) (maxL := 1) (ret := (some .int)) (by decide) rfl ?_
  intro p e s m args below meth c s₁ B hml hv
  obtain ⟨rfl, hP, hK⟩ := hv
  have hx := B.exec
  have hb := B.bytes
  have hr := B.returns
  have hts := atoms_spec (ws := wsX7_image) B.pre
  have hown : s.vm.findClass RX7 = some m.cls := findClass_of_methodNamed B.named
  have hlocks := B.notSynchronized
  have hin : ∀ q ∈ wsX70, q ∈ wsX7_image := by decide +kernel
  have hl := lv_entry ([.ref (ad 0)]) (n := 1) (Nat.le_of_ble_eq_true rfl)
  rw [lg_entry_eq]
  generalize (lg_sl ([.ref (ad 0)]) ++ List.replicate (1 - (lg_sl ([.ref (ad 0)])).length) Slot.unset).toArray = ls at hl ⊢
  have hl : lv_has ls 1 [(0, .ref (ad 0))] := hl
  suffices hgo : ∀ (H : Heap) (locs : List Loc), va_P D vwCl (RM cI ad w) H → va_S (RA ad) s.heap H locs → W p l e (headSpec wsX7_image rmX7_image).room s m [Value.ref (ad 0)].toArray below meth c H locs 0 0 (MQ below (va_Qi (fun r u => (r, u) = sX7_image w) (fun u t => va_P D vwCl (RM cI ad u) t.heap) (RA ad)) [Value.ref (ad 0)].toArray s 0 0 (RA ad)) (F0 m 0 ls []) from hgo s.heap [] hP va_S.rf
  intro H locs hP hS
  have E := sX7_image.eq_1 w
  refine lv_aload_n hx hb dX7_image_0 rfl (lv_at hl 0 rfl) ?_
  refine lv_iconst (v := 1) hx hb dX7_image_1 (by decide) ?_
  refine p7_hasImage hx hb hts hin hown hK hP hd hS (Or.inr rfl) (hts (.fieldLink RX7 150 "LoadedForTheLaneModel" "hasImage" "Z") (by decide +kernel)) dX7_image_2 (fun H locs hP hS => ?_)
  obtain ⟨wn_1, hwn_1⟩ : ∃ x, x = st w 20 0 1 := ⟨_, rfl⟩
  rw [← hwn_1] at hP
  have E := bns_e E hwn_1
  have hI_1 : R7I wn_1 := by rw [hwn_1]; exact R7I_put_hasImage hI
  refine lv_aload_n hx hb dX7_image_5 rfl (lv_at hl 0 rfl) ?_
  refine lv_iconst (v := 0) hx hb dX7_image_6 (by decide) ?_
  refine lv_iconst (v := 1) hx hb dX7_image_7 (by decide) ?_
  have := q_0
  have := q_1
  refine va_callv (va_runV (As := [.int 0, .int 1]) (rest := []) ⟨hx, hb, hml, hown, hts⟩ (kX7_passesAll l D cI ad wn_1 0 1 hd (by omega) (by omega) (Or.inr rfl)) (cwV 2 hts gX7_image_X7_passesAll rfl rfl rfl mdX7_passesAll ⟨Nat.le_of_ble_eq_true rfl, Nat.le_of_ble_eq_true rfl⟩) (r7_pre hK hP) rfl rfl hl.1 rfl (lv_room (Nat.le_of_ble_eq_true rfl)) dX7_image_8 ⟨Nat.zero_le _, Nat.zero_le _⟩) hS (fun _ _ h => h) (fun _ h => h) (fun wn_2 t H locs ht hvm hp_2 hB hz hfr hS => ?_)
  have hP : va_P D vwCl (RM cI ad wn_2) H := ht ▸ hB
  have E := bns_e E hp_2
  refine lv_aload_n hx hb dX7_image_11 rfl (lv_at hl 0 rfl) ?_
  refine g7_layers hx hb hts hin hown hK hP (hts (.fieldLink RX7 67 "LoadedForTheLaneModel" "layers" "I") (by decide +kernel)) dX7_image_12 ?_
  have f_3 := R7I_layers hI_1
  exact W.iret (v := wn_2 11 0) hx hb hr (fun t ht hW => ⟨⟨_, wn_2, rfl, E.symm, by show va_P _ _ _ t.heap; rw [ht]; exact hP⟩, hS.F ht⟩) hS.2.2 dX7_image_15
abbrev rmX7_on : Room := { frames := 2, cells := 0, slots := 0, locals := 44 }
set_option maxHeartbeats 4000000 in
set_option maxRecDepth 100000 in
theorem kX7_on (l : Launch) (D : va_G) (cI : ClassId) (ad : Nat → Nat) (w : Nat → Nat → Int32) (hd : RD ad) (hI : R7I w)  : Met l yX7_on wsX7_on rmX7_on (va_Pc [Value.ref (ad 0)] (fun U => va_P D vwCl (RM cI ad w) U.heap ∧ va_K D vwCl [(cI, .int)] U)) (va_Qi (fun r u => (r, u) = sX7_on w) (fun u t => va_P D vwCl (RM cI ad u) t.heap) (RA ad)) 0 0 (RA ad) := by
  refine Met.ofW (cc := cX7_on) (maxL := 1) (ret := (some .int)) (by decide) rfl ?_
  intro p e s m args below meth c s₁ B hml hv
  obtain ⟨rfl, hP, hK⟩ := hv
  have hx := B.exec
  have hb := B.bytes
  have hr := B.returns
  have hts := atoms_spec (ws := wsX7_on) B.pre
  have hown : s.vm.findClass RX7 = some m.cls := findClass_of_methodNamed B.named
  have hlocks := B.notSynchronized
  have hin : ∀ q ∈ wsX70, q ∈ wsX7_on := by decide +kernel
  have hl := lv_entry ([.ref (ad 0)]) (n := 1) (Nat.le_of_ble_eq_true rfl)
  rw [lg_entry_eq]
  generalize (lg_sl ([.ref (ad 0)]) ++ List.replicate (1 - (lg_sl ([.ref (ad 0)])).length) Slot.unset).toArray = ls at hl ⊢
  have hl : lv_has ls 1 [(0, .ref (ad 0))] := hl
  suffices hgo : ∀ (H : Heap) (locs : List Loc), va_P D vwCl (RM cI ad w) H → va_S (RA ad) s.heap H locs → W p l e (headSpec wsX7_on rmX7_on).room s m [Value.ref (ad 0)].toArray below meth c H locs 0 0 (MQ below (va_Qi (fun r u => (r, u) = sX7_on w) (fun u t => va_P D vwCl (RM cI ad u) t.heap) (RA ad)) [Value.ref (ad 0)].toArray s 0 0 (RA ad)) (F0 m 0 ls []) from hgo s.heap [] hP va_S.rf
  intro H locs hP hS
  have E := sX7_on.eq_1 w
  refine lv_aload_n hx hb dX7_on_0 rfl (lv_at hl 0 rfl) ?_
  refine g7_hasImage hx hb hts hin hown hK hP (hts (.fieldLink RX7 150 "LoadedForTheLaneModel" "hasImage" "Z") (by decide +kernel)) dX7_on_1 ?_
  refine lv_if_ne (tgt := 14) hx hb dX7_on_4 (by decide) (fun c_1 => ?_) (fun c_1 => ?_)
  · have E := E.trans (if_neg c_1)
    have fc_1 := i_ne c_1
    rw [q_0] at fc_1
    refine lv_aload_n hx hb dX7_on_14 rfl (lv_at hl 0 rfl) ?_
    refine lv_iconst (v := 0) hx hb dX7_on_15 (by decide) ?_
    refine lv_iconst (v := 0) hx hb dX7_on_16 (by decide) ?_
    have := q_0
    refine va_callv (va_runV (As := [.int 0, .int 0]) (rest := []) ⟨hx, hb, hml, hown, hts⟩ (kX7_passesAll l D cI ad w 0 0 hd (by omega) (by omega) (Or.inl rfl)) (cwV 2 hts gX7_on_X7_passesAll rfl rfl rfl mdX7_passesAll ⟨Nat.le_of_ble_eq_true rfl, Nat.le_of_ble_eq_true rfl⟩) (r7_pre hK hP) rfl rfl hl.1 rfl (lv_room (Nat.le_of_ble_eq_true rfl)) dX7_on_17 ⟨Nat.zero_le _, Nat.zero_le _⟩) hS (fun _ _ h => h) (fun _ h => h) (fun wn_2 t H locs ht hvm hp_2 hB hz hfr hS => ?_)
    have hP : va_P D vwCl (RM cI ad wn_2) H := ht ▸ hB
    have E := bns_e E hp_2
    refine lv_aload_n hx hb dX7_on_20 rfl (lv_at hl 0 rfl) ?_
    refine g7_layers hx hb hts hin hown hK hP (hts (.fieldLink RX7 67 "LoadedForTheLaneModel" "layers" "I") (by decide +kernel)) dX7_on_21 ?_
    have f_3 := R7I_layers hI
    exact W.iret (v := wn_2 11 0) hx hb hr (fun t ht hW => ⟨⟨_, wn_2, rfl, E.symm, by show va_P _ _ _ t.heap; rw [ht]; exact hP⟩, hS.F ht⟩) hS.2.2 dX7_on_24
  · have E := E.trans (if_pos c_1)
    have fc_1 := i_eq c_1
    rw [q_0] at fc_1
    refine lv_aload_n hx hb dX7_on_7 rfl (lv_at hl 0 rfl) ?_
    refine lv_bipush (v := (-3)) hx hb dX7_on_8 (by decide +kernel) ?_
    have := q_m3
    refine va_calli (va_runV (As := [.int (-3)]) (rest := []) ⟨hx, hb, hml, hown, hts⟩ (kX7_no l D cI ad w (-3) hd hI (by omega) (by omega)) (cwV 1 hts gX7_on_X7_no rfl rfl rfl mdX7_no ⟨Nat.le_of_ble_eq_true rfl, Nat.le_of_ble_eq_true rfl⟩) (r7_pre hK hP) rfl rfl hl.1 rfl (lv_room (Nat.le_of_ble_eq_true rfl)) dX7_on_10 ⟨Nat.zero_le _, Nat.zero_le _⟩) hS (fun _ _ h => h) (fun _ h => h) (fun rn_4 wn_4 t H locs ht hvm hp_4 hB hz hfr hS => ?_)
    have hP : va_P D vwCl (RM cI ad wn_4) H := ht ▸ hB
    obtain ⟨hp_4, hI_4⟩ := hp_4
    have E := bnd_e E hp_4
    exact W.iret (v := rn_4) hx hb hr (fun t ht hW => ⟨⟨_, wn_4, rfl, E.symm, by show va_P _ _ _ t.heap; rw [ht]; exact hP⟩, hS.F ht⟩) hS.2.2 dX7_on_13
abbrev rmX7_off : Room := { frames := 1, cells := 0, slots := 0, locals := 21 }
set_option maxHeartbeats 4000000 in
set_option maxRecDepth 100000 in
theorem kX7_off (l : Launch) (D : va_G) (cI : ClassId) (ad : Nat → Nat) (w : Nat → Nat → Int32) (hd : RD ad) (hI : R7I w)  : Met l yX7_off wsX7_off rmX7_off (va_Pc [Value.ref (ad 0)] (fun U => va_P D vwCl (RM cI ad w) U.heap ∧ va_K D vwCl [(cI, .int)] U)) (va_Qi (fun r u => (r, u) = sX7_off w ∧ R7I u) (fun u t => va_P D vwCl (RM cI ad u) t.heap) (RA ad)) 0 0 (RA ad) := by
  refine Met.ofW (cc := cX7_off) (maxL := 1) (ret := (some .int)) (by decide) rfl ?_
  intro p e s m args below meth c s₁ B hml hv
  obtain ⟨rfl, hP, hK⟩ := hv
  have hx := B.exec
  have hb := B.bytes
  have hr := B.returns
  have hts := atoms_spec (ws := wsX7_off) B.pre
  have hown : s.vm.findClass RX7 = some m.cls := findClass_of_methodNamed B.named
  have hlocks := B.notSynchronized
  have hin : ∀ q ∈ wsX70, q ∈ wsX7_off := by decide +kernel
  have hl := lv_entry ([.ref (ad 0)]) (n := 1) (Nat.le_of_ble_eq_true rfl)
  rw [lg_entry_eq]
  generalize (lg_sl ([.ref (ad 0)]) ++ List.replicate (1 - (lg_sl ([.ref (ad 0)])).length) Slot.unset).toArray = ls at hl ⊢
  have hl : lv_has ls 1 [(0, .ref (ad 0))] := hl
  suffices hgo : ∀ (H : Heap) (locs : List Loc), va_P D vwCl (RM cI ad w) H → va_S (RA ad) s.heap H locs → W p l e (headSpec wsX7_off rmX7_off).room s m [Value.ref (ad 0)].toArray below meth c H locs 0 0 (MQ below (va_Qi (fun r u => (r, u) = sX7_off w ∧ R7I u) (fun u t => va_P D vwCl (RM cI ad u) t.heap) (RA ad)) [Value.ref (ad 0)].toArray s 0 0 (RA ad)) (F0 m 0 ls []) from hgo s.heap [] hP va_S.rf
  intro H locs hP hS
  have E := sX7_off.eq_1 w
  refine lv_aload_n hx hb dX7_off_0 rfl (lv_at hl 0 rfl) ?_
  refine g7_layers hx hb hts hin hown hK hP (hts (.fieldLink RX7 67 "LoadedForTheLaneModel" "layers" "I") (by decide +kernel)) dX7_off_1 ?_
  have f_1 := R7I_layers hI
  refine lv_if_ne (tgt := 14) hx hb dX7_off_4 (by decide) (fun c_2 => ?_) (fun c_2 => ?_)
  · have E := E.trans (if_neg c_2)
    have fc_2 := i_ne c_2
    rw [q_0] at fc_2
    refine lv_aload_n hx hb dX7_off_14 rfl (lv_at hl 0 rfl) ?_
    refine lv_dup hx hb dX7_off_15 rfl ?_
    refine g7_layers hx hb hts hin hown hK hP (hts (.fieldLink RX7 67 "LoadedForTheLaneModel" "layers" "I") (by decide +kernel)) dX7_off_16 ?_
    have f_3 := R7I_layers hI
    refine lv_iconst (v := 1) hx hb dX7_off_19 (by decide) ?_
    refine lv_isub hx hb dX7_off_20 ?_
    refine p7_layers hx hb hts hin hown hK hP hd hS (hts (.fieldLink RX7 67 "LoadedForTheLaneModel" "layers" "I") (by decide +kernel)) dX7_off_21 (fun H locs hP hS => ?_)
    obtain ⟨wn_4, hwn_4⟩ : ∃ x, x = st w 11 0 ((w 11 0) - 1) := ⟨_, rfl⟩
    rw [← hwn_4] at hP
    have E := bns_e E hwn_4
    have ft4_layers : (wn_4 11 0).toInt = ((w 11 0) - 1 : Int32).toInt := by rw [hwn_4]; rfl
    have := i_subr (a := w 11 0) (b := 1) (n := 1) q_1 (by omega) (by omega)
    have := i_subr (a := w 11 0) (b := 1) (n := 1) q_1 (by omega) (by omega)
    have hI_4 : R7I wn_4 := by rw [hwn_4]; exact R7I_put_layers hI (by omega) (by omega)
    refine lv_aload_n hx hb dX7_off_24 rfl (lv_at hl 0 rfl) ?_
    refine g7_layers hx hb hts hin hown hK hP (hts (.fieldLink RX7 67 "LoadedForTheLaneModel" "layers" "I") (by decide +kernel)) dX7_off_25 ?_
    have f_5 := R7I_layers hI_4
    exact W.iret (v := wn_4 11 0) hx hb hr (fun t ht hW => ⟨⟨_, wn_4, rfl, ⟨E.symm, hI_4⟩, by show va_P _ _ _ t.heap; rw [ht]; exact hP⟩, hS.F ht⟩) hS.2.2 dX7_off_28
  · have E := E.trans (if_pos c_2)
    have fc_2 := i_eq c_2
    rw [q_0] at fc_2
    refine lv_aload_n hx hb dX7_off_7 rfl (lv_at hl 0 rfl) ?_
    refine lv_bipush (v := (-3)) hx hb dX7_off_8 (by decide +kernel) ?_
    have := q_m3
    refine va_calli (va_runV (As := [.int (-3)]) (rest := []) ⟨hx, hb, hml, hown, hts⟩ (kX7_no l D cI ad w (-3) hd hI (by omega) (by omega)) (cwV 1 hts gX7_off_X7_no rfl rfl rfl mdX7_no ⟨Nat.le_of_ble_eq_true rfl, Nat.le_of_ble_eq_true rfl⟩) (r7_pre hK hP) rfl rfl hl.1 rfl (lv_room (Nat.le_of_ble_eq_true rfl)) dX7_off_10 ⟨Nat.zero_le _, Nat.zero_le _⟩) hS (fun _ _ h => h) (fun _ h => h) (fun rn_6 wn_6 t H locs ht hvm hp_6 hB hz hfr hS => ?_)
    have hP : va_P D vwCl (RM cI ad wn_6) H := ht ▸ hB
    obtain ⟨hp_6, hI_6⟩ := hp_6
    have E := bnd_e E hp_6
    exact W.iret (v := rn_6) hx hb hr (fun t ht hW => ⟨⟨_, wn_6, rfl, ⟨E.symm, hI_6⟩, by show va_P _ _ _ t.heap; rw [ht]; exact hP⟩, hS.F ht⟩) hS.2.2 dX7_off_13
abbrev rmX7_out : Room := { frames := 1, cells := 0, slots := 0, locals := 22 }
set_option maxHeartbeats 4000000 in
set_option maxRecDepth 100000 in
theorem kX7_out (l : Launch) (D : va_G) (cI : ClassId) (ad : Nat → Nat) (w : Nat → Nat → Int32) (a1 : Int32) (a2 : Int32) (hd : RD ad) (hI : R7I w)  : Met l yX7_out wsX7_out rmX7_out (va_Pc [Value.ref (ad 0), Value.int a1, Value.int a2] (fun U => va_P D vwCl (RM cI ad w) U.heap ∧ va_K D vwCl [(cI, .int)] U)) (va_Qi (fun r u => (r, u) = sX7_out w a1 a2 ∧ R7I u) (fun u t => va_P D vwCl (RM cI ad u) t.heap) (RA ad)) 0 0 (RA ad) := by
  refine Met.ofW (cc := cX7_out) (maxL := 5) (ret := (some .int)) (by decide) rfl ?_
  intro p e s m args below meth c s₁ B hml hv
  obtain ⟨rfl, hP, hK⟩ := hv
  have hx := B.exec
  have hb := B.bytes
  have hr := B.returns
  have hts := atoms_spec (ws := wsX7_out) B.pre
  have hown : s.vm.findClass RX7 = some m.cls := findClass_of_methodNamed B.named
  have hlocks := B.notSynchronized
  have hin : ∀ q ∈ wsX70, q ∈ wsX7_out := by decide +kernel
  have hl := lv_entry ([.ref (ad 0), .int a1, .int a2]) (n := 5) (Nat.le_of_ble_eq_true rfl)
  rw [lg_entry_eq]
  generalize (lg_sl ([.ref (ad 0), .int a1, .int a2]) ++ List.replicate (5 - (lg_sl ([.ref (ad 0), .int a1, .int a2])).length) Slot.unset).toArray = ls at hl ⊢
  have hl : lv_has ls 5 [(0, .ref (ad 0)), (1, .int a1), (2, .int a2)] := hl
  suffices hgo : ∀ (H : Heap) (locs : List Loc), va_P D vwCl (RM cI ad w) H → va_S (RA ad) s.heap H locs → W p l e (headSpec wsX7_out rmX7_out).room s m [Value.ref (ad 0), Value.int a1, Value.int a2].toArray below meth c H locs 0 0 (MQ below (va_Qi (fun r u => (r, u) = sX7_out w a1 a2 ∧ R7I u) (fun u t => va_P D vwCl (RM cI ad u) t.heap) (RA ad)) [Value.ref (ad 0), Value.int a1, Value.int a2].toArray s 0 0 (RA ad)) (F0 m 0 ls []) from hgo s.heap [] hP va_S.rf
  intro H locs hP hS
  have E := sX7_out.eq_1 w a1 a2
  refine lv_aload_n hx hb dX7_out_0 rfl (lv_at hl 0 rfl) ?_
  refine lv_iload_n hx hb dX7_out_1 rfl (lv_at hl 1 rfl) ?_
  refine vp_callSi (va_Run.run (va_runV (As := [.int a1]) (rest := []) ⟨hx, hb, hml, hown, hts⟩ (kX7_isLayer l D cI ad w a1) (cwV 1 hts gX7_out_X7_isLayer rfl rfl rfl mdX7_isLayer ⟨Nat.le_of_ble_eq_true rfl, Nat.le_of_ble_eq_true rfl⟩) (r7_pre hK hP) rfl rfl hl.1 rfl (lv_room (Nat.le_of_ble_eq_true rfl)) dX7_out_2 ⟨Nat.zero_le _, Nat.zero_le _⟩)) (fun r_1 hr_1 => ?_)
  obtain ⟨rfl, hz_1⟩ := hr_1
  refine lv_if_ne (tgt := 12) hx hb dX7_out_5 (by decide) (fun c_2 => ?_) (fun c_2 => ?_)
  · have E := E.trans (if_neg c_2)
    have fc_2 := i_ne c_2
    rw [q_0] at fc_2
    have gc_2 := fX7_isLayer c_2
    have glc_2 := R7I_layers hI
    refine lv_iload_n hx hb dX7_out_12 rfl (lv_at hl 2 rfl) ?_
    refine lv_iconst (v := 0) hx hb dX7_out_13 (by decide) ?_
    refine lv_bipush (v := 9) hx hb dX7_out_14 (by decide +kernel) ?_
    refine vp_callSi (va_Run.run (va_runS (As := [.int a2, .int 0, .int 9]) (rest := []) ⟨hx, hb, hml, hown, hts⟩ (kX7_bound l a2 0 9) (va_cwS 3 hts gX7_out_X7_bound rfl rfl rfl mdX7_bound ⟨Nat.le_of_ble_eq_true rfl, Nat.le_of_ble_eq_true rfl⟩) s_pre rfl rfl hl.1 rfl (lv_room (Nat.le_of_ble_eq_true rfl)) dX7_out_16 ⟨Nat.zero_le _, Nat.zero_le _⟩)) (fun r_3 hr_3 => ?_)
    subst hr_3
    have rf_3 := rX7_bound a2 0 9
    have := q_0
    have := q_9
    refine lv_istore_n (lv' := [(3, .int (sX7_bound a2 0 9)), (0, .ref (ad 0)), (1, .int a1), (2, .int a2)]) hx hb dX7_out_19 rfl hl (by decide) rfl (fun ls hl => ?_)
    refine lv_iload_n hx hb dX7_out_20 rfl (lv_at hl 0 rfl) ?_
    refine lv_if_eq (tgt := 30) hx hb dX7_out_21 (by decide) (fun c_4 => ?_) (fun c_4 => ?_)
    · have E := E.trans (if_pos c_4)
      have fc_4 := i_eq c_4
      rw [q_0] at fc_4
      refine lv_aload_n hx hb dX7_out_30 rfl (lv_at hl 1 rfl) ?_
      refine g7_out hx hb hts hin hown hK hP (hts (.fieldLink RX7 22 "LoadedForTheLaneModel" "out" "[I") (by decide +kernel)) dX7_out_31 ?_
      refine lv_iload_n hx hb dX7_out_34 rfl (lv_at hl 2 rfl) ?_
      have ix_5 : vp_in a1 12 := ix_of (by omega) (by omega)
      refine l7_out (j := a1.toNatClampNeg) hx hb hK hP ix_5 rfl dX7_out_35 ?_
      refine lv_istore (lv' := [(4, .int (w 4 (a1.toNatClampNeg))), (3, .int (sX7_bound a2 0 9)), (0, .ref (ad 0)), (1, .int a1), (2, .int a2)]) hx hb dX7_out_36 hl (by decide) rfl (fun ls hl => ?_)
      refine lv_aload_n hx hb dX7_out_38 rfl (lv_at hl 2 rfl) ?_
      refine g7_out hx hb hts hin hown hK hP (hts (.fieldLink RX7 22 "LoadedForTheLaneModel" "out" "[I") (by decide +kernel)) dX7_out_39 ?_
      refine lv_iload_n hx hb dX7_out_42 rfl (lv_at hl 3 rfl) ?_
      refine lv_iload_n hx hb dX7_out_43 rfl (lv_at hl 4 rfl) ?_
      have ix_6 : vp_in a1 12 := ix_of (by omega) (by omega)
      refine a7_out (j := a1.toNatClampNeg) hx hb hK hP hd hS ix_6 rfl dX7_out_44 (fun H locs hP hS => ?_)
      obtain ⟨wn_6, hwn_6⟩ : ∃ x, x = st w 4 (a1.toNatClampNeg) a2 := ⟨_, rfl⟩
      rw [← hwn_6] at hP
      have E := bns_e E hwn_6
      have hI_6 : R7I wn_6 := by rw [hwn_6]; exact R7I_put_out hI
      refine lv_iload hx hb dX7_out_45 (lv_at hl 0 rfl) ?_
      exact W.iret (v := w 4 (a1.toNatClampNeg)) hx hb hr (fun t ht hW => ⟨⟨_, wn_6, rfl, ⟨E.symm, hI_6⟩, by show va_P _ _ _ t.heap; rw [ht]; exact hP⟩, hS.F ht⟩) hS.2.2 dX7_out_47
    · have E := E.trans (if_neg c_4)
      have fc_4 := i_ne c_4
      rw [q_0] at fc_4
      refine lv_aload_n hx hb dX7_out_24 rfl (lv_at hl 1 rfl) ?_
      refine lv_iload_n hx hb dX7_out_25 rfl (lv_at hl 0 rfl) ?_
      refine va_calli (va_runV (As := [.int (sX7_bound a2 0 9)]) (rest := []) ⟨hx, hb, hml, hown, hts⟩ (kX7_no l D cI ad w (sX7_bound a2 0 9) hd hI (by omega) (by omega)) (cwV 1 hts gX7_out_X7_no rfl rfl rfl mdX7_no ⟨Nat.le_of_ble_eq_true rfl, Nat.le_of_ble_eq_true rfl⟩) (r7_pre hK hP) rfl rfl hl.1 rfl (lv_room (Nat.le_of_ble_eq_true rfl)) dX7_out_26 ⟨Nat.zero_le _, Nat.zero_le _⟩) hS (fun _ _ h => h) (fun _ h => h) (fun rn_7 wn_7 t H locs ht hvm hp_7 hB hz hfr hS => ?_)
      have hP : va_P D vwCl (RM cI ad wn_7) H := ht ▸ hB
      obtain ⟨hp_7, hI_7⟩ := hp_7
      have E := bnd_e E hp_7
      exact W.iret (v := rn_7) hx hb hr (fun t ht hW => ⟨⟨_, wn_7, rfl, ⟨E.symm, hI_7⟩, by show va_P _ _ _ t.heap; rw [ht]; exact hP⟩, hS.F ht⟩) hS.2.2 dX7_out_29
  · have E := E.trans (if_pos c_2)
    have fc_2 := i_eq c_2
    rw [q_0] at fc_2
    refine lv_iconst (v := (-1)) hx hb dX7_out_8 (by decide) ?_
    refine lv_goto (tgt := 19) hx hb dX7_out_9 (by decide) ?_
    refine lv_istore_n (lv' := [(3, .int (-1)), (0, .ref (ad 0)), (1, .int a1), (2, .int a2)]) hx hb dX7_out_19 rfl hl (by decide) rfl (fun ls hl => ?_)
    refine lv_iload_n hx hb dX7_out_20 rfl (lv_at hl 0 rfl) ?_
    refine lv_if_eq (tgt := 30) hx hb dX7_out_21 (by decide) (fun z => absurd z (by decide)) (fun _ => ?_)
    refine lv_aload_n hx hb dX7_out_24 rfl (lv_at hl 1 rfl) ?_
    refine lv_iload_n hx hb dX7_out_25 rfl (lv_at hl 0 rfl) ?_
    have := q_m1
    refine va_calli (va_runV (As := [.int (-1)]) (rest := []) ⟨hx, hb, hml, hown, hts⟩ (kX7_no l D cI ad w (-1) hd hI (by omega) (by omega)) (cwV 1 hts gX7_out_X7_no rfl rfl rfl mdX7_no ⟨Nat.le_of_ble_eq_true rfl, Nat.le_of_ble_eq_true rfl⟩) (r7_pre hK hP) rfl rfl hl.1 rfl (lv_room (Nat.le_of_ble_eq_true rfl)) dX7_out_26 ⟨Nat.zero_le _, Nat.zero_le _⟩) hS (fun _ _ h => h) (fun _ h => h) (fun rn_8 wn_8 t H locs ht hvm hp_8 hB hz hfr hS => ?_)
    have hP : va_P D vwCl (RM cI ad wn_8) H := ht ▸ hB
    obtain ⟨hp_8, hI_8⟩ := hp_8
    have E := bnd_e E hp_8
    exact W.iret (v := rn_8) hx hb hr (fun t ht hW => ⟨⟨_, wn_8, rfl, ⟨E.symm, hI_8⟩, by show va_P _ _ _ t.heap; rw [ht]; exact hP⟩, hS.F ht⟩) hS.2.2 dX7_out_29
abbrev rmX7_set : Room := { frames := 1, cells := 0, slots := 0, locals := 22 }
set_option maxHeartbeats 4000000 in
set_option maxRecDepth 100000 in
theorem kX7_set (l : Launch) (D : va_G) (cI : ClassId) (ad : Nat → Nat) (w : Nat → Nat → Int32) (a1 : Int32) (a2 : Int32) (hd : RD ad) (hI : R7I w)  : Met l yX7_set wsX7_set rmX7_set (va_Pc [Value.ref (ad 0), Value.int a1, Value.int a2] (fun U => va_P D vwCl (RM cI ad w) U.heap ∧ va_K D vwCl [(cI, .int)] U)) (va_Qi (fun r u => (r, u) = sX7_set w a1 a2 ∧ R7I u) (fun u t => va_P D vwCl (RM cI ad u) t.heap) (RA ad)) 0 0 (RA ad) := by
  refine Met.ofW (cc := cX7_set) (maxL := 5) (ret := (some .int)) (by decide) rfl ?_
  intro p e s m args below meth c s₁ B hml hv
  obtain ⟨rfl, hP, hK⟩ := hv
  have hx := B.exec
  have hb := B.bytes
  have hr := B.returns
  have hts := atoms_spec (ws := wsX7_set) B.pre
  have hown : s.vm.findClass RX7 = some m.cls := findClass_of_methodNamed B.named
  have hlocks := B.notSynchronized
  have hin : ∀ q ∈ wsX70, q ∈ wsX7_set := by decide +kernel
  have hl := lv_entry ([.ref (ad 0), .int a1, .int a2]) (n := 5) (Nat.le_of_ble_eq_true rfl)
  rw [lg_entry_eq]
  generalize (lg_sl ([.ref (ad 0), .int a1, .int a2]) ++ List.replicate (5 - (lg_sl ([.ref (ad 0), .int a1, .int a2])).length) Slot.unset).toArray = ls at hl ⊢
  have hl : lv_has ls 5 [(0, .ref (ad 0)), (1, .int a1), (2, .int a2)] := hl
  suffices hgo : ∀ (H : Heap) (locs : List Loc), va_P D vwCl (RM cI ad w) H → va_S (RA ad) s.heap H locs → W p l e (headSpec wsX7_set rmX7_set).room s m [Value.ref (ad 0), Value.int a1, Value.int a2].toArray below meth c H locs 0 0 (MQ below (va_Qi (fun r u => (r, u) = sX7_set w a1 a2 ∧ R7I u) (fun u t => va_P D vwCl (RM cI ad u) t.heap) (RA ad)) [Value.ref (ad 0), Value.int a1, Value.int a2].toArray s 0 0 (RA ad)) (F0 m 0 ls []) from hgo s.heap [] hP va_S.rf
  intro H locs hP hS
  have E := sX7_set.eq_1 w a1 a2
  refine lv_iload_n hx hb dX7_set_0 rfl (lv_at hl 1 rfl) ?_
  refine lv_iconst (v := 0) hx hb dX7_set_1 (by decide) ?_
  refine lv_iconst (v := 3) hx hb dX7_set_2 (by decide) ?_
  refine vp_callSi (va_Run.run (va_runS (As := [.int a1, .int 0, .int 3]) (rest := []) ⟨hx, hb, hml, hown, hts⟩ (kX7_isIn l a1 0 3) (va_cwS 3 hts gX7_set_X7_isIn rfl rfl rfl mdX7_isIn ⟨Nat.le_of_ble_eq_true rfl, Nat.le_of_ble_eq_true rfl⟩) s_pre rfl rfl hl.1 rfl (lv_room (Nat.le_of_ble_eq_true rfl)) dX7_set_3 ⟨Nat.zero_le _, Nat.zero_le _⟩)) (fun r_1 hr_1 => ?_)
  obtain ⟨rfl, hz_1⟩ := hr_1
  refine lv_if_ne (tgt := 14) hx hb dX7_set_6 (by decide) (fun c_2 => ?_) (fun c_2 => ?_)
  · have E := E.trans (if_neg c_2)
    have fc_2 := i_ne c_2
    rw [q_0] at fc_2
    have gc_2 := fX7_isIn c_2
    have := q_0
    have := q_3
    refine lv_iload_n hx hb dX7_set_14 rfl (lv_at hl 2 rfl) ?_
    refine lv_iload_n hx hb dX7_set_15 rfl (lv_at hl 1 rfl) ?_
    refine lv_iconst (v := 1) hx hb dX7_set_16 (by decide) ?_
    refine lv_icmp_eq (tgt := 25) hx hb dX7_set_17 (by decide) (fun c_3 => ?_) (fun c_3 => ?_)
    · have E := E.trans (if_pos c_3)
      have fc_3 := i_eq c_3
      rw [q_1] at fc_3
      refine lv_iconst (v := 1) hx hb dX7_set_25 (by decide) ?_
      refine lv_goto (tgt := 30) hx hb dX7_set_26 (by decide) ?_
      refine lv_iload_n hx hb dX7_set_30 rfl (lv_at hl 1 rfl) ?_
      refine vp_callSi (va_Run.run (va_runS (As := [.int a1]) (rest := [.int 1, .int a2]) ⟨hx, hb, hml, hown, hts⟩ (kX7_mostOf l a1) (va_cwS 1 hts gX7_set_X7_mostOf rfl rfl rfl mdX7_mostOf ⟨Nat.le_of_ble_eq_true rfl, Nat.le_of_ble_eq_true rfl⟩) s_pre rfl rfl hl.1 rfl (lv_room (Nat.le_of_ble_eq_true rfl)) dX7_set_31 ⟨Nat.zero_le _, Nat.zero_le _⟩)) (fun r_4 hr_4 => ?_)
      subst hr_4
      refine vp_callSi (va_Run.run (va_runS (As := [.int a2, .int 1, .int (sX7_mostOf a1)]) (rest := []) ⟨hx, hb, hml, hown, hts⟩ (kX7_bound l a2 1 (sX7_mostOf a1)) (va_cwS 3 hts gX7_set_X7_bound rfl rfl rfl mdX7_bound ⟨Nat.le_of_ble_eq_true rfl, Nat.le_of_ble_eq_true rfl⟩) s_pre rfl rfl hl.1 rfl (lv_room (Nat.le_of_ble_eq_true rfl)) dX7_set_34 ⟨Nat.zero_le _, Nat.zero_le _⟩)) (fun r_5 hr_5 => ?_)
      subst hr_5
      have rf_5 := rX7_bound a2 1 (sX7_mostOf a1)
      have := q_1
      refine lv_istore_n (lv' := [(3, .int (sX7_bound a2 1 (sX7_mostOf a1))), (0, .ref (ad 0)), (1, .int a1), (2, .int a2)]) hx hb dX7_set_37 rfl hl (by decide) rfl (fun ls hl => ?_)
      refine lv_iload_n hx hb dX7_set_38 rfl (lv_at hl 0 rfl) ?_
      refine lv_if_eq (tgt := 48) hx hb dX7_set_39 (by decide) (fun c_6 => ?_) (fun c_6 => ?_)
      · have E := E.trans (if_pos c_6)
        have fc_6 := i_eq c_6
        rw [q_0] at fc_6
        refine lv_aload_n hx hb dX7_set_48 rfl (lv_at hl 1 rfl) ?_
        refine g7_setting hx hb hts hin hown hK hP (hts (.fieldLink RX7 13 "LoadedForTheLaneModel" "setting" "[I") (by decide +kernel)) dX7_set_49 ?_
        refine lv_iload_n hx hb dX7_set_52 rfl (lv_at hl 2 rfl) ?_
        have ix_7 : vp_in a1 4 := ix_of (by omega) (by omega)
        refine l7_setting (j := a1.toNatClampNeg) hx hb hK hP ix_7 rfl dX7_set_53 ?_
        refine lv_istore (lv' := [(4, .int (w 1 (a1.toNatClampNeg))), (3, .int (sX7_bound a2 1 (sX7_mostOf a1))), (0, .ref (ad 0)), (1, .int a1), (2, .int a2)]) hx hb dX7_set_54 hl (by decide) rfl (fun ls hl => ?_)
        refine lv_aload_n hx hb dX7_set_56 rfl (lv_at hl 2 rfl) ?_
        refine g7_setting hx hb hts hin hown hK hP (hts (.fieldLink RX7 13 "LoadedForTheLaneModel" "setting" "[I") (by decide +kernel)) dX7_set_57 ?_
        refine lv_iload_n hx hb dX7_set_60 rfl (lv_at hl 3 rfl) ?_
        refine lv_iload_n hx hb dX7_set_61 rfl (lv_at hl 4 rfl) ?_
        have ix_8 : vp_in a1 4 := ix_of (by omega) (by omega)
        refine a7_setting (j := a1.toNatClampNeg) hx hb hK hP hd hS ix_8 rfl dX7_set_62 (fun H locs hP hS => ?_)
        obtain ⟨wn_8, hwn_8⟩ : ∃ x, x = st w 1 (a1.toNatClampNeg) a2 := ⟨_, rfl⟩
        rw [← hwn_8] at hP
        have E := bns_e E hwn_8
        have hI_8 : R7I wn_8 := by rw [hwn_8]; exact R7I_put_setting hI
        refine lv_iload hx hb dX7_set_63 (lv_at hl 0 rfl) ?_
        exact W.iret (v := w 1 (a1.toNatClampNeg)) hx hb hr (fun t ht hW => ⟨⟨_, wn_8, rfl, ⟨E.symm, hI_8⟩, by show va_P _ _ _ t.heap; rw [ht]; exact hP⟩, hS.F ht⟩) hS.2.2 dX7_set_65
      · have E := E.trans (if_neg c_6)
        have fc_6 := i_ne c_6
        rw [q_0] at fc_6
        refine lv_aload_n hx hb dX7_set_42 rfl (lv_at hl 1 rfl) ?_
        refine lv_iload_n hx hb dX7_set_43 rfl (lv_at hl 0 rfl) ?_
        refine va_calli (va_runV (As := [.int (sX7_bound a2 1 (sX7_mostOf a1))]) (rest := []) ⟨hx, hb, hml, hown, hts⟩ (kX7_no l D cI ad w (sX7_bound a2 1 (sX7_mostOf a1)) hd hI (by omega) (by omega)) (cwV 1 hts gX7_set_X7_no rfl rfl rfl mdX7_no ⟨Nat.le_of_ble_eq_true rfl, Nat.le_of_ble_eq_true rfl⟩) (r7_pre hK hP) rfl rfl hl.1 rfl (lv_room (Nat.le_of_ble_eq_true rfl)) dX7_set_44 ⟨Nat.zero_le _, Nat.zero_le _⟩) hS (fun _ _ h => h) (fun _ h => h) (fun rn_9 wn_9 t H locs ht hvm hp_9 hB hz hfr hS => ?_)
        have hP : va_P D vwCl (RM cI ad wn_9) H := ht ▸ hB
        obtain ⟨hp_9, hI_9⟩ := hp_9
        have E := bnd_e E hp_9
        exact W.iret (v := rn_9) hx hb hr (fun t ht hW => ⟨⟨_, wn_9, rfl, ⟨E.symm, hI_9⟩, by show va_P _ _ _ t.heap; rw [ht]; exact hP⟩, hS.F ht⟩) hS.2.2 dX7_set_47
    · have E := E.trans (if_neg c_3)
      have fc_3 := i_ne c_3
      rw [q_1] at fc_3
      refine lv_iload_n hx hb dX7_set_20 rfl (lv_at hl 1 rfl) ?_
      refine lv_iconst (v := 2) hx hb dX7_set_21 (by decide) ?_
      refine lv_icmp_ne (tgt := 29) hx hb dX7_set_22 (by decide) (fun c_10 => ?_) (fun c_10 => ?_)
      · have E := E.trans (if_neg c_10)
        have fc_10 := i_ne c_10
        rw [q_2] at fc_10
        refine lv_iconst (v := 0) hx hb dX7_set_29 (by decide) ?_
        refine lv_iload_n hx hb dX7_set_30 rfl (lv_at hl 1 rfl) ?_
        refine vp_callSi (va_Run.run (va_runS (As := [.int a1]) (rest := [.int 0, .int a2]) ⟨hx, hb, hml, hown, hts⟩ (kX7_mostOf l a1) (va_cwS 1 hts gX7_set_X7_mostOf rfl rfl rfl mdX7_mostOf ⟨Nat.le_of_ble_eq_true rfl, Nat.le_of_ble_eq_true rfl⟩) s_pre rfl rfl hl.1 rfl (lv_room (Nat.le_of_ble_eq_true rfl)) dX7_set_31 ⟨Nat.zero_le _, Nat.zero_le _⟩)) (fun r_11 hr_11 => ?_)
        subst hr_11
        refine vp_callSi (va_Run.run (va_runS (As := [.int a2, .int 0, .int (sX7_mostOf a1)]) (rest := []) ⟨hx, hb, hml, hown, hts⟩ (kX7_bound l a2 0 (sX7_mostOf a1)) (va_cwS 3 hts gX7_set_X7_bound rfl rfl rfl mdX7_bound ⟨Nat.le_of_ble_eq_true rfl, Nat.le_of_ble_eq_true rfl⟩) s_pre rfl rfl hl.1 rfl (lv_room (Nat.le_of_ble_eq_true rfl)) dX7_set_34 ⟨Nat.zero_le _, Nat.zero_le _⟩)) (fun r_12 hr_12 => ?_)
        subst hr_12
        have rf_12 := rX7_bound a2 0 (sX7_mostOf a1)
        have := q_0
        refine lv_istore_n (lv' := [(3, .int (sX7_bound a2 0 (sX7_mostOf a1))), (0, .ref (ad 0)), (1, .int a1), (2, .int a2)]) hx hb dX7_set_37 rfl hl (by decide) rfl (fun ls hl => ?_)
        refine lv_iload_n hx hb dX7_set_38 rfl (lv_at hl 0 rfl) ?_
        refine lv_if_eq (tgt := 48) hx hb dX7_set_39 (by decide) (fun c_13 => ?_) (fun c_13 => ?_)
        · have E := E.trans (if_pos c_13)
          have fc_13 := i_eq c_13
          rw [q_0] at fc_13
          refine lv_aload_n hx hb dX7_set_48 rfl (lv_at hl 1 rfl) ?_
          refine g7_setting hx hb hts hin hown hK hP (hts (.fieldLink RX7 13 "LoadedForTheLaneModel" "setting" "[I") (by decide +kernel)) dX7_set_49 ?_
          refine lv_iload_n hx hb dX7_set_52 rfl (lv_at hl 2 rfl) ?_
          have ix_14 : vp_in a1 4 := ix_of (by omega) (by omega)
          refine l7_setting (j := a1.toNatClampNeg) hx hb hK hP ix_14 rfl dX7_set_53 ?_
          refine lv_istore (lv' := [(4, .int (w 1 (a1.toNatClampNeg))), (3, .int (sX7_bound a2 0 (sX7_mostOf a1))), (0, .ref (ad 0)), (1, .int a1), (2, .int a2)]) hx hb dX7_set_54 hl (by decide) rfl (fun ls hl => ?_)
          refine lv_aload_n hx hb dX7_set_56 rfl (lv_at hl 2 rfl) ?_
          refine g7_setting hx hb hts hin hown hK hP (hts (.fieldLink RX7 13 "LoadedForTheLaneModel" "setting" "[I") (by decide +kernel)) dX7_set_57 ?_
          refine lv_iload_n hx hb dX7_set_60 rfl (lv_at hl 3 rfl) ?_
          refine lv_iload_n hx hb dX7_set_61 rfl (lv_at hl 4 rfl) ?_
          have ix_15 : vp_in a1 4 := ix_of (by omega) (by omega)
          refine a7_setting (j := a1.toNatClampNeg) hx hb hK hP hd hS ix_15 rfl dX7_set_62 (fun H locs hP hS => ?_)
          obtain ⟨wn_15, hwn_15⟩ : ∃ x, x = st w 1 (a1.toNatClampNeg) a2 := ⟨_, rfl⟩
          rw [← hwn_15] at hP
          have E := bns_e E hwn_15
          have hI_15 : R7I wn_15 := by rw [hwn_15]; exact R7I_put_setting hI
          refine lv_iload hx hb dX7_set_63 (lv_at hl 0 rfl) ?_
          exact W.iret (v := w 1 (a1.toNatClampNeg)) hx hb hr (fun t ht hW => ⟨⟨_, wn_15, rfl, ⟨E.symm, hI_15⟩, by show va_P _ _ _ t.heap; rw [ht]; exact hP⟩, hS.F ht⟩) hS.2.2 dX7_set_65
        · have E := E.trans (if_neg c_13)
          have fc_13 := i_ne c_13
          rw [q_0] at fc_13
          refine lv_aload_n hx hb dX7_set_42 rfl (lv_at hl 1 rfl) ?_
          refine lv_iload_n hx hb dX7_set_43 rfl (lv_at hl 0 rfl) ?_
          refine va_calli (va_runV (As := [.int (sX7_bound a2 0 (sX7_mostOf a1))]) (rest := []) ⟨hx, hb, hml, hown, hts⟩ (kX7_no l D cI ad w (sX7_bound a2 0 (sX7_mostOf a1)) hd hI (by omega) (by omega)) (cwV 1 hts gX7_set_X7_no rfl rfl rfl mdX7_no ⟨Nat.le_of_ble_eq_true rfl, Nat.le_of_ble_eq_true rfl⟩) (r7_pre hK hP) rfl rfl hl.1 rfl (lv_room (Nat.le_of_ble_eq_true rfl)) dX7_set_44 ⟨Nat.zero_le _, Nat.zero_le _⟩) hS (fun _ _ h => h) (fun _ h => h) (fun rn_16 wn_16 t H locs ht hvm hp_16 hB hz hfr hS => ?_)
          have hP : va_P D vwCl (RM cI ad wn_16) H := ht ▸ hB
          obtain ⟨hp_16, hI_16⟩ := hp_16
          have E := bnd_e E hp_16
          exact W.iret (v := rn_16) hx hb hr (fun t ht hW => ⟨⟨_, wn_16, rfl, ⟨E.symm, hI_16⟩, by show va_P _ _ _ t.heap; rw [ht]; exact hP⟩, hS.F ht⟩) hS.2.2 dX7_set_47
      · have E := E.trans (if_pos c_10)
        have fc_10 := i_eq c_10
        rw [q_2] at fc_10
        refine lv_iconst (v := 1) hx hb dX7_set_25 (by decide) ?_
        refine lv_goto (tgt := 30) hx hb dX7_set_26 (by decide) ?_
        refine lv_iload_n hx hb dX7_set_30 rfl (lv_at hl 1 rfl) ?_
        refine vp_callSi (va_Run.run (va_runS (As := [.int a1]) (rest := [.int 1, .int a2]) ⟨hx, hb, hml, hown, hts⟩ (kX7_mostOf l a1) (va_cwS 1 hts gX7_set_X7_mostOf rfl rfl rfl mdX7_mostOf ⟨Nat.le_of_ble_eq_true rfl, Nat.le_of_ble_eq_true rfl⟩) s_pre rfl rfl hl.1 rfl (lv_room (Nat.le_of_ble_eq_true rfl)) dX7_set_31 ⟨Nat.zero_le _, Nat.zero_le _⟩)) (fun r_17 hr_17 => ?_)
        subst hr_17
        refine vp_callSi (va_Run.run (va_runS (As := [.int a2, .int 1, .int (sX7_mostOf a1)]) (rest := []) ⟨hx, hb, hml, hown, hts⟩ (kX7_bound l a2 1 (sX7_mostOf a1)) (va_cwS 3 hts gX7_set_X7_bound rfl rfl rfl mdX7_bound ⟨Nat.le_of_ble_eq_true rfl, Nat.le_of_ble_eq_true rfl⟩) s_pre rfl rfl hl.1 rfl (lv_room (Nat.le_of_ble_eq_true rfl)) dX7_set_34 ⟨Nat.zero_le _, Nat.zero_le _⟩)) (fun r_18 hr_18 => ?_)
        subst hr_18
        have rf_18 := rX7_bound a2 1 (sX7_mostOf a1)
        have := q_1
        refine lv_istore_n (lv' := [(3, .int (sX7_bound a2 1 (sX7_mostOf a1))), (0, .ref (ad 0)), (1, .int a1), (2, .int a2)]) hx hb dX7_set_37 rfl hl (by decide) rfl (fun ls hl => ?_)
        refine lv_iload_n hx hb dX7_set_38 rfl (lv_at hl 0 rfl) ?_
        refine lv_if_eq (tgt := 48) hx hb dX7_set_39 (by decide) (fun c_19 => ?_) (fun c_19 => ?_)
        · have E := E.trans (if_pos c_19)
          have fc_19 := i_eq c_19
          rw [q_0] at fc_19
          refine lv_aload_n hx hb dX7_set_48 rfl (lv_at hl 1 rfl) ?_
          refine g7_setting hx hb hts hin hown hK hP (hts (.fieldLink RX7 13 "LoadedForTheLaneModel" "setting" "[I") (by decide +kernel)) dX7_set_49 ?_
          refine lv_iload_n hx hb dX7_set_52 rfl (lv_at hl 2 rfl) ?_
          have ix_20 : vp_in a1 4 := ix_of (by omega) (by omega)
          refine l7_setting (j := a1.toNatClampNeg) hx hb hK hP ix_20 rfl dX7_set_53 ?_
          refine lv_istore (lv' := [(4, .int (w 1 (a1.toNatClampNeg))), (3, .int (sX7_bound a2 1 (sX7_mostOf a1))), (0, .ref (ad 0)), (1, .int a1), (2, .int a2)]) hx hb dX7_set_54 hl (by decide) rfl (fun ls hl => ?_)
          refine lv_aload_n hx hb dX7_set_56 rfl (lv_at hl 2 rfl) ?_
          refine g7_setting hx hb hts hin hown hK hP (hts (.fieldLink RX7 13 "LoadedForTheLaneModel" "setting" "[I") (by decide +kernel)) dX7_set_57 ?_
          refine lv_iload_n hx hb dX7_set_60 rfl (lv_at hl 3 rfl) ?_
          refine lv_iload_n hx hb dX7_set_61 rfl (lv_at hl 4 rfl) ?_
          have ix_21 : vp_in a1 4 := ix_of (by omega) (by omega)
          refine a7_setting (j := a1.toNatClampNeg) hx hb hK hP hd hS ix_21 rfl dX7_set_62 (fun H locs hP hS => ?_)
          obtain ⟨wn_21, hwn_21⟩ : ∃ x, x = st w 1 (a1.toNatClampNeg) a2 := ⟨_, rfl⟩
          rw [← hwn_21] at hP
          have E := bns_e E hwn_21
          have hI_21 : R7I wn_21 := by rw [hwn_21]; exact R7I_put_setting hI
          refine lv_iload hx hb dX7_set_63 (lv_at hl 0 rfl) ?_
          exact W.iret (v := w 1 (a1.toNatClampNeg)) hx hb hr (fun t ht hW => ⟨⟨_, wn_21, rfl, ⟨E.symm, hI_21⟩, by show va_P _ _ _ t.heap; rw [ht]; exact hP⟩, hS.F ht⟩) hS.2.2 dX7_set_65
        · have E := E.trans (if_neg c_19)
          have fc_19 := i_ne c_19
          rw [q_0] at fc_19
          refine lv_aload_n hx hb dX7_set_42 rfl (lv_at hl 1 rfl) ?_
          refine lv_iload_n hx hb dX7_set_43 rfl (lv_at hl 0 rfl) ?_
          refine va_calli (va_runV (As := [.int (sX7_bound a2 1 (sX7_mostOf a1))]) (rest := []) ⟨hx, hb, hml, hown, hts⟩ (kX7_no l D cI ad w (sX7_bound a2 1 (sX7_mostOf a1)) hd hI (by omega) (by omega)) (cwV 1 hts gX7_set_X7_no rfl rfl rfl mdX7_no ⟨Nat.le_of_ble_eq_true rfl, Nat.le_of_ble_eq_true rfl⟩) (r7_pre hK hP) rfl rfl hl.1 rfl (lv_room (Nat.le_of_ble_eq_true rfl)) dX7_set_44 ⟨Nat.zero_le _, Nat.zero_le _⟩) hS (fun _ _ h => h) (fun _ h => h) (fun rn_22 wn_22 t H locs ht hvm hp_22 hB hz hfr hS => ?_)
          have hP : va_P D vwCl (RM cI ad wn_22) H := ht ▸ hB
          obtain ⟨hp_22, hI_22⟩ := hp_22
          have E := bnd_e E hp_22
          exact W.iret (v := rn_22) hx hb hr (fun t ht hW => ⟨⟨_, wn_22, rfl, ⟨E.symm, hI_22⟩, by show va_P _ _ _ t.heap; rw [ht]; exact hP⟩, hS.F ht⟩) hS.2.2 dX7_set_47
  · have E := E.trans (if_pos c_2)
    have fc_2 := i_eq c_2
    rw [q_0] at fc_2
    refine lv_bipush (v := (-2)) hx hb dX7_set_9 (by decide +kernel) ?_
    refine lv_goto (tgt := 37) hx hb dX7_set_11 (by decide) ?_
    refine lv_istore_n (lv' := [(3, .int (-2)), (0, .ref (ad 0)), (1, .int a1), (2, .int a2)]) hx hb dX7_set_37 rfl hl (by decide) rfl (fun ls hl => ?_)
    refine lv_iload_n hx hb dX7_set_38 rfl (lv_at hl 0 rfl) ?_
    refine lv_if_eq (tgt := 48) hx hb dX7_set_39 (by decide) (fun z => absurd z (by decide)) (fun _ => ?_)
    refine lv_aload_n hx hb dX7_set_42 rfl (lv_at hl 1 rfl) ?_
    refine lv_iload_n hx hb dX7_set_43 rfl (lv_at hl 0 rfl) ?_
    have := q_m2
    refine va_calli (va_runV (As := [.int (-2)]) (rest := []) ⟨hx, hb, hml, hown, hts⟩ (kX7_no l D cI ad w (-2) hd hI (by omega) (by omega)) (cwV 1 hts gX7_set_X7_no rfl rfl rfl mdX7_no ⟨Nat.le_of_ble_eq_true rfl, Nat.le_of_ble_eq_true rfl⟩) (r7_pre hK hP) rfl rfl hl.1 rfl (lv_room (Nat.le_of_ble_eq_true rfl)) dX7_set_44 ⟨Nat.zero_le _, Nat.zero_le _⟩) hS (fun _ _ h => h) (fun _ h => h) (fun rn_23 wn_23 t H locs ht hvm hp_23 hB hz hfr hS => ?_)
    have hP : va_P D vwCl (RM cI ad wn_23) H := ht ▸ hB
    obtain ⟨hp_23, hI_23⟩ := hp_23
    have E := bnd_e E hp_23
    exact W.iret (v := rn_23) hx hb hr (fun t ht hW => ⟨⟨_, wn_23, rfl, ⟨E.symm, hI_23⟩, by show va_P _ _ _ t.heap; rw [ht]; exact hP⟩, hS.F ht⟩) hS.2.2 dX7_set_47
abbrev rmX7_layer : Room := { frames := 3, cells := 0, slots := 0, locals := 63 }
set_option maxHeartbeats 4000000 in
set_option maxRecDepth 100000 in
theorem kX7_layer (l : Launch) (D : va_G) (cI : ClassId) (ad : Nat → Nat) (w : Nat → Nat → Int32) (a1 : Int32) (a2 : Int32) (hd : RD ad) (hI : R7I w)  : Met l yX7_layer wsX7_layer rmX7_layer (va_Pc [Value.ref (ad 0), Value.int a1, Value.int a2] (fun U => va_P D vwCl (RM cI ad w) U.heap ∧ va_K D vwCl [(cI, .int)] U)) (va_Qi (fun r u => (r, u) = sX7_layer w a1 a2) (fun u t => va_P D vwCl (RM cI ad u) t.heap) (RA ad)) 0 0 (RA ad) := by
  refine Met.ofW (cc := cX7_layer) (maxL := 3) (ret := (some .int)) (by decide) rfl ?_
  intro p e s m args below meth c s₁ B hml hv
  obtain ⟨rfl, hP, hK⟩ := hv
  have hx := B.exec
  have hb := B.bytes
  have hr := B.returns
  have hts := atoms_spec (ws := wsX7_layer) B.pre
  have hown : s.vm.findClass RX7 = some m.cls := findClass_of_methodNamed B.named
  have hlocks := B.notSynchronized
  have hin : ∀ q ∈ wsX70, q ∈ wsX7_layer := by decide +kernel
  have hl := lv_entry ([.ref (ad 0), .int a1, .int a2]) (n := 3) (Nat.le_of_ble_eq_true rfl)
  rw [lg_entry_eq]
  generalize (lg_sl ([.ref (ad 0), .int a1, .int a2]) ++ List.replicate (3 - (lg_sl ([.ref (ad 0), .int a1, .int a2])).length) Slot.unset).toArray = ls at hl ⊢
  have hl : lv_has ls 3 [(0, .ref (ad 0)), (1, .int a1), (2, .int a2)] := hl
  suffices hgo : ∀ (H : Heap) (locs : List Loc), va_P D vwCl (RM cI ad w) H → va_S (RA ad) s.heap H locs → W p l e (headSpec wsX7_layer rmX7_layer).room s m [Value.ref (ad 0), Value.int a1, Value.int a2].toArray below meth c H locs 0 0 (MQ below (va_Qi (fun r u => (r, u) = sX7_layer w a1 a2) (fun u t => va_P D vwCl (RM cI ad u) t.heap) (RA ad)) [Value.ref (ad 0), Value.int a1, Value.int a2].toArray s 0 0 (RA ad)) (F0 m 0 ls []) from hgo s.heap [] hP va_S.rf
  intro H locs hP hS
  have E := sX7_layer.eq_1 w a1 a2
  refine lv_aload_n hx hb dX7_layer_0 rfl (lv_at hl 0 rfl) ?_
  refine lv_iload_n hx hb dX7_layer_1 rfl (lv_at hl 1 rfl) ?_
  refine vp_callSi (va_Run.run (va_runV (As := [.int a1]) (rest := []) ⟨hx, hb, hml, hown, hts⟩ (kX7_isLayer l D cI ad w a1) (cwV 1 hts gX7_layer_X7_isLayer rfl rfl rfl mdX7_isLayer ⟨Nat.le_of_ble_eq_true rfl, Nat.le_of_ble_eq_true rfl⟩) (r7_pre hK hP) rfl rfl hl.1 rfl (lv_room (Nat.le_of_ble_eq_true rfl)) dX7_layer_2 ⟨Nat.zero_le _, Nat.zero_le _⟩)) (fun r_1 hr_1 => ?_)
  obtain ⟨rfl, hz_1⟩ := hr_1
  refine lv_if_ne (tgt := 14) hx hb dX7_layer_5 (by decide) (fun c_2 => ?_) (fun c_2 => ?_)
  · have E := E.trans (if_neg c_2)
    have fc_2 := i_ne c_2
    rw [q_0] at fc_2
    have gc_2 := fX7_isLayer c_2
    have glc_2 := R7I_layers hI
    refine lv_iload_n hx hb dX7_layer_14 rfl (lv_at hl 2 rfl) ?_
    by_cases c_4 : a2 = 0
    · have E := E.trans (if_pos c_4)
      refine lv_tableIn (off := 45) (tgt := 60) hx hb dX7_layer_15 (by rw [c_4]; decide) (by rw [c_4]; decide) (by rw [c_4]; rfl) (by decide) ?_
      have fc_4 := i_eq c_4
      rw [q_0] at fc_4
      refine lv_aload_n hx hb dX7_layer_60 rfl (lv_at hl 0 rfl) ?_
      refine g7_kind hx hb hts hin hown hK hP (hts (.fieldLink RX7 16 "LoadedForTheLaneModel" "kind" "[I") (by decide +kernel)) dX7_layer_61 ?_
      refine lv_iload_n hx hb dX7_layer_64 rfl (lv_at hl 1 rfl) ?_
      have ix_5 : vp_in a1 12 := ix_of (by omega) (by omega)
      refine l7_kind (j := a1.toNatClampNeg) hx hb hK hP ix_5 rfl dX7_layer_65 ?_
      exact W.iret (v := w 2 (a1.toNatClampNeg)) hx hb hr (fun t ht hW => ⟨⟨_, w, rfl, E.symm, by show va_P _ _ _ t.heap; rw [ht]; exact hP⟩, hS.F ht⟩) hS.2.2 dX7_layer_66
    have E := E.trans (if_neg c_4)
    have fc_4 := i_ne c_4
    rw [q_0] at fc_4
    by_cases c_6 : a2 = 1
    · have E := E.trans (if_pos c_6)
      refine lv_tableIn (off := 52) (tgt := 67) hx hb dX7_layer_15 (by rw [c_6]; decide) (by rw [c_6]; decide) (by rw [c_6]; rfl) (by decide) ?_
      have fc_6 := i_eq c_6
      rw [q_1] at fc_6
      refine lv_aload_n hx hb dX7_layer_67 rfl (lv_at hl 0 rfl) ?_
      refine g7_sheaves hx hb hts hin hown hK hP (hts (.fieldLink RX7 19 "LoadedForTheLaneModel" "sheaves" "[I") (by decide +kernel)) dX7_layer_68 ?_
      refine lv_iload_n hx hb dX7_layer_71 rfl (lv_at hl 1 rfl) ?_
      have ix_7 : vp_in a1 12 := ix_of (by omega) (by omega)
      refine l7_sheaves (j := a1.toNatClampNeg) hx hb hK hP ix_7 rfl dX7_layer_72 ?_
      exact W.iret (v := w 3 (a1.toNatClampNeg)) hx hb hr (fun t ht hW => ⟨⟨_, w, rfl, E.symm, by show va_P _ _ _ t.heap; rw [ht]; exact hP⟩, hS.F ht⟩) hS.2.2 dX7_layer_73
    have E := E.trans (if_neg c_6)
    have fc_6 := i_ne c_6
    rw [q_1] at fc_6
    by_cases c_8 : a2 = 2
    · have E := E.trans (if_pos c_8)
      refine lv_tableIn (off := 59) (tgt := 74) hx hb dX7_layer_15 (by rw [c_8]; decide) (by rw [c_8]; decide) (by rw [c_8]; rfl) (by decide) ?_
      have fc_8 := i_eq c_8
      rw [q_2] at fc_8
      refine lv_aload_n hx hb dX7_layer_74 rfl (lv_at hl 0 rfl) ?_
      refine g7_out hx hb hts hin hown hK hP (hts (.fieldLink RX7 22 "LoadedForTheLaneModel" "out" "[I") (by decide +kernel)) dX7_layer_75 ?_
      refine lv_iload_n hx hb dX7_layer_78 rfl (lv_at hl 1 rfl) ?_
      have ix_9 : vp_in a1 12 := ix_of (by omega) (by omega)
      refine l7_out (j := a1.toNatClampNeg) hx hb hK hP ix_9 rfl dX7_layer_79 ?_
      exact W.iret (v := w 4 (a1.toNatClampNeg)) hx hb hr (fun t ht hW => ⟨⟨_, w, rfl, E.symm, by show va_P _ _ _ t.heap; rw [ht]; exact hP⟩, hS.F ht⟩) hS.2.2 dX7_layer_80
    have E := E.trans (if_neg c_8)
    have fc_8 := i_ne c_8
    rw [q_2] at fc_8
    by_cases c_10 : a2 = 3
    · have E := E.trans (if_pos c_10)
      refine lv_tableIn (off := 66) (tgt := 81) hx hb dX7_layer_15 (by rw [c_10]; decide) (by rw [c_10]; decide) (by rw [c_10]; rfl) (by decide) ?_
      have fc_10 := i_eq c_10
      rw [q_3] at fc_10
      refine lv_aload_n hx hb dX7_layer_81 rfl (lv_at hl 0 rfl) ?_
      refine g7_lean hx hb hts hin hown hK hP (hts (.fieldLink RX7 25 "LoadedForTheLaneModel" "lean" "[I") (by decide +kernel)) dX7_layer_82 ?_
      refine lv_iload_n hx hb dX7_layer_85 rfl (lv_at hl 1 rfl) ?_
      have ix_11 : vp_in a1 12 := ix_of (by omega) (by omega)
      refine l7_lean (j := a1.toNatClampNeg) hx hb hK hP ix_11 rfl dX7_layer_86 ?_
      exact W.iret (v := w 5 (a1.toNatClampNeg)) hx hb hr (fun t ht hW => ⟨⟨_, w, rfl, E.symm, by show va_P _ _ _ t.heap; rw [ht]; exact hP⟩, hS.F ht⟩) hS.2.2 dX7_layer_87
    have E := E.trans (if_neg c_10)
    have fc_10 := i_ne c_10
    rw [q_3] at fc_10
    by_cases c_12 : a2 = 4
    · have E := E.trans (if_pos c_12)
      refine lv_tableIn (off := 73) (tgt := 88) hx hb dX7_layer_15 (by rw [c_12]; decide) (by rw [c_12]; decide) (by rw [c_12]; rfl) (by decide) ?_
      have fc_12 := i_eq c_12
      rw [q_4] at fc_12
      refine lv_aload_n hx hb dX7_layer_88 rfl (lv_at hl 0 rfl) ?_
      refine lv_iload_n hx hb dX7_layer_89 rfl (lv_at hl 1 rfl) ?_
      refine vp_callSi (va_Run.run (va_runV (As := [.int a1]) (rest := []) ⟨hx, hb, hml, hown, hts⟩ (kX7_weightOf l D cI ad w a1 (by omega) (by omega)) (cwV 1 hts gX7_layer_X7_weightOf rfl rfl rfl mdX7_weightOf ⟨Nat.le_of_ble_eq_true rfl, Nat.le_of_ble_eq_true rfl⟩) (r7_pre hK hP) rfl rfl hl.1 rfl (lv_room (Nat.le_of_ble_eq_true rfl)) dX7_layer_90 ⟨Nat.zero_le _, Nat.zero_le _⟩)) (fun r_13 hr_13 => ?_)
      subst hr_13
      exact W.iret (v := (sX7_weightOf w a1)) hx hb hr (fun t ht hW => ⟨⟨_, w, rfl, E.symm, by show va_P _ _ _ t.heap; rw [ht]; exact hP⟩, hS.F ht⟩) hS.2.2 dX7_layer_93
    have E := E.trans (if_neg c_12)
    have fc_12 := i_ne c_12
    rw [q_4] at fc_12
    by_cases c_14 : a2 = 5
    · have E := E.trans (if_pos c_14)
      refine lv_tableIn (off := 79) (tgt := 94) hx hb dX7_layer_15 (by rw [c_14]; decide) (by rw [c_14]; decide) (by rw [c_14]; rfl) (by decide) ?_
      have fc_14 := i_eq c_14
      rw [q_5] at fc_14
      refine lv_aload_n hx hb dX7_layer_94 rfl (lv_at hl 0 rfl) ?_
      refine lv_iload_n hx hb dX7_layer_95 rfl (lv_at hl 1 rfl) ?_
      refine vp_callSi (va_Run.run (va_runV (As := [.int a1]) (rest := []) ⟨hx, hb, hml, hown, hts⟩ (kX7_bindingOf l D cI ad w a1 (by omega) (by omega)) (cwV 1 hts gX7_layer_X7_bindingOf rfl rfl rfl mdX7_bindingOf ⟨Nat.le_of_ble_eq_true rfl, Nat.le_of_ble_eq_true rfl⟩) (r7_pre hK hP) rfl rfl hl.1 rfl (lv_room (Nat.le_of_ble_eq_true rfl)) dX7_layer_96 ⟨Nat.zero_le _, Nat.zero_le _⟩)) (fun r_15 hr_15 => ?_)
      subst hr_15
      exact W.iret (v := (sX7_bindingOf w a1)) hx hb hr (fun t ht hW => ⟨⟨_, w, rfl, E.symm, by show va_P _ _ _ t.heap; rw [ht]; exact hP⟩, hS.F ht⟩) hS.2.2 dX7_layer_99
    have E := E.trans (if_neg c_14)
    have fc_14 := i_ne c_14
    rw [q_5] at fc_14
    by_cases c_16 : a2 = 6
    · have E := E.trans (if_pos c_16)
      refine lv_tableIn (off := 85) (tgt := 100) hx hb dX7_layer_15 (by rw [c_16]; decide) (by rw [c_16]; decide) (by rw [c_16]; rfl) (by decide) ?_
      have fc_16 := i_eq c_16
      rw [q_6] at fc_16
      refine lv_aload_n hx hb dX7_layer_100 rfl (lv_at hl 0 rfl) ?_
      refine lv_iload_n hx hb dX7_layer_101 rfl (lv_at hl 1 rfl) ?_
      refine vp_callSi (va_Run.run (va_runV (As := [.int a1]) (rest := []) ⟨hx, hb, hml, hown, hts⟩ (kX7_thickOf l D cI ad w a1 (by omega) (by omega)) (cwV 1 hts gX7_layer_X7_thickOf rfl rfl rfl mdX7_thickOf ⟨Nat.le_of_ble_eq_true rfl, Nat.le_of_ble_eq_true rfl⟩) (r7_pre hK hP) rfl rfl hl.1 rfl (lv_room (Nat.le_of_ble_eq_true rfl)) dX7_layer_102 ⟨Nat.zero_le _, Nat.zero_le _⟩)) (fun r_17 hr_17 => ?_)
      subst hr_17
      exact W.iret (v := (sX7_thickOf w a1)) hx hb hr (fun t ht hW => ⟨⟨_, w, rfl, E.symm, by show va_P _ _ _ t.heap; rw [ht]; exact hP⟩, hS.F ht⟩) hS.2.2 dX7_layer_105
    have E := E.trans (if_neg c_16)
    have fc_16 := i_ne c_16
    rw [q_6] at fc_16
    by_cases c_18 : a2 = 7
    · have E := E.trans (if_pos c_18)
      refine lv_tableIn (off := 91) (tgt := 106) hx hb dX7_layer_15 (by rw [c_18]; decide) (by rw [c_18]; decide) (by rw [c_18]; rfl) (by decide) ?_
      have fc_18 := i_eq c_18
      rw [q_7] at fc_18
      refine lv_aload_n hx hb dX7_layer_106 rfl (lv_at hl 0 rfl) ?_
      refine lv_iload_n hx hb dX7_layer_107 rfl (lv_at hl 1 rfl) ?_
      refine vp_callSi (va_Run.run (va_runV (As := [.int a1]) (rest := []) ⟨hx, hb, hml, hown, hts⟩ (kX7_loadOf l D cI ad w a1 hI (by omega) (by omega)) (cwV 1 hts gX7_layer_X7_loadOf rfl rfl rfl mdX7_loadOf ⟨Nat.le_of_ble_eq_true rfl, Nat.le_of_ble_eq_true rfl⟩) (r7_pre hK hP) rfl rfl hl.1 rfl (lv_room (Nat.le_of_ble_eq_true rfl)) dX7_layer_108 ⟨Nat.zero_le _, Nat.zero_le _⟩)) (fun r_19 hr_19 => ?_)
      subst hr_19
      exact W.iret (v := (sX7_loadOf w a1)) hx hb hr (fun t ht hW => ⟨⟨_, w, rfl, E.symm, by show va_P _ _ _ t.heap; rw [ht]; exact hP⟩, hS.F ht⟩) hS.2.2 dX7_layer_111
    have E := E.trans (if_neg c_18)
    have fc_18 := i_ne c_18
    rw [q_7] at fc_18
    refine lv_tableOut (tgt := 112) hx hb dX7_layer_15 (by omega) (by decide) ?_
    refine lv_aload_n hx hb dX7_layer_112 rfl (lv_at hl 0 rfl) ?_
    refine lv_bipush (v := (-2)) hx hb dX7_layer_113 (by decide +kernel) ?_
    have := q_m2
    refine va_calli (va_runV (As := [.int (-2)]) (rest := []) ⟨hx, hb, hml, hown, hts⟩ (kX7_lower l D cI ad w (-2) hd hI (by omega) (by omega)) (cwV 1 hts gX7_layer_X7_lower rfl rfl rfl mdX7_lower ⟨Nat.le_of_ble_eq_true rfl, Nat.le_of_ble_eq_true rfl⟩) (r7_pre hK hP) rfl rfl hl.1 rfl (lv_room (Nat.le_of_ble_eq_true rfl)) dX7_layer_115 ⟨Nat.zero_le _, Nat.zero_le _⟩) hS (fun _ _ h => h) (fun _ h => h) (fun rn_3 wn_3 t H locs ht hvm hp_3 hB hz hfr hS => ?_)
    have hP : va_P D vwCl (RM cI ad wn_3) H := ht ▸ hB
    obtain ⟨hp_3, hI_3⟩ := hp_3
    have E := bnd_e E hp_3
    exact W.iret (v := rn_3) hx hb hr (fun t ht hW => ⟨⟨_, wn_3, rfl, E.symm, by show va_P _ _ _ t.heap; rw [ht]; exact hP⟩, hS.F ht⟩) hS.2.2 dX7_layer_118
  · have E := E.trans (if_pos c_2)
    have fc_2 := i_eq c_2
    rw [q_0] at fc_2
    refine lv_aload_n hx hb dX7_layer_8 rfl (lv_at hl 0 rfl) ?_
    refine lv_iconst (v := (-1)) hx hb dX7_layer_9 (by decide) ?_
    have := q_m1
    refine va_calli (va_runV (As := [.int (-1)]) (rest := []) ⟨hx, hb, hml, hown, hts⟩ (kX7_lower l D cI ad w (-1) hd hI (by omega) (by omega)) (cwV 1 hts gX7_layer_X7_lower rfl rfl rfl mdX7_lower ⟨Nat.le_of_ble_eq_true rfl, Nat.le_of_ble_eq_true rfl⟩) (r7_pre hK hP) rfl rfl hl.1 rfl (lv_room (Nat.le_of_ble_eq_true rfl)) dX7_layer_10 ⟨Nat.zero_le _, Nat.zero_le _⟩) hS (fun _ _ h => h) (fun _ h => h) (fun rn_20 wn_20 t H locs ht hvm hp_20 hB hz hfr hS => ?_)
    have hP : va_P D vwCl (RM cI ad wn_20) H := ht ▸ hB
    obtain ⟨hp_20, hI_20⟩ := hp_20
    have E := bnd_e E hp_20
    exact W.iret (v := rn_20) hx hb hr (fun t ht hW => ⟨⟨_, wn_20, rfl, E.symm, by show va_P _ _ _ t.heap; rw [ht]; exact hP⟩, hS.F ht⟩) hS.2.2 dX7_layer_13
abbrev rmX7_piece : Room := { frames := 2, cells := 0, slots := 0, locals := 42 }
set_option maxHeartbeats 4000000 in
set_option maxRecDepth 100000 in
theorem kX7_piece (l : Launch) (D : va_G) (cI : ClassId) (ad : Nat → Nat) (w : Nat → Nat → Int32) (a1 : Int32) (a2 : Int32) (a3 : Int32) (hd : RD ad) (hI : R7I w)  : Met l yX7_piece wsX7_piece rmX7_piece (va_Pc [Value.ref (ad 0), Value.int a1, Value.int a2, Value.int a3] (fun U => va_P D vwCl (RM cI ad w) U.heap ∧ va_K D vwCl [(cI, .int)] U)) (va_Qi (fun r u => (r, u) = sX7_piece w a1 a2 a3) (fun u t => va_P D vwCl (RM cI ad u) t.heap) (RA ad)) 0 0 (RA ad) := by
  refine Met.ofW (cc := cX7_piece) (maxL := 5) (ret := (some .int)) (by decide) rfl ?_
  intro p e s m args below meth c s₁ B hml hv
  obtain ⟨rfl, hP, hK⟩ := hv
  have hx := B.exec
  have hb := B.bytes
  have hr := B.returns
  have hts := atoms_spec (ws := wsX7_piece) B.pre
  have hown : s.vm.findClass RX7 = some m.cls := findClass_of_methodNamed B.named
  have hlocks := B.notSynchronized
  have hin : ∀ q ∈ wsX70, q ∈ wsX7_piece := by decide +kernel
  have hl := lv_entry ([.ref (ad 0), .int a1, .int a2, .int a3]) (n := 5) (Nat.le_of_ble_eq_true rfl)
  rw [lg_entry_eq]
  generalize (lg_sl ([.ref (ad 0), .int a1, .int a2, .int a3]) ++ List.replicate (5 - (lg_sl ([.ref (ad 0), .int a1, .int a2, .int a3])).length) Slot.unset).toArray = ls at hl ⊢
  have hl : lv_has ls 5 [(0, .ref (ad 0)), (1, .int a1), (2, .int a2), (3, .int a3)] := hl
  suffices hgo : ∀ (H : Heap) (locs : List Loc), va_P D vwCl (RM cI ad w) H → va_S (RA ad) s.heap H locs → W p l e (headSpec wsX7_piece rmX7_piece).room s m [Value.ref (ad 0), Value.int a1, Value.int a2, Value.int a3].toArray below meth c H locs 0 0 (MQ below (va_Qi (fun r u => (r, u) = sX7_piece w a1 a2 a3) (fun u t => va_P D vwCl (RM cI ad u) t.heap) (RA ad)) [Value.ref (ad 0), Value.int a1, Value.int a2, Value.int a3].toArray s 0 0 (RA ad)) (F0 m 0 ls []) from hgo s.heap [] hP va_S.rf
  intro H locs hP hS
  have E := sX7_piece.eq_1 w a1 a2 a3
  refine lv_aload_n hx hb dX7_piece_0 rfl (lv_at hl 0 rfl) ?_
  refine lv_iload_n hx hb dX7_piece_1 rfl (lv_at hl 1 rfl) ?_
  refine lv_iload_n hx hb dX7_piece_2 rfl (lv_at hl 2 rfl) ?_
  refine vp_callSi (va_Run.run (va_runV (As := [.int a1, .int a2]) (rest := []) ⟨hx, hb, hml, hown, hts⟩ (kX7_isPiece l D cI ad w a1 a2) (cwV 2 hts gX7_piece_X7_isPiece rfl rfl rfl mdX7_isPiece ⟨Nat.le_of_ble_eq_true rfl, Nat.le_of_ble_eq_true rfl⟩) (r7_pre hK hP) rfl rfl hl.1 rfl (lv_room (Nat.le_of_ble_eq_true rfl)) dX7_piece_3 ⟨Nat.zero_le _, Nat.zero_le _⟩)) (fun r_1 hr_1 => ?_)
  obtain ⟨rfl, hz_1⟩ := hr_1
  refine lv_if_ne (tgt := 15) hx hb dX7_piece_6 (by decide) (fun c_2 => ?_) (fun c_2 => ?_)
  · have E := E.trans (if_neg c_2)
    have fc_2 := i_ne c_2
    rw [q_0] at fc_2
    have gc_2 := fX7_isPiece c_2
    have gpc_2 := R7I_pieces hI (j := a1.toNatClampNeg) (by have := ix_cl (x := a1) (by omega); omega)
    refine lv_bipush (v := 6) hx hb dX7_piece_15 (by decide +kernel) ?_
    refine lv_iload_n hx hb dX7_piece_17 rfl (lv_at hl 1 rfl) ?_
    refine lv_imul hx hb dX7_piece_18 ?_
    refine lv_iload_n hx hb dX7_piece_19 rfl (lv_at hl 2 rfl) ?_
    refine lv_iadd hx hb dX7_piece_20 ?_
    refine lv_istore (lv' := [(4, .int ((6 * a1) + a2)), (0, .ref (ad 0)), (1, .int a1), (2, .int a2), (3, .int a3)]) hx hb dX7_piece_21 hl (by decide) rfl (fun ls hl => ?_)
    refine lv_iload_n hx hb dX7_piece_23 rfl (lv_at hl 4 rfl) ?_
    by_cases c_4 : a3 = 0
    · have E := E.trans (if_pos c_4)
      refine lv_tableIn (off := 28) (tgt := 52) hx hb dX7_piece_24 (by rw [c_4]; decide) (by rw [c_4]; decide) (by rw [c_4]; rfl) (by decide) ?_
      have fc_4 := i_eq c_4
      rw [q_0] at fc_4
      refine lv_aload_n hx hb dX7_piece_52 rfl (lv_at hl 1 rfl) ?_
      refine g7_sort hx hb hts hin hown hK hP (hts (.fieldLink RX7 31 "LoadedForTheLaneModel" "sort" "[I") (by decide +kernel)) dX7_piece_53 ?_
      refine lv_iload hx hb dX7_piece_56 (lv_at hl 0 rfl) ?_
      have := i_mull (a := 6) (b := a1) (n := 6) q_6 (by omega) (by omega)
      have := i_add (a := 6 * a1) (b := a2) (by omega) (by omega)
      have ix_5 : vp_in ((6 * a1) + a2) 12 := ix_of (by omega) (by omega)
      refine l7_sort (j := ((6 * a1) + a2).toNatClampNeg) hx hb hK hP ix_5 rfl dX7_piece_58 ?_
      exact W.iret (v := w 7 (((6 * a1) + a2).toNatClampNeg)) hx hb hr (fun t ht hW => ⟨⟨_, w, rfl, E.symm, by show va_P _ _ _ t.heap; rw [ht]; exact hP⟩, hS.F ht⟩) hS.2.2 dX7_piece_59
    have E := E.trans (if_neg c_4)
    have fc_4 := i_ne c_4
    rw [q_0] at fc_4
    by_cases c_6 : a3 = 1
    · have E := E.trans (if_pos c_6)
      refine lv_tableIn (off := 36) (tgt := 60) hx hb dX7_piece_24 (by rw [c_6]; decide) (by rw [c_6]; decide) (by rw [c_6]; rfl) (by decide) ?_
      have fc_6 := i_eq c_6
      rw [q_1] at fc_6
      refine lv_aload_n hx hb dX7_piece_60 rfl (lv_at hl 1 rfl) ?_
      refine g7_figure hx hb hts hin hown hK hP (hts (.fieldLink RX7 34 "LoadedForTheLaneModel" "figure" "[I") (by decide +kernel)) dX7_piece_61 ?_
      refine lv_iload hx hb dX7_piece_64 (lv_at hl 0 rfl) ?_
      have := i_mull (a := 6) (b := a1) (n := 6) q_6 (by omega) (by omega)
      have := i_add (a := 6 * a1) (b := a2) (by omega) (by omega)
      have ix_7 : vp_in ((6 * a1) + a2) 12 := ix_of (by omega) (by omega)
      refine l7_figure (j := ((6 * a1) + a2).toNatClampNeg) hx hb hK hP ix_7 rfl dX7_piece_66 ?_
      exact W.iret (v := w 8 (((6 * a1) + a2).toNatClampNeg)) hx hb hr (fun t ht hW => ⟨⟨_, w, rfl, E.symm, by show va_P _ _ _ t.heap; rw [ht]; exact hP⟩, hS.F ht⟩) hS.2.2 dX7_piece_67
    have E := E.trans (if_neg c_6)
    have fc_6 := i_ne c_6
    rw [q_1] at fc_6
    by_cases c_8 : a3 = 2
    · have E := E.trans (if_pos c_8)
      refine lv_tableIn (off := 44) (tgt := 68) hx hb dX7_piece_24 (by rw [c_8]; decide) (by rw [c_8]; decide) (by rw [c_8]; rfl) (by decide) ?_
      have fc_8 := i_eq c_8
      rw [q_2] at fc_8
      refine lv_aload_n hx hb dX7_piece_68 rfl (lv_at hl 1 rfl) ?_
      refine g7_lasting hx hb hts hin hown hK hP (hts (.fieldLink RX7 37 "LoadedForTheLaneModel" "lasting" "[I") (by decide +kernel)) dX7_piece_69 ?_
      refine lv_iload hx hb dX7_piece_72 (lv_at hl 0 rfl) ?_
      have := i_mull (a := 6) (b := a1) (n := 6) q_6 (by omega) (by omega)
      have := i_add (a := 6 * a1) (b := a2) (by omega) (by omega)
      have ix_9 : vp_in ((6 * a1) + a2) 12 := ix_of (by omega) (by omega)
      refine l7_lasting (j := ((6 * a1) + a2).toNatClampNeg) hx hb hK hP ix_9 rfl dX7_piece_74 ?_
      exact W.iret (v := w 9 (((6 * a1) + a2).toNatClampNeg)) hx hb hr (fun t ht hW => ⟨⟨_, w, rfl, E.symm, by show va_P _ _ _ t.heap; rw [ht]; exact hP⟩, hS.F ht⟩) hS.2.2 dX7_piece_75
    have E := E.trans (if_neg c_8)
    have fc_8 := i_ne c_8
    rw [q_2] at fc_8
    refine lv_tableOut (tgt := 76) hx hb dX7_piece_24 (by omega) (by decide) ?_
    refine lv_aload_n hx hb dX7_piece_76 rfl (lv_at hl 1 rfl) ?_
    refine lv_bipush (v := (-2)) hx hb dX7_piece_77 (by decide +kernel) ?_
    have := q_m2
    refine va_calli (va_runV (As := [.int (-2)]) (rest := []) ⟨hx, hb, hml, hown, hts⟩ (kX7_no l D cI ad w (-2) hd hI (by omega) (by omega)) (cwV 1 hts gX7_piece_X7_no rfl rfl rfl mdX7_no ⟨Nat.le_of_ble_eq_true rfl, Nat.le_of_ble_eq_true rfl⟩) (r7_pre hK hP) rfl rfl hl.1 rfl (lv_room (Nat.le_of_ble_eq_true rfl)) dX7_piece_79 ⟨Nat.zero_le _, Nat.zero_le _⟩) hS (fun _ _ h => h) (fun _ h => h) (fun rn_3 wn_3 t H locs ht hvm hp_3 hB hz hfr hS => ?_)
    have hP : va_P D vwCl (RM cI ad wn_3) H := ht ▸ hB
    obtain ⟨hp_3, hI_3⟩ := hp_3
    have E := bnd_e E hp_3
    exact W.iret (v := rn_3) hx hb hr (fun t ht hW => ⟨⟨_, wn_3, rfl, E.symm, by show va_P _ _ _ t.heap; rw [ht]; exact hP⟩, hS.F ht⟩) hS.2.2 dX7_piece_82
  · have E := E.trans (if_pos c_2)
    have fc_2 := i_eq c_2
    rw [q_0] at fc_2
    refine lv_aload_n hx hb dX7_piece_9 rfl (lv_at hl 0 rfl) ?_
    refine lv_iconst (v := (-1)) hx hb dX7_piece_10 (by decide) ?_
    have := q_m1
    refine va_calli (va_runV (As := [.int (-1)]) (rest := []) ⟨hx, hb, hml, hown, hts⟩ (kX7_no l D cI ad w (-1) hd hI (by omega) (by omega)) (cwV 1 hts gX7_piece_X7_no rfl rfl rfl mdX7_no ⟨Nat.le_of_ble_eq_true rfl, Nat.le_of_ble_eq_true rfl⟩) (r7_pre hK hP) rfl rfl hl.1 rfl (lv_room (Nat.le_of_ble_eq_true rfl)) dX7_piece_11 ⟨Nat.zero_le _, Nat.zero_le _⟩) hS (fun _ _ h => h) (fun _ h => h) (fun rn_10 wn_10 t H locs ht hvm hp_10 hB hz hfr hS => ?_)
    have hP : va_P D vwCl (RM cI ad wn_10) H := ht ▸ hB
    obtain ⟨hp_10, hI_10⟩ := hp_10
    have E := bnd_e E hp_10
    exact W.iret (v := rn_10) hx hb hr (fun t ht hW => ⟨⟨_, wn_10, rfl, E.symm, by show va_P _ _ _ t.heap; rw [ht]; exact hP⟩, hS.F ht⟩) hS.2.2 dX7_piece_14
abbrev rmX7_shift : Room := { frames := 3, cells := 0, slots := 0, locals := 70 }
set_option maxHeartbeats 4000000 in
set_option maxRecDepth 100000 in
theorem kX7_shift (l : Launch) (D : va_G) (cI : ClassId) (ad : Nat → Nat) (w : Nat → Nat → Int32) (a1 : Int32) (a2 : Int32) (a3 : Int32) (hd : RD ad) (hI : R7I w)  : Met l yX7_shift wsX7_shift rmX7_shift (va_Pc [Value.ref (ad 0), Value.int a1, Value.int a2, Value.int a3] (fun U => va_P D vwCl (RM cI ad w) U.heap ∧ va_K D vwCl [(cI, .int)] U)) (va_Qi (fun r u => (r, u) = sX7_shift w a1 a2 a3) (fun u t => va_P D vwCl (RM cI ad u) t.heap) (RA ad)) 0 0 (RA ad) := by
  refine Met.ofW (cc := cX7_shift) (maxL := 4) (ret := (some .int)) (by decide) rfl ?_
  intro p e s m args below meth c s₁ B hml hv
  obtain ⟨rfl, hP, hK⟩ := hv
  have hx := B.exec
  have hb := B.bytes
  have hr := B.returns
  have hts := atoms_spec (ws := wsX7_shift) B.pre
  have hown : s.vm.findClass RX7 = some m.cls := findClass_of_methodNamed B.named
  have hlocks := B.notSynchronized
  have hin : ∀ q ∈ wsX70, q ∈ wsX7_shift := by decide +kernel
  have hl := lv_entry ([.ref (ad 0), .int a1, .int a2, .int a3]) (n := 4) (Nat.le_of_ble_eq_true rfl)
  rw [lg_entry_eq]
  generalize (lg_sl ([.ref (ad 0), .int a1, .int a2, .int a3]) ++ List.replicate (4 - (lg_sl ([.ref (ad 0), .int a1, .int a2, .int a3])).length) Slot.unset).toArray = ls at hl ⊢
  have hl : lv_has ls 4 [(0, .ref (ad 0)), (1, .int a1), (2, .int a2), (3, .int a3)] := hl
  suffices hgo : ∀ (H : Heap) (locs : List Loc), va_P D vwCl (RM cI ad w) H → va_S (RA ad) s.heap H locs → W p l e (headSpec wsX7_shift rmX7_shift).room s m [Value.ref (ad 0), Value.int a1, Value.int a2, Value.int a3].toArray below meth c H locs 0 0 (MQ below (va_Qi (fun r u => (r, u) = sX7_shift w a1 a2 a3) (fun u t => va_P D vwCl (RM cI ad u) t.heap) (RA ad)) [Value.ref (ad 0), Value.int a1, Value.int a2, Value.int a3].toArray s 0 0 (RA ad)) (F0 m 0 ls []) from hgo s.heap [] hP va_S.rf
  intro H locs hP hS
  have E := sX7_shift.eq_1 w a1 a2 a3
  refine lv_aload_n hx hb dX7_shift_0 rfl (lv_at hl 0 rfl) ?_
  refine lv_iload_n hx hb dX7_shift_1 rfl (lv_at hl 1 rfl) ?_
  refine lv_iload_n hx hb dX7_shift_2 rfl (lv_at hl 2 rfl) ?_
  refine vp_callSi (va_Run.run (va_runV (As := [.int a1, .int a2]) (rest := []) ⟨hx, hb, hml, hown, hts⟩ (kX7_isPiece l D cI ad w a1 a2) (cwV 2 hts gX7_shift_X7_isPiece rfl rfl rfl mdX7_isPiece ⟨Nat.le_of_ble_eq_true rfl, Nat.le_of_ble_eq_true rfl⟩) (r7_pre hK hP) rfl rfl hl.1 rfl (lv_room (Nat.le_of_ble_eq_true rfl)) dX7_shift_3 ⟨Nat.zero_le _, Nat.zero_le _⟩)) (fun r_1 hr_1 => ?_)
  obtain ⟨rfl, hz_1⟩ := hr_1
  refine lv_if_eq (tgt := 31) hx hb dX7_shift_6 (by decide) (fun c_2 => ?_) (fun c_2 => ?_)
  · have E := E.trans (if_pos c_2)
    have fc_2 := i_eq c_2
    rw [q_0] at fc_2
    refine lv_aload_n hx hb dX7_shift_31 rfl (lv_at hl 0 rfl) ?_
    refine lv_iconst (v := (-1)) hx hb dX7_shift_32 (by decide) ?_
    have := q_m1
    refine va_calli (va_runV (As := [.int (-1)]) (rest := []) ⟨hx, hb, hml, hown, hts⟩ (kX7_no l D cI ad w (-1) hd hI (by omega) (by omega)) (cwV 1 hts gX7_shift_X7_no rfl rfl rfl mdX7_no ⟨Nat.le_of_ble_eq_true rfl, Nat.le_of_ble_eq_true rfl⟩) (r7_pre hK hP) rfl rfl hl.1 rfl (lv_room (Nat.le_of_ble_eq_true rfl)) dX7_shift_33 ⟨Nat.zero_le _, Nat.zero_le _⟩) hS (fun _ _ h => h) (fun _ h => h) (fun rn_3 wn_3 t H locs ht hvm hp_3 hB hz hfr hS => ?_)
    have hP : va_P D vwCl (RM cI ad wn_3) H := ht ▸ hB
    obtain ⟨hp_3, hI_3⟩ := hp_3
    have E := bnd_e E hp_3
    exact W.iret (v := rn_3) hx hb hr (fun t ht hW => ⟨⟨_, wn_3, rfl, E.symm, by show va_P _ _ _ t.heap; rw [ht]; exact hP⟩, hS.F ht⟩) hS.2.2 dX7_shift_36
  · have E := E.trans (if_neg c_2)
    have fc_2 := i_ne c_2
    rw [q_0] at fc_2
    have gc_2 := fX7_isPiece c_2
    have gpc_2 := R7I_pieces hI (j := a1.toNatClampNeg) (by have := ix_cl (x := a1) (by omega); omega)
    refine lv_aload_n hx hb dX7_shift_9 rfl (lv_at hl 0 rfl) ?_
    refine lv_iload_n hx hb dX7_shift_10 rfl (lv_at hl 3 rfl) ?_
    refine vp_callSi (va_Run.run (va_runV (As := [.int a3]) (rest := []) ⟨hx, hb, hml, hown, hts⟩ (kX7_isLayer l D cI ad w a3) (cwV 1 hts gX7_shift_X7_isLayer rfl rfl rfl mdX7_isLayer ⟨Nat.le_of_ble_eq_true rfl, Nat.le_of_ble_eq_true rfl⟩) (r7_pre hK hP) rfl rfl hl.1 rfl (lv_room (Nat.le_of_ble_eq_true rfl)) dX7_shift_11 ⟨Nat.zero_le _, Nat.zero_le _⟩)) (fun r_4 hr_4 => ?_)
    obtain ⟨rfl, hz_4⟩ := hr_4
    refine lv_if_eq (tgt := 31) hx hb dX7_shift_14 (by decide) (fun c_5 => ?_) (fun c_5 => ?_)
    · have E := E.trans (if_pos c_5)
      have fc_5 := i_eq c_5
      rw [q_0] at fc_5
      refine lv_aload_n hx hb dX7_shift_31 rfl (lv_at hl 0 rfl) ?_
      refine lv_iconst (v := (-1)) hx hb dX7_shift_32 (by decide) ?_
      have := q_m1
      refine va_calli (va_runV (As := [.int (-1)]) (rest := []) ⟨hx, hb, hml, hown, hts⟩ (kX7_no l D cI ad w (-1) hd hI (by omega) (by omega)) (cwV 1 hts gX7_shift_X7_no rfl rfl rfl mdX7_no ⟨Nat.le_of_ble_eq_true rfl, Nat.le_of_ble_eq_true rfl⟩) (r7_pre hK hP) rfl rfl hl.1 rfl (lv_room (Nat.le_of_ble_eq_true rfl)) dX7_shift_33 ⟨Nat.zero_le _, Nat.zero_le _⟩) hS (fun _ _ h => h) (fun _ h => h) (fun rn_6 wn_6 t H locs ht hvm hp_6 hB hz hfr hS => ?_)
      have hP : va_P D vwCl (RM cI ad wn_6) H := ht ▸ hB
      obtain ⟨hp_6, hI_6⟩ := hp_6
      have E := bnd_e E hp_6
      exact W.iret (v := rn_6) hx hb hr (fun t ht hW => ⟨⟨_, wn_6, rfl, E.symm, by show va_P _ _ _ t.heap; rw [ht]; exact hP⟩, hS.F ht⟩) hS.2.2 dX7_shift_36
    · have E := E.trans (if_neg c_5)
      have fc_5 := i_ne c_5
      rw [q_0] at fc_5
      have gc_5 := fX7_isLayer c_5
      have glc_5 := R7I_layers hI
      refine lv_aload_n hx hb dX7_shift_17 rfl (lv_at hl 0 rfl) ?_
      refine lv_bipush (v := 6) hx hb dX7_shift_18 (by decide +kernel) ?_
      refine lv_iload_n hx hb dX7_shift_20 rfl (lv_at hl 1 rfl) ?_
      refine lv_imul hx hb dX7_shift_21 ?_
      refine lv_iload_n hx hb dX7_shift_22 rfl (lv_at hl 2 rfl) ?_
      refine lv_iadd hx hb dX7_shift_23 ?_
      refine lv_iload_n hx hb dX7_shift_24 rfl (lv_at hl 3 rfl) ?_
      have := i_mull (a := 6) (b := a1) (n := 6) q_6 (by omega) (by omega)
      have := i_add (a := 6 * a1) (b := a2) (by omega) (by omega)
      refine vp_callSi (va_Run.run (va_runV (As := [.int ((6 * a1) + a2), .int a3]) (rest := []) ⟨hx, hb, hml, hown, hts⟩ (kX7_shiftAt l D cI ad w ((6 * a1) + a2) a3 hI (by omega) (by omega) (by omega) (by omega)) (cwV 2 hts gX7_shift_X7_shiftAt rfl rfl rfl mdX7_shiftAt ⟨Nat.le_of_ble_eq_true rfl, Nat.le_of_ble_eq_true rfl⟩) (r7_pre hK hP) rfl rfl hl.1 rfl (lv_room (Nat.le_of_ble_eq_true rfl)) dX7_shift_25 ⟨Nat.zero_le _, Nat.zero_le _⟩)) (fun r_7 hr_7 => ?_)
      subst hr_7
      refine lv_goto (tgt := 36) hx hb dX7_shift_28 (by decide) ?_
      exact W.iret (v := (sX7_shiftAt w ((6 * a1) + a2) a3)) hx hb hr (fun t ht hW => ⟨⟨_, w, rfl, E.symm, by show va_P _ _ _ t.heap; rw [ht]; exact hP⟩, hS.F ht⟩) hS.2.2 dX7_shift_36
abbrev rmX7_findSlip : Room := { frames := 5, cells := 0, slots := 0, locals := 115 }
set_option maxHeartbeats 4000000 in
set_option maxRecDepth 100000 in
theorem kX7_findSlip (l : Launch) (D : va_G) (cI : ClassId) (ad : Nat → Nat) (w : Nat → Nat → Int32) (a1 : Int32) (hd : RD ad) (hI : R7I w) (h1 : 0 ≤ a1.toInt) (h2 : a1.toInt < 2) : Met l yX7_findSlip wsX7_findSlip rmX7_findSlip (va_Pc [Value.ref (ad 0), Value.int a1] (fun U => va_P D vwCl (RM cI ad w) U.heap ∧ va_K D vwCl [(cI, .int)] U)) (va_Qv (fun u => u = sX7_findSlip w a1 ∧ R7I u ∧ (∀ k : Nat, k ≠ 23 → k ≠ 24 → u k = w k)) (fun u t => va_P D vwCl (RM cI ad u) t.heap) (RA ad)) 0 0 (RA ad) := by
  refine Met.ofW (cc := cX7_findSlip) (maxL := 4) (ret := none) (by decide) rfl ?_
  intro p e s m args below meth c s₁ B hml hv
  obtain ⟨rfl, hP, hK⟩ := hv
  have hx := B.exec
  have hb := B.bytes
  have hr := B.returns
  have hts := atoms_spec (ws := wsX7_findSlip) B.pre
  have hown : s.vm.findClass RX7 = some m.cls := findClass_of_methodNamed B.named
  have hlocks := B.notSynchronized
  have hin : ∀ q ∈ wsX70, q ∈ wsX7_findSlip := by decide +kernel
  have hk : ∀ k : Nat, k ≠ 23 → k ≠ 24 → w k = w k := fun _ _ _ => rfl
  have hl := lv_entry ([.ref (ad 0), .int a1]) (n := 4) (Nat.le_of_ble_eq_true rfl)
  rw [lg_entry_eq]
  generalize (lg_sl ([.ref (ad 0), .int a1]) ++ List.replicate (4 - (lg_sl ([.ref (ad 0), .int a1])).length) Slot.unset).toArray = ls at hl ⊢
  have hl : lv_has ls 4 [(0, .ref (ad 0)), (1, .int a1)] := hl
  suffices hgo : ∀ (H : Heap) (locs : List Loc), va_P D vwCl (RM cI ad w) H → va_S (RA ad) s.heap H locs → W p l e (headSpec wsX7_findSlip rmX7_findSlip).room s m [Value.ref (ad 0), Value.int a1].toArray below meth c H locs 0 0 (MQ below (va_Qv (fun u => u = sX7_findSlip w a1 ∧ R7I u ∧ (∀ k : Nat, k ≠ 23 → k ≠ 24 → u k = w k)) (fun u t => va_P D vwCl (RM cI ad u) t.heap) (RA ad)) [Value.ref (ad 0), Value.int a1].toArray s 0 0 (RA ad)) (F0 m 0 ls []) from hgo s.heap [] hP va_S.rf
  intro H locs hP hS
  have E := sX7_findSlip.eq_1 w a1
  refine lv_aload_n hx hb dX7_findSlip_0 rfl (lv_at hl 0 rfl) ?_
  refine lv_bipush (v := (-9)) hx hb dX7_findSlip_1 (by decide +kernel) ?_
  refine p7_slipPiece hx hb hts hin hown hK hP hd hS (hts (.fieldLink RX7 205 "LoadedForTheLaneModel" "slipPiece" "I") (by decide +kernel)) dX7_findSlip_3 (fun H locs hP hS => ?_)
  obtain ⟨wn_1, hwn_1⟩ : ∃ x, x = st w 23 0 (-9) := ⟨_, rfl⟩
  rw [← hwn_1] at hP
  have E := bns_e E hwn_1
  have ft1_layers : (wn_1 11 0).toInt = (w 11 0).toInt := by rw [hwn_1]; rfl
  have ft1_slipLayer : (wn_1 24 0).toInt = (w 24 0).toInt := by rw [hwn_1]; rfl
  have hk := fun (k : Nat) (h1 : k ≠ 23) (h2 : k ≠ 24) => (show wn_1 k = w k by rw [hwn_1]; exact st_o h1).trans (hk k h1 h2)
  have hI_1 : R7I wn_1 := by rw [hwn_1]; exact R7I_put_slipPiece hI
  refine lv_aload_n hx hb dX7_findSlip_6 rfl (lv_at hl 0 rfl) ?_
  refine lv_bipush (v := (-9)) hx hb dX7_findSlip_7 (by decide +kernel) ?_
  refine p7_slipLayer hx hb hts hin hown hK hP hd hS (hts (.fieldLink RX7 208 "LoadedForTheLaneModel" "slipLayer" "I") (by decide +kernel)) dX7_findSlip_9 (fun H locs hP hS => ?_)
  obtain ⟨wn_2, hwn_2⟩ : ∃ x, x = st wn_1 24 0 (-9) := ⟨_, rfl⟩
  rw [← hwn_2] at hP
  have E := bns_e E hwn_2
  have ft2_layers : (wn_2 11 0).toInt = (wn_1 11 0).toInt := by rw [hwn_2]; rfl
  have ft2_slipLayer : (wn_2 24 0).toInt = ((-9) : Int32).toInt := by rw [hwn_2]; rfl
  have := q_m9
  have hk := fun (k : Nat) (h1 : k ≠ 23) (h2 : k ≠ 24) => (show wn_2 k = wn_1 k by rw [hwn_2]; exact st_o h2).trans (hk k h1 h2)
  have hI_2 : R7I wn_2 := by rw [hwn_2]; exact R7I_put_slipLayer hI_1
  refine lv_iconst (v := 0) hx hb dX7_findSlip_12 (by decide) ?_
  refine lv_istore_n (lv' := [(2, .int 0), (0, .ref (ad 0)), (1, .int a1)]) hx hb dX7_findSlip_13 rfl hl (by decide) rfl (fun ls hl => ?_)
  have L_14 : ∀ (n_14 : Nat) (x2_14 : Int32) (ls : Array Slot), ((0 ≤ x2_14.toInt) ∧ (x2_14.toInt ≤ 6)) → (6 - x2_14.toInt < (n_14 : Int)) → lv_has ls 4 [(2, .int x2_14), (0, .ref (ad 0)), (1, .int a1)] → sX7_findSlip w a1 = sX7_findSlip_14 a1 wn_2 n_14 x2_14 → W p l e (headSpec wsX7_findSlip rmX7_findSlip).room s m [Value.ref (ad 0), Value.int a1].toArray below meth c H locs 0 0 (MQ below (va_Qv (fun u => u = sX7_findSlip w a1 ∧ R7I u ∧ (∀ k : Nat, k ≠ 23 → k ≠ 24 → u k = w k)) (fun u t => va_P D vwCl (RM cI ad u) t.heap) (RA ad)) [Value.ref (ad 0), Value.int a1].toArray s 0 0 (RA ad)) (F0 m 14 ls []) := by
    intro n_14
    induction n_14 with
    | zero =>
      intro x2_14 ls hinv hm
      obtain ⟨v0_14, v1_14⟩ := hinv
      exact absurd hm (by omega)
    | succ n_14 ih_14 =>
      intro x2_14 ls hinv hm_14 hl E
      obtain ⟨v0_14, v1_14⟩ := hinv
      have E := E.trans (sX7_findSlip_14.eq_2 ..)
      refine lv_iload_n hx hb dX7_findSlip_14 rfl (lv_at hl 0 rfl) ?_
      refine lv_aload_n hx hb dX7_findSlip_15 rfl (lv_at hl 1 rfl) ?_
      refine g7_pieces hx hb hts hin hown hK hP (hts (.fieldLink RX7 40 "LoadedForTheLaneModel" "pieces" "[I") (by decide +kernel)) dX7_findSlip_16 ?_
      refine lv_iload_n hx hb dX7_findSlip_19 rfl (lv_at hl 2 rfl) ?_
      have ix_3 : vp_in a1 2 := ix_of (by omega) (by omega)
      refine l7_pieces (j := a1.toNatClampNeg) hx hb hK hP ix_3 rfl dX7_findSlip_20 ?_
      have f_3 := R7I_pieces hI_2 (j := a1.toNatClampNeg) (by have := ix_cl (x := a1) (by omega); omega)
      refine lv_icmp_ge (tgt := 83) hx hb dX7_findSlip_21 (by decide) (fun c_4 => ?_) (fun c_4 => ?_)
      · have E := E.trans (if_pos c_4)
        have fc_4 := i_le c_4
        exact W.vret hx hb hr (fun t ht hW => ⟨⟨wn_2, rfl, ⟨E.symm, hI_2, hk⟩, by show va_P _ _ _ t.heap; rw [ht]; exact hP⟩, hS.F ht⟩) hS.2.2 dX7_findSlip_83
      · have E := E.trans (if_neg c_4)
        have fc_4 := i_nle c_4
        refine lv_aload_n hx hb dX7_findSlip_24 rfl (lv_at hl 1 rfl) ?_
        refine lv_bipush (v := 6) hx hb dX7_findSlip_25 (by decide +kernel) ?_
        refine lv_iload_n hx hb dX7_findSlip_27 rfl (lv_at hl 2 rfl) ?_
        refine lv_imul hx hb dX7_findSlip_28 ?_
        refine lv_iload_n hx hb dX7_findSlip_29 rfl (lv_at hl 0 rfl) ?_
        refine lv_iadd hx hb dX7_findSlip_30 ?_
        have := i_mull (a := 6) (b := a1) (n := 6) q_6 (by omega) (by omega)
        have := i_add (a := 6 * a1) (b := x2_14) (by omega) (by omega)
        refine vp_callSi (va_Run.run (va_runV (As := [.int ((6 * a1) + x2_14)]) (rest := []) ⟨hx, hb, hml, hown, hts⟩ (kX7_fellBits l D cI ad wn_2 ((6 * a1) + x2_14) hI_2 (by omega) (by omega)) (cwV 1 hts gX7_findSlip_X7_fellBits rfl rfl rfl mdX7_fellBits ⟨Nat.le_of_ble_eq_true rfl, Nat.le_of_ble_eq_true rfl⟩) (r7_pre hK hP) rfl rfl hl.1 rfl (lv_room (Nat.le_of_ble_eq_true rfl)) dX7_findSlip_31 ⟨Nat.zero_le _, Nat.zero_le _⟩)) (fun r_5 hr_5 => ?_)
        subst hr_5
        refine lv_istore_n (lv' := [(3, .int (sX7_fellBits wn_2 ((6 * a1) + x2_14))), (2, .int x2_14), (0, .ref (ad 0)), (1, .int a1)]) hx hb dX7_findSlip_34 rfl hl (by decide) rfl (fun ls hl => ?_)
        refine lv_iload_n hx hb dX7_findSlip_35 rfl (lv_at hl 0 rfl) ?_
        refine lv_if_ne (tgt := 42) hx hb dX7_findSlip_36 (by decide) (fun c_6 => ?_) (fun c_6 => ?_)
        · have E := E.trans (if_neg c_6)
          have fc_6 := i_ne c_6
          rw [q_0] at fc_6
          obtain ⟨j0, hj0, hbit⟩ := bit_ex (x := sX7_fellBits wn_2 ((6 * a1) + x2_14)) (by assumption)
          refine lv_aload_n hx hb dX7_findSlip_42 rfl (lv_at hl 2 rfl) ?_
          refine lv_iload_n hx hb dX7_findSlip_43 rfl (lv_at hl 1 rfl) ?_
          refine p7_slipPiece hx hb hts hin hown hK hP hd hS (hts (.fieldLink RX7 205 "LoadedForTheLaneModel" "slipPiece" "I") (by decide +kernel)) dX7_findSlip_44 (fun H locs hP hS => ?_)
          obtain ⟨wn_7, hwn_7⟩ : ∃ x, x = st wn_2 23 0 x2_14 := ⟨_, rfl⟩
          rw [← hwn_7] at hP
          have E := bns_e E hwn_7
          have ft7_layers : (wn_7 11 0).toInt = (wn_2 11 0).toInt := by rw [hwn_7]; rfl
          have ft7_slipLayer : (wn_7 24 0).toInt = (wn_2 24 0).toInt := by rw [hwn_7]; rfl
          have hk := fun (k : Nat) (h1 : k ≠ 23) (h2 : k ≠ 24) => (show wn_7 k = wn_2 k by rw [hwn_7]; exact st_o h1).trans (hk k h1 h2)
          have hI_7 : R7I wn_7 := by rw [hwn_7]; exact R7I_put_slipPiece hI_2
          refine lv_aload_n hx hb dX7_findSlip_47 rfl (lv_at hl 2 rfl) ?_
          refine lv_iconst (v := 0) hx hb dX7_findSlip_48 (by decide) ?_
          refine p7_slipLayer hx hb hts hin hown hK hP hd hS (hts (.fieldLink RX7 208 "LoadedForTheLaneModel" "slipLayer" "I") (by decide +kernel)) dX7_findSlip_49 (fun H locs hP hS => ?_)
          obtain ⟨wn_8, hwn_8⟩ : ∃ x, x = st wn_7 24 0 0 := ⟨_, rfl⟩
          rw [← hwn_8] at hP
          have E := bns_e E hwn_8
          have ft8_layers : (wn_8 11 0).toInt = (wn_7 11 0).toInt := by rw [hwn_8]; rfl
          have ft8_slipLayer : (wn_8 24 0).toInt = (0 : Int32).toInt := by rw [hwn_8]; rfl
          have := q_0
          have hk := fun (k : Nat) (h1 : k ≠ 23) (h2 : k ≠ 24) => (show wn_8 k = wn_7 k by rw [hwn_8]; exact st_o h2).trans (hk k h1 h2)
          have hI_8 : R7I wn_8 := by rw [hwn_8]; exact R7I_put_slipLayer hI_7
          have L_52 : ∀ (n_52 : Nat) (w_52 : Nat → Nat → Int32) (H : Heap) (locs : List Loc) (ls : Array Slot), ((0 ≤ (w_52 24 0).toInt) ∧ ((w_52 24 0).toInt ≤ j0) ∧ (∀ k : Nat, k ≠ 23 → k ≠ 24 → w_52 k = w k)) → ((j0 : Int) - (w_52 24 0).toInt < (n_52 : Int)) → R7I w_52 → va_P D vwCl (RM cI ad w_52) H → va_S (RA ad) s.heap H locs → lv_has ls 4 [(3, .int (sX7_fellBits wn_2 ((6 * a1) + x2_14))), (0, .ref (ad 0))] → sX7_findSlip w a1 = sX7_findSlip_52 a1 wn_2 x2_14 n_52 w_52 → W p l e (headSpec wsX7_findSlip rmX7_findSlip).room s m [Value.ref (ad 0), Value.int a1].toArray below meth c H locs 0 0 (MQ below (va_Qv (fun u => u = sX7_findSlip w a1 ∧ R7I u ∧ (∀ k : Nat, k ≠ 23 → k ≠ 24 → u k = w k)) (fun u t => va_P D vwCl (RM cI ad u) t.heap) (RA ad)) [Value.ref (ad 0), Value.int a1].toArray s 0 0 (RA ad)) (F0 m 52 ls []) := by
            intro n_52
            induction n_52 with
            | zero =>
              intro w_52 H locs ls hinv hm
              obtain ⟨v0_52, v1_52, v2_52⟩ := hinv
              exact absurd hm (by omega)
            | succ n_52 ih_52 =>
              intro w_52 H locs ls hinv hm_52 hI_52 hP hS hl E
              obtain ⟨v0_52, v1_52, v2_52⟩ := hinv
              have E := E.trans (sX7_findSlip_52.eq_2 ..)
              have hk := v2_52
              refine lv_iload_n hx hb dX7_findSlip_52 rfl (lv_at hl 0 rfl) ?_
              refine lv_aload_n hx hb dX7_findSlip_53 rfl (lv_at hl 1 rfl) ?_
              refine g7_slipLayer hx hb hts hin hown hK hP (hts (.fieldLink RX7 208 "LoadedForTheLaneModel" "slipLayer" "I") (by decide +kernel)) dX7_findSlip_54 ?_
              refine lv_ishr hx hb dX7_findSlip_57 ?_
              refine lv_iconst (v := 1) hx hb dX7_findSlip_58 (by decide) ?_
              refine lv_iand hx hb dX7_findSlip_59 ?_
              refine lv_if_ne (tgt := 76) hx hb dX7_findSlip_60 (by decide) (fun c_9 => ?_) (fun c_9 => ?_)
              · have E := E.trans (if_neg c_9)
                have fc_9 := i_ne c_9
                rw [q_0] at fc_9
                exact W.vret hx hb hr (fun t ht hW => ⟨⟨w_52, rfl, ⟨E.symm, hI_52, hk⟩, by show va_P _ _ _ t.heap; rw [ht]; exact hP⟩, hS.F ht⟩) hS.2.2 dX7_findSlip_76
              · have E := E.trans (if_pos c_9)
                have fc_9 := i_eq c_9
                rw [q_0] at fc_9
                have hne : (w_52 24 0).toInt ≠ j0 := fun q => hbit _ q (by assumption)
                refine lv_aload_n hx hb dX7_findSlip_63 rfl (lv_at hl 1 rfl) ?_
                refine lv_dup hx hb dX7_findSlip_64 rfl ?_
                refine g7_slipLayer hx hb hts hin hown hK hP (hts (.fieldLink RX7 208 "LoadedForTheLaneModel" "slipLayer" "I") (by decide +kernel)) dX7_findSlip_65 ?_
                refine lv_iconst (v := 1) hx hb dX7_findSlip_68 (by decide) ?_
                refine lv_iadd hx hb dX7_findSlip_69 ?_
                refine p7_slipLayer hx hb hts hin hown hK hP hd hS (hts (.fieldLink RX7 208 "LoadedForTheLaneModel" "slipLayer" "I") (by decide +kernel)) dX7_findSlip_70 (fun H locs hP hS => ?_)
                obtain ⟨wn_10, hwn_10⟩ : ∃ x, x = st w_52 24 0 ((w_52 24 0) + 1) := ⟨_, rfl⟩
                rw [← hwn_10] at hP
                have E := bns_e E hwn_10
                have ft10_layers : (wn_10 11 0).toInt = (w_52 11 0).toInt := by rw [hwn_10]; rfl
                have ft10_slipLayer : (wn_10 24 0).toInt = ((w_52 24 0) + 1 : Int32).toInt := by rw [hwn_10]; rfl
                have := i_addr (a := w_52 24 0) (b := 1) (n := 1) q_1 (by omega) (by omega)
                have hk := fun (k : Nat) (h1 : k ≠ 23) (h2 : k ≠ 24) => (show wn_10 k = w_52 k by rw [hwn_10]; exact st_o h2).trans (hk k h1 h2)
                have hI_10 : R7I wn_10 := by rw [hwn_10]; exact R7I_put_slipLayer hI_52
                refine lv_goto (tgt := 52) hx hb dX7_findSlip_73 (by decide) ?_
                exact ih_52 wn_10 H locs ls ⟨by omega, by omega, hk⟩ (by omega) hI_10 hP hS (lv_sub hl [0, 1] rfl) E
          exact L_52 33 wn_8 H locs ls ⟨by omega, by omega, hk⟩ (by omega) hI_8 hP hS (lv_sub hl [0, 2] rfl) E
        · have E := E.trans (if_pos c_6)
          have fc_6 := i_eq c_6
          rw [q_0] at fc_6
          refine lv_goto (tgt := 77) hx hb dX7_findSlip_39 (by decide) ?_
          refine lv_iinc (v := x2_14 + 1) (lv' := [(2, .int (x2_14 + 1)), (3, .int (sX7_fellBits wn_2 ((6 * a1) + x2_14))), (0, .ref (ad 0)), (1, .int a1)]) hx hb dX7_findSlip_77 hl (k := 1) rfl rfl (by decide) rfl (fun ls hl => ?_)
          refine lv_goto (tgt := 14) hx hb dX7_findSlip_80 (by decide) ?_
          try have := i_addr (a := x2_14) (b := 1) (n := 1) q_1 (by omega) (by omega)
          exact ih_14 (x2_14 + 1) ls ⟨by omega, by omega⟩ (by omega) (lv_sub hl [0, 2, 3] rfl) E
  have := q_0
  exact L_14 7 0 ls ⟨by omega, by omega⟩ (by omega) (lv_sub hl [0, 1, 2] rfl) E
abbrev rmX7_doesHold : Room := { frames := 6, cells := 0, slots := 0, locals := 138 }
set_option maxHeartbeats 4000000 in
set_option maxRecDepth 100000 in
theorem kX7_doesHold (l : Launch) (D : va_G) (cI : ClassId) (ad : Nat → Nat) (w : Nat → Nat → Int32) (a1 : Int32) (hd : RD ad) (hI : R7I w) (h1 : 0 ≤ a1.toInt) (h2 : a1.toInt < 2) : Met l yX7_doesHold wsX7_doesHold rmX7_doesHold (va_Pc [Value.ref (ad 0), Value.int a1] (fun U => va_P D vwCl (RM cI ad w) U.heap ∧ va_K D vwCl [(cI, .int)] U)) (va_Qi (fun r u => (r, u) = sX7_doesHold w a1 ∧ (r = 0 ∨ r = 1) ∧ R7I u ∧ (∀ k : Nat, k ≠ 23 → k ≠ 24 → u k = w k)) (fun u t => va_P D vwCl (RM cI ad u) t.heap) (RA ad)) 0 0 (RA ad) := by
  refine Met.ofW (cc := cX7_doesHold) (maxL := 2) (ret := (some .boolean)) (by decide) rfl ?_
  intro p e s m args below meth c s₁ B hml hv
  obtain ⟨rfl, hP, hK⟩ := hv
  have hx := B.exec
  have hb := B.bytes
  have hr := B.returns
  have hts := atoms_spec (ws := wsX7_doesHold) B.pre
  have hown : s.vm.findClass RX7 = some m.cls := findClass_of_methodNamed B.named
  have hlocks := B.notSynchronized
  have hin : ∀ q ∈ wsX70, q ∈ wsX7_doesHold := by decide +kernel
  have hk : ∀ k : Nat, k ≠ 23 → k ≠ 24 → w k = w k := fun _ _ _ => rfl
  have hl := lv_entry ([.ref (ad 0), .int a1]) (n := 2) (Nat.le_of_ble_eq_true rfl)
  rw [lg_entry_eq]
  generalize (lg_sl ([.ref (ad 0), .int a1]) ++ List.replicate (2 - (lg_sl ([.ref (ad 0), .int a1])).length) Slot.unset).toArray = ls at hl ⊢
  have hl : lv_has ls 2 [(0, .ref (ad 0)), (1, .int a1)] := hl
  suffices hgo : ∀ (H : Heap) (locs : List Loc), va_P D vwCl (RM cI ad w) H → va_S (RA ad) s.heap H locs → W p l e (headSpec wsX7_doesHold rmX7_doesHold).room s m [Value.ref (ad 0), Value.int a1].toArray below meth c H locs 0 0 (MQ below (va_Qi (fun r u => (r, u) = sX7_doesHold w a1 ∧ (r = 0 ∨ r = 1) ∧ R7I u ∧ (∀ k : Nat, k ≠ 23 → k ≠ 24 → u k = w k)) (fun u t => va_P D vwCl (RM cI ad u) t.heap) (RA ad)) [Value.ref (ad 0), Value.int a1].toArray s 0 0 (RA ad)) (F0 m 0 ls []) from hgo s.heap [] hP va_S.rf
  intro H locs hP hS
  have E := sX7_doesHold.eq_1 w a1
  refine lv_aload_n hx hb dX7_doesHold_0 rfl (lv_at hl 0 rfl) ?_
  refine lv_iload_n hx hb dX7_doesHold_1 rfl (lv_at hl 1 rfl) ?_
  refine va_callv (va_runV (As := [.int a1]) (rest := []) ⟨hx, hb, hml, hown, hts⟩ (kX7_findSlip l D cI ad w a1 hd hI (by omega) (by omega)) (cwV 1 hts gX7_doesHold_X7_findSlip rfl rfl rfl mdX7_findSlip ⟨Nat.le_of_ble_eq_true rfl, Nat.le_of_ble_eq_true rfl⟩) (r7_pre hK hP) rfl rfl hl.1 rfl (lv_room (Nat.le_of_ble_eq_true rfl)) dX7_doesHold_2 ⟨Nat.zero_le _, Nat.zero_le _⟩) hS (fun _ _ h => h) (fun _ h => h) (fun wn_1 t H locs ht hvm hp_1 hB hz hfr hS => ?_)
  have hP : va_P D vwCl (RM cI ad wn_1) H := ht ▸ hB
  obtain ⟨hp_1, hI_1, hq0_1⟩ := hp_1
  have E := bns_e E hp_1
  have hk := fun (k : Nat) (h1 : k ≠ 23) (h2 : k ≠ 24) => (hq0_1 k h1 h2).trans (hk k h1 h2)
  refine lv_aload_n hx hb dX7_doesHold_5 rfl (lv_at hl 0 rfl) ?_
  refine g7_slipPiece hx hb hts hin hown hK hP (hts (.fieldLink RX7 205 "LoadedForTheLaneModel" "slipPiece" "I") (by decide +kernel)) dX7_doesHold_6 ?_
  refine lv_if_ge (tgt := 16) hx hb dX7_doesHold_9 (by decide) (fun c_2 => ?_) (fun c_2 => ?_)
  · have E := E.trans (if_pos c_2)
    have fc_2 := i_le c_2
    rw [q_0] at fc_2
    refine lv_iconst (v := 0) hx hb dX7_doesHold_16 (by decide) ?_
    have := q_0
    exact W.zret (ty := .boolean) (v := 0) hx hb hr (z_nar (Or.inl rfl)) (fun t ht hW => ⟨⟨_, wn_1, rfl, ⟨E.symm, (Or.inl rfl), hI_1, hk⟩, by show va_P _ _ _ t.heap; rw [ht]; exact hP⟩, hS.F ht⟩) hS.2.2 dX7_doesHold_17
  · have E := E.trans (if_neg c_2)
    have fc_2 := i_nle c_2
    rw [q_0] at fc_2
    refine lv_iconst (v := 1) hx hb dX7_doesHold_12 (by decide) ?_
    refine lv_goto (tgt := 17) hx hb dX7_doesHold_13 (by decide) ?_
    have := q_1
    exact W.zret (ty := .boolean) (v := 1) hx hb hr (z_nar (Or.inr rfl)) (fun t ht hW => ⟨⟨_, wn_1, rfl, ⟨E.symm, (Or.inr rfl), hI_1, hk⟩, by show va_P _ _ _ t.heap; rw [ht]; exact hP⟩, hS.F ht⟩) hS.2.2 dX7_doesHold_17
abbrev rmX7_slips : Room := { frames := 6, cells := 0, slots := 0, locals := 138 }
set_option maxHeartbeats 4000000 in
set_option maxRecDepth 100000 in
theorem kX7_slips (l : Launch) (D : va_G) (cI : ClassId) (ad : Nat → Nat) (w : Nat → Nat → Int32) (a1 : Int32) (a2 : Int32) (hd : RD ad) (hI : R7I w)  : Met l yX7_slips wsX7_slips rmX7_slips (va_Pc [Value.ref (ad 0), Value.int a1, Value.int a2] (fun U => va_P D vwCl (RM cI ad w) U.heap ∧ va_K D vwCl [(cI, .int)] U)) (va_Qi (fun r u => (r, u) = sX7_slips w a1 a2 ∧ R7I u) (fun u t => va_P D vwCl (RM cI ad u) t.heap) (RA ad)) 0 0 (RA ad) := by
  refine Met.ofW (cc := cX7_slips) (maxL := 4) (ret := (some .int)) (by decide) rfl ?_
  intro p e s m args below meth c s₁ B hml hv
  obtain ⟨rfl, hP, hK⟩ := hv
  have hx := B.exec
  have hb := B.bytes
  have hr := B.returns
  have hts := atoms_spec (ws := wsX7_slips) B.pre
  have hown : s.vm.findClass RX7 = some m.cls := findClass_of_methodNamed B.named
  have hlocks := B.notSynchronized
  have hin : ∀ q ∈ wsX70, q ∈ wsX7_slips := by decide +kernel
  have hl := lv_entry ([.ref (ad 0), .int a1, .int a2]) (n := 4) (Nat.le_of_ble_eq_true rfl)
  rw [lg_entry_eq]
  generalize (lg_sl ([.ref (ad 0), .int a1, .int a2]) ++ List.replicate (4 - (lg_sl ([.ref (ad 0), .int a1, .int a2])).length) Slot.unset).toArray = ls at hl ⊢
  have hl : lv_has ls 4 [(0, .ref (ad 0)), (1, .int a1), (2, .int a2)] := hl
  suffices hgo : ∀ (H : Heap) (locs : List Loc), va_P D vwCl (RM cI ad w) H → va_S (RA ad) s.heap H locs → W p l e (headSpec wsX7_slips rmX7_slips).room s m [Value.ref (ad 0), Value.int a1, Value.int a2].toArray below meth c H locs 0 0 (MQ below (va_Qi (fun r u => (r, u) = sX7_slips w a1 a2 ∧ R7I u) (fun u t => va_P D vwCl (RM cI ad u) t.heap) (RA ad)) [Value.ref (ad 0), Value.int a1, Value.int a2].toArray s 0 0 (RA ad)) (F0 m 0 ls []) from hgo s.heap [] hP va_S.rf
  intro H locs hP hS
  have E := sX7_slips.eq_1 w a1 a2
  refine lv_iload_n hx hb dX7_slips_0 rfl (lv_at hl 1 rfl) ?_
  refine vp_callSi (va_Run.run (va_runS (As := [.int a1]) (rest := []) ⟨hx, hb, hml, hown, hts⟩ (kX7_isWay l a1) (va_cwS 1 hts gX7_slips_X7_isWay rfl rfl rfl mdX7_isWay ⟨Nat.le_of_ble_eq_true rfl, Nat.le_of_ble_eq_true rfl⟩) s_pre rfl rfl hl.1 rfl (lv_room (Nat.le_of_ble_eq_true rfl)) dX7_slips_1 ⟨Nat.zero_le _, Nat.zero_le _⟩)) (fun r_1 hr_1 => ?_)
  obtain ⟨rfl, hz_1⟩ := hr_1
  refine lv_if_ne (tgt := 11) hx hb dX7_slips_4 (by decide) (fun c_2 => ?_) (fun c_2 => ?_)
  · have E := E.trans (if_neg c_2)
    have fc_2 := i_ne c_2
    rw [q_0] at fc_2
    have gc_2 := fX7_isWay c_2
    refine lv_iload_n hx hb dX7_slips_11 rfl (lv_at hl 2 rfl) ?_
    refine lv_iconst (v := 0) hx hb dX7_slips_12 (by decide) ?_
    refine lv_iconst (v := 1) hx hb dX7_slips_13 (by decide) ?_
    refine vp_callSi (va_Run.run (va_runS (As := [.int a2, .int 0, .int 1]) (rest := []) ⟨hx, hb, hml, hown, hts⟩ (kX7_isIn l a2 0 1) (va_cwS 3 hts gX7_slips_X7_isIn rfl rfl rfl mdX7_isIn ⟨Nat.le_of_ble_eq_true rfl, Nat.le_of_ble_eq_true rfl⟩) s_pre rfl rfl hl.1 rfl (lv_room (Nat.le_of_ble_eq_true rfl)) dX7_slips_14 ⟨Nat.zero_le _, Nat.zero_le _⟩)) (fun r_3 hr_3 => ?_)
    obtain ⟨rfl, hz_3⟩ := hr_3
    refine lv_if_ne (tgt := 25) hx hb dX7_slips_17 (by decide) (fun c_4 => ?_) (fun c_4 => ?_)
    · have E := E.trans (if_neg c_4)
      have fc_4 := i_ne c_4
      rw [q_0] at fc_4
      have gc_4 := fX7_isIn c_4
      have := q_0
      have := q_1
      refine lv_iconst (v := 0) hx hb dX7_slips_25 (by decide) ?_
      refine lv_istore_n (lv' := [(3, .int 0), (0, .ref (ad 0)), (1, .int a1), (2, .int a2)]) hx hb dX7_slips_26 rfl hl (by decide) rfl (fun ls hl => ?_)
      refine lv_iload_n hx hb dX7_slips_27 rfl (lv_at hl 0 rfl) ?_
      refine lv_if_eq (tgt := 37) hx hb dX7_slips_28 (by decide) (fun _ => ?_) (fun z => absurd z (by decide))
      refine lv_aload_n hx hb dX7_slips_37 rfl (lv_at hl 1 rfl) ?_
      refine lv_iload_n hx hb dX7_slips_38 rfl (lv_at hl 2 rfl) ?_
      refine va_callv (va_runV (As := [.int a1]) (rest := []) ⟨hx, hb, hml, hown, hts⟩ (kX7_findSlip l D cI ad w a1 hd hI (by omega) (by omega)) (cwV 1 hts gX7_slips_X7_findSlip rfl rfl rfl mdX7_findSlip ⟨Nat.le_of_ble_eq_true rfl, Nat.le_of_ble_eq_true rfl⟩) (r7_pre hK hP) rfl rfl hl.1 rfl (lv_room (Nat.le_of_ble_eq_true rfl)) dX7_slips_39 ⟨Nat.zero_le _, Nat.zero_le _⟩) hS (fun _ _ h => h) (fun _ h => h) (fun wn_5 t H locs ht hvm hp_5 hB hz hfr hS => ?_)
      have hP : va_P D vwCl (RM cI ad wn_5) H := ht ▸ hB
      obtain ⟨hp_5, hI_5, hq0_5⟩ := hp_5
      have E := bns_e E hp_5
      refine lv_iload_n hx hb dX7_slips_42 rfl (lv_at hl 3 rfl) ?_
      refine lv_if_ne (tgt := 53) hx hb dX7_slips_43 (by decide) (fun c_6 => ?_) (fun c_6 => ?_)
      · have E := E.trans (if_neg c_6)
        have fc_6 := i_ne c_6
        rw [q_0] at fc_6
        refine lv_aload_n hx hb dX7_slips_53 rfl (lv_at hl 1 rfl) ?_
        refine g7_slipLayer hx hb hts hin hown hK hP (hts (.fieldLink RX7 208 "LoadedForTheLaneModel" "slipLayer" "I") (by decide +kernel)) dX7_slips_54 ?_
        exact W.iret (v := wn_5 24 0) hx hb hr (fun t ht hW => ⟨⟨_, wn_5, rfl, ⟨E.symm, hI_5⟩, by show va_P _ _ _ t.heap; rw [ht]; exact hP⟩, hS.F ht⟩) hS.2.2 dX7_slips_57
      · have E := E.trans (if_pos c_6)
        have fc_6 := i_eq c_6
        rw [q_0] at fc_6
        refine lv_aload_n hx hb dX7_slips_46 rfl (lv_at hl 1 rfl) ?_
        refine g7_slipPiece hx hb hts hin hown hK hP (hts (.fieldLink RX7 205 "LoadedForTheLaneModel" "slipPiece" "I") (by decide +kernel)) dX7_slips_47 ?_
        refine lv_goto (tgt := 57) hx hb dX7_slips_50 (by decide) ?_
        exact W.iret (v := wn_5 23 0) hx hb hr (fun t ht hW => ⟨⟨_, wn_5, rfl, ⟨E.symm, hI_5⟩, by show va_P _ _ _ t.heap; rw [ht]; exact hP⟩, hS.F ht⟩) hS.2.2 dX7_slips_57
    · have E := E.trans (if_pos c_4)
      have fc_4 := i_eq c_4
      rw [q_0] at fc_4
      refine lv_bipush (v := (-2)) hx hb dX7_slips_20 (by decide +kernel) ?_
      refine lv_goto (tgt := 26) hx hb dX7_slips_22 (by decide) ?_
      refine lv_istore_n (lv' := [(3, .int (-2)), (0, .ref (ad 0)), (1, .int a1), (2, .int a2)]) hx hb dX7_slips_26 rfl hl (by decide) rfl (fun ls hl => ?_)
      refine lv_iload_n hx hb dX7_slips_27 rfl (lv_at hl 0 rfl) ?_
      refine lv_if_eq (tgt := 37) hx hb dX7_slips_28 (by decide) (fun z => absurd z (by decide)) (fun _ => ?_)
      refine lv_aload_n hx hb dX7_slips_31 rfl (lv_at hl 1 rfl) ?_
      refine lv_iload_n hx hb dX7_slips_32 rfl (lv_at hl 0 rfl) ?_
      have := q_m2
      refine va_calli (va_runV (As := [.int (-2)]) (rest := []) ⟨hx, hb, hml, hown, hts⟩ (kX7_no l D cI ad w (-2) hd hI (by omega) (by omega)) (cwV 1 hts gX7_slips_X7_no rfl rfl rfl mdX7_no ⟨Nat.le_of_ble_eq_true rfl, Nat.le_of_ble_eq_true rfl⟩) (r7_pre hK hP) rfl rfl hl.1 rfl (lv_room (Nat.le_of_ble_eq_true rfl)) dX7_slips_33 ⟨Nat.zero_le _, Nat.zero_le _⟩) hS (fun _ _ h => h) (fun _ h => h) (fun rn_7 wn_7 t H locs ht hvm hp_7 hB hz hfr hS => ?_)
      have hP : va_P D vwCl (RM cI ad wn_7) H := ht ▸ hB
      obtain ⟨hp_7, hI_7⟩ := hp_7
      have E := bnd_e E hp_7
      exact W.iret (v := rn_7) hx hb hr (fun t ht hW => ⟨⟨_, wn_7, rfl, ⟨E.symm, hI_7⟩, by show va_P _ _ _ t.heap; rw [ht]; exact hP⟩, hS.F ht⟩) hS.2.2 dX7_slips_36
  · have E := E.trans (if_pos c_2)
    have fc_2 := i_eq c_2
    rw [q_0] at fc_2
    refine lv_iconst (v := (-1)) hx hb dX7_slips_7 (by decide) ?_
    refine lv_goto (tgt := 26) hx hb dX7_slips_8 (by decide) ?_
    refine lv_istore_n (lv' := [(3, .int (-1)), (0, .ref (ad 0)), (1, .int a1), (2, .int a2)]) hx hb dX7_slips_26 rfl hl (by decide) rfl (fun ls hl => ?_)
    refine lv_iload_n hx hb dX7_slips_27 rfl (lv_at hl 0 rfl) ?_
    refine lv_if_eq (tgt := 37) hx hb dX7_slips_28 (by decide) (fun z => absurd z (by decide)) (fun _ => ?_)
    refine lv_aload_n hx hb dX7_slips_31 rfl (lv_at hl 1 rfl) ?_
    refine lv_iload_n hx hb dX7_slips_32 rfl (lv_at hl 0 rfl) ?_
    have := q_m1
    refine va_calli (va_runV (As := [.int (-1)]) (rest := []) ⟨hx, hb, hml, hown, hts⟩ (kX7_no l D cI ad w (-1) hd hI (by omega) (by omega)) (cwV 1 hts gX7_slips_X7_no rfl rfl rfl mdX7_no ⟨Nat.le_of_ble_eq_true rfl, Nat.le_of_ble_eq_true rfl⟩) (r7_pre hK hP) rfl rfl hl.1 rfl (lv_room (Nat.le_of_ble_eq_true rfl)) dX7_slips_33 ⟨Nat.zero_le _, Nat.zero_le _⟩) hS (fun _ _ h => h) (fun _ h => h) (fun rn_8 wn_8 t H locs ht hvm hp_8 hB hz hfr hS => ?_)
    have hP : va_P D vwCl (RM cI ad wn_8) H := ht ▸ hB
    obtain ⟨hp_8, hI_8⟩ := hp_8
    have E := bnd_e E hp_8
    exact W.iret (v := rn_8) hx hb hr (fun t ht hW => ⟨⟨_, wn_8, rfl, ⟨E.symm, hI_8⟩, by show va_P _ _ _ t.heap; rw [ht]; exact hP⟩, hS.F ht⟩) hS.2.2 dX7_slips_36
abbrev rmX7_margin : Room := { frames := 5, cells := 0, slots := 0, locals := 116 }
set_option maxHeartbeats 4000000 in
set_option maxRecDepth 100000 in
theorem kX7_margin (l : Launch) (D : va_G) (cI : ClassId) (ad : Nat → Nat) (w : Nat → Nat → Int32) (a1 : Int32) (hd : RD ad) (hI : R7I w)  : Met l yX7_margin wsX7_margin rmX7_margin (va_Pc [Value.ref (ad 0), Value.int a1] (fun U => va_P D vwCl (RM cI ad w) U.heap ∧ va_K D vwCl [(cI, .int)] U)) (va_Qi (fun r u => (r, u) = sX7_margin w a1) (fun u t => va_P D vwCl (RM cI ad u) t.heap) (RA ad)) 0 0 (RA ad) := by
  refine Met.ofW (cc := cX7_margin) (maxL := 2) (ret := (some .int)) (by decide) rfl ?_
  intro p e s m args below meth c s₁ B hml hv
  obtain ⟨rfl, hP, hK⟩ := hv
  have hx := B.exec
  have hb := B.bytes
  have hr := B.returns
  have hts := atoms_spec (ws := wsX7_margin) B.pre
  have hown : s.vm.findClass RX7 = some m.cls := findClass_of_methodNamed B.named
  have hlocks := B.notSynchronized
  have hin : ∀ q ∈ wsX70, q ∈ wsX7_margin := by decide +kernel
  have hl := lv_entry ([.ref (ad 0), .int a1]) (n := 2) (Nat.le_of_ble_eq_true rfl)
  rw [lg_entry_eq]
  generalize (lg_sl ([.ref (ad 0), .int a1]) ++ List.replicate (2 - (lg_sl ([.ref (ad 0), .int a1])).length) Slot.unset).toArray = ls at hl ⊢
  have hl : lv_has ls 2 [(0, .ref (ad 0)), (1, .int a1)] := hl
  suffices hgo : ∀ (H : Heap) (locs : List Loc), va_P D vwCl (RM cI ad w) H → va_S (RA ad) s.heap H locs → W p l e (headSpec wsX7_margin rmX7_margin).room s m [Value.ref (ad 0), Value.int a1].toArray below meth c H locs 0 0 (MQ below (va_Qi (fun r u => (r, u) = sX7_margin w a1) (fun u t => va_P D vwCl (RM cI ad u) t.heap) (RA ad)) [Value.ref (ad 0), Value.int a1].toArray s 0 0 (RA ad)) (F0 m 0 ls []) from hgo s.heap [] hP va_S.rf
  intro H locs hP hS
  have E := sX7_margin.eq_1 w a1
  refine lv_iload_n hx hb dX7_margin_0 rfl (lv_at hl 1 rfl) ?_
  refine vp_callSi (va_Run.run (va_runS (As := [.int a1]) (rest := []) ⟨hx, hb, hml, hown, hts⟩ (kX7_isWay l a1) (va_cwS 1 hts gX7_margin_X7_isWay rfl rfl rfl mdX7_isWay ⟨Nat.le_of_ble_eq_true rfl, Nat.le_of_ble_eq_true rfl⟩) s_pre rfl rfl hl.1 rfl (lv_room (Nat.le_of_ble_eq_true rfl)) dX7_margin_1 ⟨Nat.zero_le _, Nat.zero_le _⟩)) (fun r_1 hr_1 => ?_)
  obtain ⟨rfl, hz_1⟩ := hr_1
  refine lv_if_eq (tgt := 15) hx hb dX7_margin_4 (by decide) (fun c_2 => ?_) (fun c_2 => ?_)
  · have E := E.trans (if_pos c_2)
    have fc_2 := i_eq c_2
    rw [q_0] at fc_2
    refine lv_aload_n hx hb dX7_margin_15 rfl (lv_at hl 0 rfl) ?_
    refine lv_iconst (v := (-1)) hx hb dX7_margin_16 (by decide) ?_
    have := q_m1
    refine va_calli (va_runV (As := [.int (-1)]) (rest := []) ⟨hx, hb, hml, hown, hts⟩ (kX7_lower l D cI ad w (-1) hd hI (by omega) (by omega)) (cwV 1 hts gX7_margin_X7_lower rfl rfl rfl mdX7_lower ⟨Nat.le_of_ble_eq_true rfl, Nat.le_of_ble_eq_true rfl⟩) (r7_pre hK hP) rfl rfl hl.1 rfl (lv_room (Nat.le_of_ble_eq_true rfl)) dX7_margin_17 ⟨Nat.zero_le _, Nat.zero_le _⟩) hS (fun _ _ h => h) (fun _ h => h) (fun rn_3 wn_3 t H locs ht hvm hp_3 hB hz hfr hS => ?_)
    have hP : va_P D vwCl (RM cI ad wn_3) H := ht ▸ hB
    obtain ⟨hp_3, hI_3⟩ := hp_3
    have E := bnd_e E hp_3
    exact W.iret (v := rn_3) hx hb hr (fun t ht hW => ⟨⟨_, wn_3, rfl, E.symm, by show va_P _ _ _ t.heap; rw [ht]; exact hP⟩, hS.F ht⟩) hS.2.2 dX7_margin_20
  · have E := E.trans (if_neg c_2)
    have fc_2 := i_ne c_2
    rw [q_0] at fc_2
    have gc_2 := fX7_isWay c_2
    refine lv_aload_n hx hb dX7_margin_7 rfl (lv_at hl 0 rfl) ?_
    refine lv_iload_n hx hb dX7_margin_8 rfl (lv_at hl 1 rfl) ?_
    refine vp_callSi (va_Run.run (va_runV (As := [.int a1]) (rest := []) ⟨hx, hb, hml, hown, hts⟩ (kX7_marginOf l D cI ad w a1 hI (by omega) (by omega)) (cwV 1 hts gX7_margin_X7_marginOf rfl rfl rfl mdX7_marginOf ⟨Nat.le_of_ble_eq_true rfl, Nat.le_of_ble_eq_true rfl⟩) (r7_pre hK hP) rfl rfl hl.1 rfl (lv_room (Nat.le_of_ble_eq_true rfl)) dX7_margin_9 ⟨Nat.zero_le _, Nat.zero_le _⟩)) (fun r_4 hr_4 => ?_)
    subst hr_4
    refine lv_goto (tgt := 20) hx hb dX7_margin_12 (by decide) ?_
    exact W.iret (v := (sX7_marginOf w a1)) hx hb hr (fun t ht hW => ⟨⟨_, w, rfl, E.symm, by show va_P _ _ _ t.heap; rw [ht]; exact hP⟩, hS.F ht⟩) hS.2.2 dX7_margin_20
