abbrev rmX4_bear : Room := { frames := 0, cells := 0, slots := 0, locals := 0 }
set_option maxHeartbeats 4000000 in
set_option maxRecDepth 100000 in
theorem kX4_bear (l : Launch) (D : va_G) (cI cC cQ : ClassId) (ad : Nat → Nat) (w : Nat → Nat → Int32) (a1 : Int32) (hd : WGD ad) (hI : R4I w)  : Met l yX4_bear wsX4_bear rmX4_bear (va_Pc [Value.ref (ad 0), Value.int a1] (fun U => va_P D vwCl (WG cI cQ ad w) U.heap ∧ va_K D vwCl [(cI, .int), (cC, .char), (cQ, .object "LoadedForTheLane$Way")] U ∧ NW U)) (va_Qv (fun u => u = sX4_bear w a1 ∧ R4I u ∧ ((u 6 0).toInt = (w 6 0).toInt)) (fun u t => va_P D vwCl (WG cI cQ ad u) t.heap) (WGA ad)) 0 0 (WGA ad) := by
  refine Met.ofW (cc := cX4_bear) (maxL := 3) (ret := none) (by decide) rfl ?_
  intro p e s m args below meth c s₁ B hml hv
  obtain ⟨rfl, hP, hK, hN⟩ := hv
  have hx := B.exec
  have hb := B.bytes
  have hr := B.returns
  have hts := atoms_spec (ws := wsX4_bear) B.pre
  have hown : s.vm.findClass RX4 = some m.cls := findClass_of_methodNamed B.named
  have hlocks := B.notSynchronized
  have hin4 : ∀ q ∈ wsX40, q ∈ wsX4_bear := by decide +kernel
  have hl := lv_entry ([.ref (ad 0), .int a1]) (n := 3) (Nat.le_of_ble_eq_true rfl)
  rw [lg_entry_eq]
  generalize (lg_sl ([.ref (ad 0), .int a1]) ++ List.replicate (3 - (lg_sl ([.ref (ad 0), .int a1])).length) Slot.unset).toArray = ls at hl ⊢
  have hl : lv_has ls 3 [(0, .ref (ad 0)), (1, .int a1)] := hl
  suffices hgo : ∀ (H : Heap) (locs : List Loc), va_P D vwCl (WG cI cQ ad w) H → va_S (WGA ad) s.heap H locs → W p l e (headSpec wsX4_bear rmX4_bear).room s m [Value.ref (ad 0), Value.int a1].toArray below meth c H locs 0 0 (MQ below (va_Qv (fun u => u = sX4_bear w a1 ∧ R4I u ∧ ((u 6 0).toInt = (w 6 0).toInt)) (fun u t => va_P D vwCl (WG cI cQ ad u) t.heap) (WGA ad)) [Value.ref (ad 0), Value.int a1].toArray s 0 0 (WGA ad)) (F0 m 0 ls []) from hgo s.heap [] hP va_S.rf
  intro H locs hP hS
  have E := sX4_bear.eq_1 w a1
  refine lv_iconst (v := 0) hx hb dX4_bear_0 (by decide) ?_
  refine lv_istore_n (lv' := [(2, .int 0), (0, .ref (ad 0)), (1, .int a1)]) hx hb dX4_bear_1 rfl hl (by decide) rfl (fun ls hl => ?_)
  have L_2 : ∀ (n_2 : Nat) (x2_2 : Int32) (w_2 : Nat → Nat → Int32) (H : Heap) (locs : List Loc) (ls : Array Slot), ((0 ≤ x2_2.toInt) ∧ (x2_2.toInt ≤ 12) ∧ ((w_2 6 0).toInt = (w 6 0).toInt)) → (12 - x2_2.toInt < (n_2 : Int)) → R4I w_2 → va_P D vwCl (WG cI cQ ad w_2) H → va_S (WGA ad) s.heap H locs → lv_has ls 3 [(2, .int x2_2), (0, .ref (ad 0)), (1, .int a1)] → sX4_bear w a1 = sX4_bear_2 a1 n_2 x2_2 w_2 → W p l e (headSpec wsX4_bear rmX4_bear).room s m [Value.ref (ad 0), Value.int a1].toArray below meth c H locs 0 0 (MQ below (va_Qv (fun u => u = sX4_bear w a1 ∧ R4I u ∧ ((u 6 0).toInt = (w 6 0).toInt)) (fun u t => va_P D vwCl (WG cI cQ ad u) t.heap) (WGA ad)) [Value.ref (ad 0), Value.int a1].toArray s 0 0 (WGA ad)) (F0 m 2 ls []) := by
    intro n_2
    induction n_2 with
    | zero =>
      intro x2_2 w_2 H locs ls hinv hm
      obtain ⟨v0_2, v1_2, v2_2⟩ := hinv
      exact absurd hm (by omega)
    | succ n_2 ih_2 =>
      intro x2_2 w_2 H locs ls hinv hm_2 hI_2 hP hS hl E
      obtain ⟨v0_2, v1_2, v2_2⟩ := hinv
      have E := E.trans (sX4_bear_2.eq_2 ..)
      refine lv_iload_n hx hb dX4_bear_2 rfl (lv_at hl 0 rfl) ?_
      refine lv_aload_n hx hb dX4_bear_3 rfl (lv_at hl 1 rfl) ?_
      refine g4_layers hx hb hts hin4 hown hK hP (hts (.fieldLink RX4 30 "LoadedForTheLane$Wagon" "layers" "I") (by decide +kernel)) dX4_bear_4 ?_
      have f_1 := R4I_layers hI_2
      refine lv_icmp_ge (tgt := 26) hx hb dX4_bear_7 (by decide) (fun c_2 => ?_) (fun c_2 => ?_)
      · have E := E.trans (if_pos c_2)
        have fc_2 := i_le c_2
        exact W.vret hx hb hr (fun t ht hW => ⟨⟨w_2, rfl, ⟨E.symm, hI_2, by omega⟩, by show va_P _ _ _ t.heap; rw [ht]; exact hP⟩, hS.F ht⟩) hS.2.2 dX4_bear_26
      · have E := E.trans (if_neg c_2)
        have fc_2 := i_nle c_2
        refine lv_aload_n hx hb dX4_bear_10 rfl (lv_at hl 1 rfl) ?_
        refine g4_loads hx hb hts hin4 hown hK hP (hts (.fieldLink RX4 27 "LoadedForTheLane$Wagon" "loads" "[I") (by decide +kernel)) dX4_bear_11 ?_
        refine lv_iload_n hx hb dX4_bear_14 rfl (lv_at hl 0 rfl) ?_
        refine lv_dup2_11 hx hb dX4_bear_15 rfl rfl ?_
        have ix_3 : vp_in x2_2 12 := ix_of (by omega) (by omega)
        refine l4_loads (j := (x2_2.toNatClampNeg)) hx hb hK hP ix_3 rfl dX4_bear_16 ?_
        refine lv_iload_n hx hb dX4_bear_17 rfl (lv_at hl 2 rfl) ?_
        refine lv_iadd hx hb dX4_bear_18 ?_
        have ix_4 : vp_in x2_2 12 := ix_of (by omega) (by omega)
        refine a4_loads (j := (x2_2.toNatClampNeg)) hx hb hK hP (WGDa hd) hS ix_4 rfl dX4_bear_19 (fun H locs hP hS => ?_)
        obtain ⟨wn_4, hwn_4⟩ : ∃ x, x = st w_2 5 (x2_2.toNatClampNeg) ((w_2 5 (x2_2.toNatClampNeg)) + a1) := ⟨_, rfl⟩
        rw [← hwn_4] at hP
        have E := bns_e E hwn_4
        have ft4_layers : (wn_4 6 0).toInt = (w_2 6 0).toInt := by rw [hwn_4]; rfl
        have hI_4 : R4I wn_4 := by rw [hwn_4]; exact R4I_arr hI_2 (by decide)
        refine lv_iinc (v := x2_2 + 1) (lv' := [(2, .int (x2_2 + 1)), (0, .ref (ad 0)), (1, .int a1)]) hx hb dX4_bear_20 hl (k := 0) rfl rfl (by decide) rfl (fun ls hl => ?_)
        refine lv_goto (tgt := 2) hx hb dX4_bear_23 (by decide) ?_
        try have := i_addr (a := x2_2) (b := 1) (n := 1) q_1 (by omega) (by omega)
        exact ih_2 (x2_2 + 1) wn_4 H locs ls ⟨by omega, by omega, by omega⟩ (by omega) hI_4 hP hS (lv_sub hl [0, 1, 2] rfl) E
  have := q_0
  exact L_2 13 0 w H locs ls ⟨by omega, by omega, by omega⟩ (by omega) hI hP hS (lv_sub hl [0, 1, 2] rfl) E
abbrev rmX4_takeTop : Room := { frames := 2, cells := 0, slots := 0, locals := 42 }
set_option maxHeartbeats 4000000 in
set_option maxRecDepth 100000 in
theorem kX4_takeTop (l : Launch) (D : va_G) (cI cC cQ : ClassId) (ad : Nat → Nat) (w : Nat → Nat → Int32) (hd : WGD ad) (hI : R4I w)  : Met l yX4_takeTop wsX4_takeTop rmX4_takeTop (va_Pc [Value.ref (ad 0)] (fun U => va_P D vwCl (WG cI cQ ad w) U.heap ∧ va_K D vwCl [(cI, .int), (cC, .char), (cQ, .object "LoadedForTheLane$Way")] U ∧ NW U)) (va_Qi (fun r u => (r, u) = sX4_takeTop w ∧ (r = 0 ∨ r = 1) ∧ R4I u) (fun u t => va_P D vwCl (WG cI cQ ad u) t.heap) (WGA ad)) 0 0 (WGA ad) := by
  refine Met.ofW (cc := cX4_takeTop) (maxL := 1) (ret := (some .boolean)) (by decide) rfl ?_
  intro p e s m args below meth c s₁ B hml hv
  obtain ⟨rfl, hP, hK, hN⟩ := hv
  have hx := B.exec
  have hb := B.bytes
  have hr := B.returns
  have hts := atoms_spec (ws := wsX4_takeTop) B.pre
  have hown : s.vm.findClass RX4 = some m.cls := findClass_of_methodNamed B.named
  have hlocks := B.notSynchronized
  have hin4 : ∀ q ∈ wsX40, q ∈ wsX4_takeTop := by decide +kernel
  have hl := lv_entry ([.ref (ad 0)]) (n := 1) (Nat.le_of_ble_eq_true rfl)
  rw [lg_entry_eq]
  generalize (lg_sl ([.ref (ad 0)]) ++ List.replicate (1 - (lg_sl ([.ref (ad 0)])).length) Slot.unset).toArray = ls at hl ⊢
  have hl : lv_has ls 1 [(0, .ref (ad 0))] := hl
  suffices hgo : ∀ (H : Heap) (locs : List Loc), va_P D vwCl (WG cI cQ ad w) H → va_S (WGA ad) s.heap H locs → W p l e (headSpec wsX4_takeTop rmX4_takeTop).room s m [Value.ref (ad 0)].toArray below meth c H locs 0 0 (MQ below (va_Qi (fun r u => (r, u) = sX4_takeTop w ∧ (r = 0 ∨ r = 1) ∧ R4I u) (fun u t => va_P D vwCl (WG cI cQ ad u) t.heap) (WGA ad)) [Value.ref (ad 0)].toArray s 0 0 (WGA ad)) (F0 m 0 ls []) from hgo s.heap [] hP va_S.rf
  intro H locs hP hS
  have E := sX4_takeTop.eq_1 w
  refine lv_aload_n hx hb dX4_takeTop_0 rfl (lv_at hl 0 rfl) ?_
  refine g4_layers hx hb hts hin4 hown hK hP (hts (.fieldLink RX4 30 "LoadedForTheLane$Wagon" "layers" "I") (by decide +kernel)) dX4_takeTop_1 ?_
  have f_1 := R4I_layers hI
  refine lv_if_ne (tgt := 9) hx hb dX4_takeTop_4 (by decide) (fun c_2 => ?_) (fun c_2 => ?_)
  · have E := E.trans (if_neg c_2)
    have fc_2 := i_ne c_2
    rw [q_0] at fc_2
    refine lv_aload_n hx hb dX4_takeTop_9 rfl (lv_at hl 0 rfl) ?_
    refine lv_aload_n hx hb dX4_takeTop_10 rfl (lv_at hl 0 rfl) ?_
    refine lv_aload_n hx hb dX4_takeTop_11 rfl (lv_at hl 0 rfl) ?_
    refine g4_layers hx hb hts hin4 hown hK hP (hts (.fieldLink RX4 30 "LoadedForTheLane$Wagon" "layers" "I") (by decide +kernel)) dX4_takeTop_12 ?_
    have f_3 := R4I_layers hI
    refine lv_iconst (v := 1) hx hb dX4_takeTop_15 (by decide) ?_
    refine lv_isub hx hb dX4_takeTop_16 ?_
    have := i_subr (a := w 6 0) (b := 1) (n := 1) q_1 (by omega) (by omega)
    refine vp_callSi (va_Run.run (va_runV (As := [.int ((w 6 0) - 1)]) (rest := [.ref (ad 0)]) ⟨hx, hb, hml, hown, hts⟩ (kX4_weightOf l D cI cC cQ ad w ((w 6 0) - 1) (by omega) (by omega)) (cwV 1 hts gX4_takeTop_X4_weightOf rfl rfl rfl mdX4_weightOf ⟨Nat.le_of_ble_eq_true rfl, Nat.le_of_ble_eq_true rfl⟩) (x4_pre hK hP hN) rfl rfl hl.1 rfl (lv_room (Nat.le_of_ble_eq_true rfl)) dX4_takeTop_17 ⟨Nat.zero_le _, Nat.zero_le _⟩)) (fun rn_4 hr_4 => ?_)
    subst hr_4
    refine lv_ineg hx hb dX4_takeTop_20 ?_
    refine va_callv (va_runV (As := [.int (-(sX4_weightOf w ((w 6 0) - 1)))]) (rest := []) ⟨hx, hb, hml, hown, hts⟩ (kX4_bear l D cI cC cQ ad w (-(sX4_weightOf w ((w 6 0) - 1))) hd hI) (cwV 1 hts gX4_takeTop_X4_bear rfl rfl rfl mdX4_bear ⟨Nat.le_of_ble_eq_true rfl, Nat.le_of_ble_eq_true rfl⟩) (x4_pre hK hP hN) rfl rfl hl.1 rfl (lv_room (Nat.le_of_ble_eq_true rfl)) dX4_takeTop_21 ⟨Nat.zero_le _, Nat.zero_le _⟩) hS (fun _ _ h => h) (fun _ h => h) (fun wn_5 t H locs ht hvm hp_5 hB hz hfr hS => ?_)
    obtain ⟨hp_5, hJ_5, hq0_5⟩ := hp_5
    have E := bns_e E hp_5
    have hP : va_P D vwCl (WG cI cQ ad wn_5) H := ht ▸ hB
    refine lv_aload_n hx hb dX4_takeTop_24 rfl (lv_at hl 0 rfl) ?_
    refine lv_dup hx hb dX4_takeTop_25 rfl ?_
    refine g4_layers hx hb hts hin4 hown hK hP (hts (.fieldLink RX4 30 "LoadedForTheLane$Wagon" "layers" "I") (by decide +kernel)) dX4_takeTop_26 ?_
    have f_6 := R4I_layers hJ_5
    refine lv_iconst (v := 1) hx hb dX4_takeTop_29 (by decide) ?_
    refine lv_isub hx hb dX4_takeTop_30 ?_
    refine p4_layers hx hb hts hin4 hown hK hP (WGDa hd) hS (hts (.fieldLink RX4 30 "LoadedForTheLane$Wagon" "layers" "I") (by decide +kernel)) dX4_takeTop_31 (fun H locs hP hS => ?_)
    obtain ⟨wn_7, hwn_7⟩ : ∃ x, x = st wn_5 6 0 ((wn_5 6 0) - 1) := ⟨_, rfl⟩
    rw [← hwn_7] at hP
    have E := bns_e E hwn_7
    have ft7_layers : (wn_7 6 0).toInt = ((wn_5 6 0) - 1).toInt := by rw [hwn_7]; rfl
    have := i_subr (a := wn_5 6 0) (b := 1) (n := 1) q_1 (by omega) (by omega)
    have := i_subr (a := wn_5 6 0) (b := 1) (n := 1) q_1 (by omega) (by omega)
    have hI_7 : R4I wn_7 := by rw [hwn_7]; exact R4I_put hJ_5 (by omega) (by omega)
    refine lv_iconst (v := 1) hx hb dX4_takeTop_34 (by decide) ?_
    exact W.zret (ty := .boolean) (v := 1) hx hb hr (z_nar (Or.inr rfl)) (fun t ht hW => ⟨⟨_, wn_7, rfl, ⟨E.symm, (Or.inr rfl), hI_7⟩, by show va_P _ _ _ t.heap; rw [ht]; exact hP⟩, hS.F ht⟩) hS.2.2 dX4_takeTop_35
  · have E := E.trans (if_pos c_2)
    have fc_2 := i_eq c_2
    rw [q_0] at fc_2
    refine lv_iconst (v := 0) hx hb dX4_takeTop_7 (by decide) ?_
    exact W.zret (ty := .boolean) (v := 0) hx hb hr (z_nar (Or.inl rfl)) (fun t ht hW => ⟨⟨_, w, rfl, ⟨E.symm, (Or.inl rfl), hI⟩, by show va_P _ _ _ t.heap; rw [ht]; exact hP⟩, hS.F ht⟩) hS.2.2 dX4_takeTop_8
abbrev rmX4_lay : Room := { frames := 2, cells := 0, slots := 0, locals := 42 }
set_option maxHeartbeats 4000000 in
set_option maxRecDepth 100000 in
theorem kX4_lay (l : Launch) (D : va_G) (cI cC cQ : ClassId) (ad : Nat → Nat) (w : Nat → Nat → Int32) (a1 : Int32) (a2 : Int32) (a3 : Int32) (a4 : Int32) (hd : WGD ad) (hI : R4I w)  : Met l yX4_lay wsX4_lay rmX4_lay (va_Pc [Value.ref (ad 0), Value.int a1, Value.int a2, Value.int a3, Value.int a4] (fun U => va_P D vwCl (WG cI cQ ad w) U.heap ∧ va_K D vwCl [(cI, .int), (cC, .char), (cQ, .object "LoadedForTheLane$Way")] U ∧ NW U)) (va_Qi (fun r u => (r, u) = sX4_lay w a1 a2 a3 a4 ∧ (r = 0 ∨ r = 1) ∧ R4I u) (fun u t => va_P D vwCl (WG cI cQ ad u) t.heap) (WGA ad)) 0 0 (WGA ad) := by
  refine Met.ofW (cc := cX4_lay) (maxL := 5) (ret := (some .boolean)) (by decide) rfl ?_
  intro p e s m args below meth c s₁ B hml hv
  obtain ⟨rfl, hP, hK, hN⟩ := hv
  have hx := B.exec
  have hb := B.bytes
  have hr := B.returns
  have hts := atoms_spec (ws := wsX4_lay) B.pre
  have hown : s.vm.findClass RX4 = some m.cls := findClass_of_methodNamed B.named
  have hlocks := B.notSynchronized
  have hin4 : ∀ q ∈ wsX40, q ∈ wsX4_lay := by decide +kernel
  have hl := lv_entry ([.ref (ad 0), .int a1, .int a2, .int a3, .int a4]) (n := 5) (Nat.le_of_ble_eq_true rfl)
  rw [lg_entry_eq]
  generalize (lg_sl ([.ref (ad 0), .int a1, .int a2, .int a3, .int a4]) ++ List.replicate (5 - (lg_sl ([.ref (ad 0), .int a1, .int a2, .int a3, .int a4])).length) Slot.unset).toArray = ls at hl ⊢
  have hl : lv_has ls 5 [(0, .ref (ad 0)), (1, .int a1), (2, .int a2), (3, .int a3), (4, .int a4)] := hl
  suffices hgo : ∀ (H : Heap) (locs : List Loc), va_P D vwCl (WG cI cQ ad w) H → va_S (WGA ad) s.heap H locs → W p l e (headSpec wsX4_lay rmX4_lay).room s m [Value.ref (ad 0), Value.int a1, Value.int a2, Value.int a3, Value.int a4].toArray below meth c H locs 0 0 (MQ below (va_Qi (fun r u => (r, u) = sX4_lay w a1 a2 a3 a4 ∧ (r = 0 ∨ r = 1) ∧ R4I u) (fun u t => va_P D vwCl (WG cI cQ ad u) t.heap) (WGA ad)) [Value.ref (ad 0), Value.int a1, Value.int a2, Value.int a3, Value.int a4].toArray s 0 0 (WGA ad)) (F0 m 0 ls []) from hgo s.heap [] hP va_S.rf
  intro H locs hP hS
  have E := sX4_lay.eq_1 w a1 a2 a3 a4
  refine lv_aload_n hx hb dX4_lay_0 rfl (lv_at hl 0 rfl) ?_
  refine g4_layers hx hb hts hin4 hown hK hP (hts (.fieldLink RX4 30 "LoadedForTheLane$Wagon" "layers" "I") (by decide +kernel)) dX4_lay_1 ?_
  have f_1 := R4I_layers hI
  refine lv_bipush (v := 12) hx hb dX4_lay_4 (by decide +kernel) ?_
  refine lv_icmp_ge (tgt := 29) hx hb dX4_lay_6 (by decide) (fun c_2 => ?_) (fun c_2 => ?_)
  · have E := E.trans (if_pos c_2)
    have fc_2 := i_le c_2
    rw [q_12] at fc_2
    refine lv_iconst (v := 0) hx hb dX4_lay_29 (by decide) ?_
    exact W.zret (ty := .boolean) (v := 0) hx hb hr (z_nar (Or.inl rfl)) (fun t ht hW => ⟨⟨_, w, rfl, ⟨E.symm, (Or.inl rfl), hI⟩, by show va_P _ _ _ t.heap; rw [ht]; exact hP⟩, hS.F ht⟩) hS.2.2 dX4_lay_30
  · have E := E.trans (if_neg c_2)
    have fc_2 := i_nle c_2
    rw [q_12] at fc_2
    refine lv_iload_n hx hb dX4_lay_9 rfl (lv_at hl 2 rfl) ?_
    refine lv_iconst (v := 1) hx hb dX4_lay_10 (by decide) ?_
    refine lv_icmp_lt (tgt := 29) hx hb dX4_lay_11 (by decide) (fun c_3 => ?_) (fun c_3 => ?_)
    · have E := E.trans (if_pos c_3)
      have fc_3 := i_lt c_3
      rw [q_1] at fc_3
      refine lv_iconst (v := 0) hx hb dX4_lay_29 (by decide) ?_
      exact W.zret (ty := .boolean) (v := 0) hx hb hr (z_nar (Or.inl rfl)) (fun t ht hW => ⟨⟨_, w, rfl, ⟨E.symm, (Or.inl rfl), hI⟩, by show va_P _ _ _ t.heap; rw [ht]; exact hP⟩, hS.F ht⟩) hS.2.2 dX4_lay_30
    · have E := E.trans (if_neg c_3)
      have fc_3 := i_nlt c_3
      rw [q_1] at fc_3
      refine lv_iload_n hx hb dX4_lay_14 rfl (lv_at hl 2 rfl) ?_
      refine lv_bipush (v := 20) hx hb dX4_lay_15 (by decide +kernel) ?_
      refine lv_icmp_gt (tgt := 29) hx hb dX4_lay_17 (by decide) (fun c_4 => ?_) (fun c_4 => ?_)
      · have E := E.trans (if_pos c_4)
        have fc_4 := i_lt c_4
        rw [q_20] at fc_4
        refine lv_iconst (v := 0) hx hb dX4_lay_29 (by decide) ?_
        exact W.zret (ty := .boolean) (v := 0) hx hb hr (z_nar (Or.inl rfl)) (fun t ht hW => ⟨⟨_, w, rfl, ⟨E.symm, (Or.inl rfl), hI⟩, by show va_P _ _ _ t.heap; rw [ht]; exact hP⟩, hS.F ht⟩) hS.2.2 dX4_lay_30
      · have E := E.trans (if_neg c_4)
        have fc_4 := i_nlt c_4
        rw [q_20] at fc_4
        refine lv_iload hx hb dX4_lay_20 (lv_at hl 4 rfl) ?_
        refine va_mabs hx hb (hml.trans hl.1.symm) hown (hts (.methodLink RX4 78 Lib.Math.abs.name) (by decide +kernel)) (hts (.static Lib.Math.abs.name) (by decide +kernel)) (hts (.initialized "java/lang/Math") (by decide +kernel)) (hts (.code Lib.Math.abs.name Lib.Math.abs.code 1 (some .int)) (by decide +kernel)) (Nat.le_of_ble_eq_true rfl) (Nat.le_of_ble_eq_true rfl) (Nat.zero_le _) (Nat.zero_le _) dX4_lay_22 ?_
        refine lv_iconst (v := 5) hx hb dX4_lay_25 (by decide) ?_
        refine lv_icmp_le (tgt := 31) hx hb dX4_lay_26 (by decide) (fun c_5 => ?_) (fun c_5 => ?_)
        · have E := E.trans (if_pos c_5)
          have fc_5 := i_le c_5
          rw [q_5] at fc_5
          refine lv_aload_n hx hb dX4_lay_31 rfl (lv_at hl 0 rfl) ?_
          refine g4_kinds hx hb hts hin4 hown hK hP (hts (.fieldLink RX4 11 "LoadedForTheLane$Wagon" "kinds" "[I") (by decide +kernel)) dX4_lay_32 ?_
          refine lv_aload_n hx hb dX4_lay_35 rfl (lv_at hl 0 rfl) ?_
          refine g4_layers hx hb hts hin4 hown hK hP (hts (.fieldLink RX4 30 "LoadedForTheLane$Wagon" "layers" "I") (by decide +kernel)) dX4_lay_36 ?_
          have f_6 := R4I_layers hI
          refine lv_iload_n hx hb dX4_lay_39 rfl (lv_at hl 1 rfl) ?_
          have ix_7 : vp_in (w 6 0) 12 := ix_of (by omega) (by omega)
          refine a4_kinds (j := ((w 6 0).toNatClampNeg)) hx hb hK hP (WGDa hd) hS ix_7 rfl dX4_lay_40 (fun H locs hP hS => ?_)
          obtain ⟨wn_7, hwn_7⟩ : ∃ x, x = st w 0 ((w 6 0).toNatClampNeg) a1 := ⟨_, rfl⟩
          rw [← hwn_7] at hP
          have E := bns_e E hwn_7
          have ft7_layers : (wn_7 6 0).toInt = (w 6 0).toInt := by rw [hwn_7]; rfl
          have hI_7 : R4I wn_7 := by rw [hwn_7]; exact R4I_arr hI (by decide)
          refine lv_aload_n hx hb dX4_lay_41 rfl (lv_at hl 0 rfl) ?_
          refine g4_sheaves hx hb hts hin4 hown hK hP (hts (.fieldLink RX4 15 "LoadedForTheLane$Wagon" "sheaves" "[I") (by decide +kernel)) dX4_lay_42 ?_
          refine lv_aload_n hx hb dX4_lay_45 rfl (lv_at hl 0 rfl) ?_
          refine g4_layers hx hb hts hin4 hown hK hP (hts (.fieldLink RX4 30 "LoadedForTheLane$Wagon" "layers" "I") (by decide +kernel)) dX4_lay_46 ?_
          have f_8 := R4I_layers hI_7
          refine lv_iload_n hx hb dX4_lay_49 rfl (lv_at hl 2 rfl) ?_
          have ix_9 : vp_in (wn_7 6 0) 12 := ix_of (by omega) (by omega)
          refine a4_sheaves (j := ((wn_7 6 0).toNatClampNeg)) hx hb hK hP (WGDa hd) hS ix_9 rfl dX4_lay_50 (fun H locs hP hS => ?_)
          obtain ⟨wn_9, hwn_9⟩ : ∃ x, x = st wn_7 1 ((wn_7 6 0).toNatClampNeg) a2 := ⟨_, rfl⟩
          rw [← hwn_9] at hP
          have E := bns_e E hwn_9
          have ft9_layers : (wn_9 6 0).toInt = (wn_7 6 0).toInt := by rw [hwn_9]; rfl
          have hI_9 : R4I wn_9 := by rw [hwn_9]; exact R4I_arr hI_7 (by decide)
          refine lv_aload_n hx hb dX4_lay_51 rfl (lv_at hl 0 rfl) ?_
          refine g4_outs hx hb hts hin4 hown hK hP (hts (.fieldLink RX4 18 "LoadedForTheLane$Wagon" "outs" "[I") (by decide +kernel)) dX4_lay_52 ?_
          refine lv_aload_n hx hb dX4_lay_55 rfl (lv_at hl 0 rfl) ?_
          refine g4_layers hx hb hts hin4 hown hK hP (hts (.fieldLink RX4 30 "LoadedForTheLane$Wagon" "layers" "I") (by decide +kernel)) dX4_lay_56 ?_
          have f_10 := R4I_layers hI_9
          refine lv_iload_n hx hb dX4_lay_59 rfl (lv_at hl 3 rfl) ?_
          have ix_11 : vp_in (wn_9 6 0) 12 := ix_of (by omega) (by omega)
          refine a4_outs (j := ((wn_9 6 0).toNatClampNeg)) hx hb hK hP (WGDa hd) hS ix_11 rfl dX4_lay_60 (fun H locs hP hS => ?_)
          obtain ⟨wn_11, hwn_11⟩ : ∃ x, x = st wn_9 2 ((wn_9 6 0).toNatClampNeg) a3 := ⟨_, rfl⟩
          rw [← hwn_11] at hP
          have E := bns_e E hwn_11
          have ft11_layers : (wn_11 6 0).toInt = (wn_9 6 0).toInt := by rw [hwn_11]; rfl
          have hI_11 : R4I wn_11 := by rw [hwn_11]; exact R4I_arr hI_9 (by decide)
          refine lv_aload_n hx hb dX4_lay_61 rfl (lv_at hl 0 rfl) ?_
          refine g4_leans hx hb hts hin4 hown hK hP (hts (.fieldLink RX4 21 "LoadedForTheLane$Wagon" "leans" "[I") (by decide +kernel)) dX4_lay_62 ?_
          refine lv_aload_n hx hb dX4_lay_65 rfl (lv_at hl 0 rfl) ?_
          refine g4_layers hx hb hts hin4 hown hK hP (hts (.fieldLink RX4 30 "LoadedForTheLane$Wagon" "layers" "I") (by decide +kernel)) dX4_lay_66 ?_
          have f_12 := R4I_layers hI_11
          refine lv_iload hx hb dX4_lay_69 (lv_at hl 4 rfl) ?_
          have ix_13 : vp_in (wn_11 6 0) 12 := ix_of (by omega) (by omega)
          refine a4_leans (j := ((wn_11 6 0).toNatClampNeg)) hx hb hK hP (WGDa hd) hS ix_13 rfl dX4_lay_71 (fun H locs hP hS => ?_)
          obtain ⟨wn_13, hwn_13⟩ : ∃ x, x = st wn_11 3 ((wn_11 6 0).toNatClampNeg) a4 := ⟨_, rfl⟩
          rw [← hwn_13] at hP
          have E := bns_e E hwn_13
          have ft13_layers : (wn_13 6 0).toInt = (wn_11 6 0).toInt := by rw [hwn_13]; rfl
          have hI_13 : R4I wn_13 := by rw [hwn_13]; exact R4I_arr hI_11 (by decide)
          refine lv_aload_n hx hb dX4_lay_72 rfl (lv_at hl 0 rfl) ?_
          refine g4_bindings hx hb hts hin4 hown hK hP (hts (.fieldLink RX4 24 "LoadedForTheLane$Wagon" "bindings" "[I") (by decide +kernel)) dX4_lay_73 ?_
          refine lv_aload_n hx hb dX4_lay_76 rfl (lv_at hl 0 rfl) ?_
          refine g4_layers hx hb hts hin4 hown hK hP (hts (.fieldLink RX4 30 "LoadedForTheLane$Wagon" "layers" "I") (by decide +kernel)) dX4_lay_77 ?_
          have f_14 := R4I_layers hI_13
          refine lv_iload_n hx hb dX4_lay_80 rfl (lv_at hl 1 rfl) ?_
          refine lv_iload_n hx hb dX4_lay_81 rfl (lv_at hl 2 rfl) ?_
          refine vp_callSi (va_Run.run (va_runSN (As := [.int a1, .int a2]) (rest := [.int (wn_13 6 0), .ref (ad 5)]) ⟨hx, hb, hml, hown, hts⟩ (kX0_binding l a1 a2) ⟨va_cnB 2 hts gX4_lay_X0_binding_n84 rfl rfl rfl (nm_RX4_84 hN) (hts (.initialized RX0) (by decide +kernel)) mdsX0_binding ⟨Nat.le_of_ble_eq_true rfl, Nat.le_of_ble_eq_true rfl⟩, hts (.static yX0_binding) (by decide +kernel), trivial⟩ s_pre rfl rfl hl.1 rfl (lv_room (Nat.le_of_ble_eq_true rfl)) dX4_lay_82 ⟨Nat.zero_le _, Nat.zero_le _⟩)) (fun rn_15 hr_15 => ?_)
          subst hr_15
          have ix_16 : vp_in (wn_13 6 0) 12 := ix_of (by omega) (by omega)
          refine a4_bindings (j := ((wn_13 6 0).toNatClampNeg)) hx hb hK hP (WGDa hd) hS ix_16 rfl dX4_lay_85 (fun H locs hP hS => ?_)
          obtain ⟨wn_16, hwn_16⟩ : ∃ x, x = st wn_13 4 ((wn_13 6 0).toNatClampNeg) (sX0_binding a1 a2) := ⟨_, rfl⟩
          rw [← hwn_16] at hP
          have E := bns_e E hwn_16
          have ft16_layers : (wn_16 6 0).toInt = (wn_13 6 0).toInt := by rw [hwn_16]; rfl
          have hI_16 : R4I wn_16 := by rw [hwn_16]; exact R4I_arr hI_13 (by decide)
          refine lv_aload_n hx hb dX4_lay_86 rfl (lv_at hl 0 rfl) ?_
          refine g4_loads hx hb hts hin4 hown hK hP (hts (.fieldLink RX4 27 "LoadedForTheLane$Wagon" "loads" "[I") (by decide +kernel)) dX4_lay_87 ?_
          refine lv_aload_n hx hb dX4_lay_90 rfl (lv_at hl 0 rfl) ?_
          refine g4_layers hx hb hts hin4 hown hK hP (hts (.fieldLink RX4 30 "LoadedForTheLane$Wagon" "layers" "I") (by decide +kernel)) dX4_lay_91 ?_
          have f_17 := R4I_layers hI_16
          refine lv_iconst (v := 0) hx hb dX4_lay_94 (by decide) ?_
          have ix_18 : vp_in (wn_16 6 0) 12 := ix_of (by omega) (by omega)
          refine a4_loads (j := ((wn_16 6 0).toNatClampNeg)) hx hb hK hP (WGDa hd) hS ix_18 rfl dX4_lay_95 (fun H locs hP hS => ?_)
          obtain ⟨wn_18, hwn_18⟩ : ∃ x, x = st wn_16 5 ((wn_16 6 0).toNatClampNeg) 0 := ⟨_, rfl⟩
          rw [← hwn_18] at hP
          have E := bns_e E hwn_18
          have ft18_layers : (wn_18 6 0).toInt = (wn_16 6 0).toInt := by rw [hwn_18]; rfl
          have hI_18 : R4I wn_18 := by rw [hwn_18]; exact R4I_arr hI_16 (by decide)
          refine lv_aload_n hx hb dX4_lay_96 rfl (lv_at hl 0 rfl) ?_
          refine lv_dup hx hb dX4_lay_97 rfl ?_
          refine g4_layers hx hb hts hin4 hown hK hP (hts (.fieldLink RX4 30 "LoadedForTheLane$Wagon" "layers" "I") (by decide +kernel)) dX4_lay_98 ?_
          have f_19 := R4I_layers hI_18
          refine lv_iconst (v := 1) hx hb dX4_lay_101 (by decide) ?_
          refine lv_iadd hx hb dX4_lay_102 ?_
          refine p4_layers hx hb hts hin4 hown hK hP (WGDa hd) hS (hts (.fieldLink RX4 30 "LoadedForTheLane$Wagon" "layers" "I") (by decide +kernel)) dX4_lay_103 (fun H locs hP hS => ?_)
          obtain ⟨wn_20, hwn_20⟩ : ∃ x, x = st wn_18 6 0 ((wn_18 6 0) + 1) := ⟨_, rfl⟩
          rw [← hwn_20] at hP
          have E := bns_e E hwn_20
          have ft20_layers : (wn_20 6 0).toInt = ((wn_18 6 0) + 1).toInt := by rw [hwn_20]; rfl
          have := i_addr (a := wn_18 6 0) (b := 1) (n := 1) q_1 (by omega) (by omega)
          have := i_addr (a := wn_18 6 0) (b := 1) (n := 1) q_1 (by omega) (by omega)
          have hI_20 : R4I wn_20 := by rw [hwn_20]; exact R4I_put hI_18 (by omega) (by omega)
          refine lv_aload_n hx hb dX4_lay_106 rfl (lv_at hl 0 rfl) ?_
          refine lv_aload_n hx hb dX4_lay_107 rfl (lv_at hl 0 rfl) ?_
          refine lv_aload_n hx hb dX4_lay_108 rfl (lv_at hl 0 rfl) ?_
          refine g4_layers hx hb hts hin4 hown hK hP (hts (.fieldLink RX4 30 "LoadedForTheLane$Wagon" "layers" "I") (by decide +kernel)) dX4_lay_109 ?_
          have f_21 := R4I_layers hI_20
          refine lv_iconst (v := 1) hx hb dX4_lay_112 (by decide) ?_
          refine lv_isub hx hb dX4_lay_113 ?_
          have := i_subr (a := wn_20 6 0) (b := 1) (n := 1) q_1 (by omega) (by omega)
          refine vp_callSi (va_Run.run (va_runV (As := [.int ((wn_20 6 0) - 1)]) (rest := [.ref (ad 0)]) ⟨hx, hb, hml, hown, hts⟩ (kX4_weightOf l D cI cC cQ ad wn_20 ((wn_20 6 0) - 1) (by omega) (by omega)) (cwV 1 hts gX4_lay_X4_weightOf rfl rfl rfl mdX4_weightOf ⟨Nat.le_of_ble_eq_true rfl, Nat.le_of_ble_eq_true rfl⟩) (x4_pre hK hP hN) rfl rfl hl.1 rfl (lv_room (Nat.le_of_ble_eq_true rfl)) dX4_lay_114 ⟨Nat.zero_le _, Nat.zero_le _⟩)) (fun rn_22 hr_22 => ?_)
          subst hr_22
          refine va_callv (va_runV (As := [.int (sX4_weightOf wn_20 ((wn_20 6 0) - 1))]) (rest := []) ⟨hx, hb, hml, hown, hts⟩ (kX4_bear l D cI cC cQ ad wn_20 (sX4_weightOf wn_20 ((wn_20 6 0) - 1)) hd hI_20) (cwV 1 hts gX4_lay_X4_bear rfl rfl rfl mdX4_bear ⟨Nat.le_of_ble_eq_true rfl, Nat.le_of_ble_eq_true rfl⟩) (x4_pre hK hP hN) rfl rfl hl.1 rfl (lv_room (Nat.le_of_ble_eq_true rfl)) dX4_lay_117 ⟨Nat.zero_le _, Nat.zero_le _⟩) hS (fun _ _ h => h) (fun _ h => h) (fun wn_23 t H locs ht hvm hp_23 hB hz hfr hS => ?_)
          obtain ⟨hp_23, hJ_23, hq0_23⟩ := hp_23
          have E := bns_e E hp_23
          have hP : va_P D vwCl (WG cI cQ ad wn_23) H := ht ▸ hB
          refine lv_iconst (v := 1) hx hb dX4_lay_120 (by decide) ?_
          exact W.zret (ty := .boolean) (v := 1) hx hb hr (z_nar (Or.inr rfl)) (fun t ht hW => ⟨⟨_, wn_23, rfl, ⟨E.symm, (Or.inr rfl), hJ_23⟩, by show va_P _ _ _ t.heap; rw [ht]; exact hP⟩, hS.F ht⟩) hS.2.2 dX4_lay_121
        · have E := E.trans (if_neg c_5)
          have fc_5 := i_nle c_5
          rw [q_5] at fc_5
          refine lv_iconst (v := 0) hx hb dX4_lay_29 (by decide) ?_
          exact W.zret (ty := .boolean) (v := 0) hx hb hr (z_nar (Or.inl rfl)) (fun t ht hW => ⟨⟨_, w, rfl, ⟨E.symm, (Or.inl rfl), hI⟩, by show va_P _ _ _ t.heap; rw [ht]; exact hP⟩, hS.F ht⟩) hS.2.2 dX4_lay_30
abbrev rmX4_leanMore : Room := { frames := 1, cells := 0, slots := 0, locals := 16 }
set_option maxHeartbeats 4000000 in
set_option maxRecDepth 100000 in
theorem kX4_leanMore (l : Launch) (D : va_G) (cI cC cQ : ClassId) (ad : Nat → Nat) (w : Nat → Nat → Int32) (a1 : Int32) (hd : WGD ad) (hI : R4I w)  : Met l yX4_leanMore wsX4_leanMore rmX4_leanMore (va_Pc [Value.ref (ad 0), Value.int a1] (fun U => va_P D vwCl (WG cI cQ ad w) U.heap ∧ va_K D vwCl [(cI, .int), (cC, .char), (cQ, .object "LoadedForTheLane$Way")] U ∧ NW U)) (va_Qv (fun u => u = sX4_leanMore w a1 ∧ R4I u) (fun u t => va_P D vwCl (WG cI cQ ad u) t.heap) (WGA ad)) 0 0 (WGA ad) := by
  refine Met.ofW (cc := cX4_leanMore) (maxL := 3) (ret := none) (by decide) rfl ?_
  intro p e s m args below meth c s₁ B hml hv
  obtain ⟨rfl, hP, hK, hN⟩ := hv
  have hx := B.exec
  have hb := B.bytes
  have hr := B.returns
  have hts := atoms_spec (ws := wsX4_leanMore) B.pre
  have hown : s.vm.findClass RX4 = some m.cls := findClass_of_methodNamed B.named
  have hlocks := B.notSynchronized
  have hin4 : ∀ q ∈ wsX40, q ∈ wsX4_leanMore := by decide +kernel
  have hl := lv_entry ([.ref (ad 0), .int a1]) (n := 3) (Nat.le_of_ble_eq_true rfl)
  rw [lg_entry_eq]
  generalize (lg_sl ([.ref (ad 0), .int a1]) ++ List.replicate (3 - (lg_sl ([.ref (ad 0), .int a1])).length) Slot.unset).toArray = ls at hl ⊢
  have hl : lv_has ls 3 [(0, .ref (ad 0)), (1, .int a1)] := hl
  suffices hgo : ∀ (H : Heap) (locs : List Loc), va_P D vwCl (WG cI cQ ad w) H → va_S (WGA ad) s.heap H locs → W p l e (headSpec wsX4_leanMore rmX4_leanMore).room s m [Value.ref (ad 0), Value.int a1].toArray below meth c H locs 0 0 (MQ below (va_Qv (fun u => u = sX4_leanMore w a1 ∧ R4I u) (fun u t => va_P D vwCl (WG cI cQ ad u) t.heap) (WGA ad)) [Value.ref (ad 0), Value.int a1].toArray s 0 0 (WGA ad)) (F0 m 0 ls []) from hgo s.heap [] hP va_S.rf
  intro H locs hP hS
  have E := sX4_leanMore.eq_1 w a1
  refine lv_iconst (v := 0) hx hb dX4_leanMore_0 (by decide) ?_
  refine lv_istore_n (lv' := [(2, .int 0), (0, .ref (ad 0)), (1, .int a1)]) hx hb dX4_leanMore_1 rfl hl (by decide) rfl (fun ls hl => ?_)
  have L_2 : ∀ (n_2 : Nat) (x2_2 : Int32) (w_2 : Nat → Nat → Int32) (H : Heap) (locs : List Loc) (ls : Array Slot), ((0 ≤ x2_2.toInt) ∧ (x2_2.toInt ≤ 12)) → (12 - x2_2.toInt < (n_2 : Int)) → R4I w_2 → va_P D vwCl (WG cI cQ ad w_2) H → va_S (WGA ad) s.heap H locs → lv_has ls 3 [(2, .int x2_2), (0, .ref (ad 0)), (1, .int a1)] → sX4_leanMore w a1 = sX4_leanMore_2 a1 n_2 x2_2 w_2 → W p l e (headSpec wsX4_leanMore rmX4_leanMore).room s m [Value.ref (ad 0), Value.int a1].toArray below meth c H locs 0 0 (MQ below (va_Qv (fun u => u = sX4_leanMore w a1 ∧ R4I u) (fun u t => va_P D vwCl (WG cI cQ ad u) t.heap) (WGA ad)) [Value.ref (ad 0), Value.int a1].toArray s 0 0 (WGA ad)) (F0 m 2 ls []) := by
    intro n_2
    induction n_2 with
    | zero =>
      intro x2_2 w_2 H locs ls hinv hm
      obtain ⟨v0_2, v1_2⟩ := hinv
      exact absurd hm (by omega)
    | succ n_2 ih_2 =>
      intro x2_2 w_2 H locs ls hinv hm_2 hI_2 hP hS hl E
      obtain ⟨v0_2, v1_2⟩ := hinv
      have E := E.trans (sX4_leanMore_2.eq_2 ..)
      refine lv_iload_n hx hb dX4_leanMore_2 rfl (lv_at hl 0 rfl) ?_
      refine lv_aload_n hx hb dX4_leanMore_3 rfl (lv_at hl 1 rfl) ?_
      refine g4_layers hx hb hts hin4 hown hK hP (hts (.fieldLink RX4 30 "LoadedForTheLane$Wagon" "layers" "I") (by decide +kernel)) dX4_leanMore_4 ?_
      have f_1 := R4I_layers hI_2
      refine lv_icmp_ge (tgt := 39) hx hb dX4_leanMore_7 (by decide) (fun c_2 => ?_) (fun c_2 => ?_)
      · have E := E.trans (if_pos c_2)
        have fc_2 := i_le c_2
        exact W.vret hx hb hr (fun t ht hW => ⟨⟨w_2, rfl, ⟨E.symm, hI_2⟩, by show va_P _ _ _ t.heap; rw [ht]; exact hP⟩, hS.F ht⟩) hS.2.2 dX4_leanMore_39
      · have E := E.trans (if_neg c_2)
        have fc_2 := i_nle c_2
        refine lv_aload_n hx hb dX4_leanMore_10 rfl (lv_at hl 1 rfl) ?_
        refine g4_leans hx hb hts hin4 hown hK hP (hts (.fieldLink RX4 21 "LoadedForTheLane$Wagon" "leans" "[I") (by decide +kernel)) dX4_leanMore_11 ?_
        refine lv_iload_n hx hb dX4_leanMore_14 rfl (lv_at hl 0 rfl) ?_
        refine lv_bipush (v := (-5)) hx hb dX4_leanMore_15 (by decide +kernel) ?_
        refine lv_iconst (v := 5) hx hb dX4_leanMore_17 (by decide) ?_
        refine lv_aload_n hx hb dX4_leanMore_18 rfl (lv_at hl 1 rfl) ?_
        refine g4_leans hx hb hts hin4 hown hK hP (hts (.fieldLink RX4 21 "LoadedForTheLane$Wagon" "leans" "[I") (by decide +kernel)) dX4_leanMore_19 ?_
        refine lv_iload_n hx hb dX4_leanMore_22 rfl (lv_at hl 0 rfl) ?_
        have ix_3 : vp_in x2_2 12 := ix_of (by omega) (by omega)
        refine l4_leans (j := (x2_2.toNatClampNeg)) hx hb hK hP ix_3 rfl dX4_leanMore_23 ?_
        refine lv_iload_n hx hb dX4_leanMore_24 rfl (lv_at hl 2 rfl) ?_
        refine lv_iadd hx hb dX4_leanMore_25 ?_
        refine va_mmin hx hb (hml.trans hl.1.symm) hown (hts (.methodLink RX4 97 Lib.Math.min.name) (by decide +kernel)) (hts (.static Lib.Math.min.name) (by decide +kernel)) (hts (.initialized "java/lang/Math") (by decide +kernel)) (hts (.code Lib.Math.min.name Lib.Math.min.code 2 (some .int)) (by decide +kernel)) (Nat.le_of_ble_eq_true rfl) (Nat.le_of_ble_eq_true rfl) (Nat.zero_le _) (Nat.zero_le _) dX4_leanMore_26 ?_
        have hmm_26 := i_min_le (x := 5) (y := (w_2 3 (x2_2.toNatClampNeg)) + a1)
        rw [q_5] at hmm_26
        refine va_mmax hx hb (hml.trans hl.1.symm) hown (hts (.methodLink RX4 100 Lib.Math.max.name) (by decide +kernel)) (hts (.static Lib.Math.max.name) (by decide +kernel)) (hts (.initialized "java/lang/Math") (by decide +kernel)) (hts (.code Lib.Math.max.name Lib.Math.max.code 2 (some .int)) (by decide +kernel)) (Nat.le_of_ble_eq_true rfl) (Nat.le_of_ble_eq_true rfl) (Nat.zero_le _) (Nat.zero_le _) dX4_leanMore_29 ?_
        have ix_4 : vp_in x2_2 12 := ix_of (by omega) (by omega)
        refine a4_leans (j := (x2_2.toNatClampNeg)) hx hb hK hP (WGDa hd) hS ix_4 rfl dX4_leanMore_32 (fun H locs hP hS => ?_)
        obtain ⟨wn_4, hwn_4⟩ : ∃ x, x = st w_2 3 (x2_2.toNatClampNeg) (if (-5) < (if (w_2 3 (x2_2.toNatClampNeg)) + a1 < 5 then (w_2 3 (x2_2.toNatClampNeg)) + a1 else 5) then (if (w_2 3 (x2_2.toNatClampNeg)) + a1 < 5 then (w_2 3 (x2_2.toNatClampNeg)) + a1 else 5) else (-5)) := ⟨_, rfl⟩
        rw [← hwn_4] at hP
        have E := bns_e E hwn_4
        have hI_4 : R4I wn_4 := by rw [hwn_4]; exact R4I_arr hI_2 (by decide)
        refine lv_iinc (v := x2_2 + 1) (lv' := [(2, .int (x2_2 + 1)), (0, .ref (ad 0)), (1, .int a1)]) hx hb dX4_leanMore_33 hl (k := 0) rfl rfl (by decide) rfl (fun ls hl => ?_)
        refine lv_goto (tgt := 2) hx hb dX4_leanMore_36 (by decide) ?_
        try have := i_addr (a := x2_2) (b := 1) (n := 1) q_1 (by omega) (by omega)
        exact ih_2 (x2_2 + 1) wn_4 H locs ls ⟨by omega, by omega⟩ (by omega) hI_4 hP hS (lv_sub hl [0, 1, 2] rfl) E
  have := q_0
  exact L_2 13 0 w H locs ls ⟨by omega, by omega⟩ (by omega) hI hP hS (lv_sub hl [0, 1, 2] rfl) E
abbrev rmX4_layBadly : Room := { frames := 1, cells := 0, slots := 0, locals := 15 }
set_option maxHeartbeats 4000000 in
set_option maxRecDepth 100000 in
theorem kX4_layBadly (l : Launch) (D : va_G) (cI cC cQ : ClassId) (ad : Nat → Nat) (w : Nat → Nat → Int32) (a1 : Int32) (hd : WGD ad) (hI : R4I w)  : Met l yX4_layBadly wsX4_layBadly rmX4_layBadly (va_Pc [Value.ref (ad 0), Value.int a1] (fun U => va_P D vwCl (WG cI cQ ad w) U.heap ∧ va_K D vwCl [(cI, .int), (cC, .char), (cQ, .object "LoadedForTheLane$Way")] U ∧ NW U)) (va_Qv (fun u => u = sX4_layBadly w a1 ∧ R4I u) (fun u t => va_P D vwCl (WG cI cQ ad u) t.heap) (WGA ad)) 0 0 (WGA ad) := by
  refine Met.ofW (cc := cX4_layBadly) (maxL := 4) (ret := none) (by decide) rfl ?_
  intro p e s m args below meth c s₁ B hml hv
  obtain ⟨rfl, hP, hK, hN⟩ := hv
  have hx := B.exec
  have hb := B.bytes
  have hr := B.returns
  have hts := atoms_spec (ws := wsX4_layBadly) B.pre
  have hown : s.vm.findClass RX4 = some m.cls := findClass_of_methodNamed B.named
  have hlocks := B.notSynchronized
  have hin4 : ∀ q ∈ wsX40, q ∈ wsX4_layBadly := by decide +kernel
  have hl := lv_entry ([.ref (ad 0), .int a1]) (n := 4) (Nat.le_of_ble_eq_true rfl)
  rw [lg_entry_eq]
  generalize (lg_sl ([.ref (ad 0), .int a1]) ++ List.replicate (4 - (lg_sl ([.ref (ad 0), .int a1])).length) Slot.unset).toArray = ls at hl ⊢
  have hl : lv_has ls 4 [(0, .ref (ad 0)), (1, .int a1)] := hl
  suffices hgo : ∀ (H : Heap) (locs : List Loc), va_P D vwCl (WG cI cQ ad w) H → va_S (WGA ad) s.heap H locs → W p l e (headSpec wsX4_layBadly rmX4_layBadly).room s m [Value.ref (ad 0), Value.int a1].toArray below meth c H locs 0 0 (MQ below (va_Qv (fun u => u = sX4_layBadly w a1 ∧ R4I u) (fun u t => va_P D vwCl (WG cI cQ ad u) t.heap) (WGA ad)) [Value.ref (ad 0), Value.int a1].toArray s 0 0 (WGA ad)) (F0 m 0 ls []) from hgo s.heap [] hP va_S.rf
  intro H locs hP hS
  have E := sX4_layBadly.eq_1 w a1
  refine lv_iconst (v := 0) hx hb dX4_layBadly_0 (by decide) ?_
  refine lv_istore_n (lv' := [(2, .int 0), (0, .ref (ad 0)), (1, .int a1)]) hx hb dX4_layBadly_1 rfl hl (by decide) rfl (fun ls hl => ?_)
  have L_2 : ∀ (n_2 : Nat) (x2_2 : Int32) (w_2 : Nat → Nat → Int32) (H : Heap) (locs : List Loc) (ls : Array Slot), ((0 ≤ x2_2.toInt) ∧ (x2_2.toInt ≤ 12)) → (12 - x2_2.toInt < (n_2 : Int)) → R4I w_2 → va_P D vwCl (WG cI cQ ad w_2) H → va_S (WGA ad) s.heap H locs → lv_has ls 4 [(2, .int x2_2), (0, .ref (ad 0)), (1, .int a1)] → sX4_layBadly w a1 = sX4_layBadly_2 a1 n_2 x2_2 w_2 → W p l e (headSpec wsX4_layBadly rmX4_layBadly).room s m [Value.ref (ad 0), Value.int a1].toArray below meth c H locs 0 0 (MQ below (va_Qv (fun u => u = sX4_layBadly w a1 ∧ R4I u) (fun u t => va_P D vwCl (WG cI cQ ad u) t.heap) (WGA ad)) [Value.ref (ad 0), Value.int a1].toArray s 0 0 (WGA ad)) (F0 m 2 ls []) := by
    intro n_2
    induction n_2 with
    | zero =>
      intro x2_2 w_2 H locs ls hinv hm
      obtain ⟨v0_2, v1_2⟩ := hinv
      exact absurd hm (by omega)
    | succ n_2 ih_2 =>
      intro x2_2 w_2 H locs ls hinv hm_2 hI_2 hP hS hl E
      obtain ⟨v0_2, v1_2⟩ := hinv
      have E := E.trans (sX4_layBadly_2.eq_2 ..)
      refine lv_iload_n hx hb dX4_layBadly_2 rfl (lv_at hl 0 rfl) ?_
      refine lv_aload_n hx hb dX4_layBadly_3 rfl (lv_at hl 1 rfl) ?_
      refine g4_layers hx hb hts hin4 hown hK hP (hts (.fieldLink RX4 30 "LoadedForTheLane$Wagon" "layers" "I") (by decide +kernel)) dX4_layBadly_4 ?_
      have f_1 := R4I_layers hI_2
      refine lv_icmp_ge (tgt := 48) hx hb dX4_layBadly_7 (by decide) (fun c_2 => ?_) (fun c_2 => ?_)
      · have E := E.trans (if_pos c_2)
        have fc_2 := i_le c_2
        exact W.vret hx hb hr (fun t ht hW => ⟨⟨w_2, rfl, ⟨E.symm, hI_2⟩, by show va_P _ _ _ t.heap; rw [ht]; exact hP⟩, hS.F ht⟩) hS.2.2 dX4_layBadly_48
      · have E := E.trans (if_neg c_2)
        have fc_2 := i_nle c_2
        refine lv_aload_n hx hb dX4_layBadly_10 rfl (lv_at hl 1 rfl) ?_
        refine g4_sheaves hx hb hts hin4 hown hK hP (hts (.fieldLink RX4 15 "LoadedForTheLane$Wagon" "sheaves" "[I") (by decide +kernel)) dX4_layBadly_11 ?_
        refine lv_iload_n hx hb dX4_layBadly_14 rfl (lv_at hl 0 rfl) ?_
        have ix_3 : vp_in x2_2 12 := ix_of (by omega) (by omega)
        refine l4_sheaves (j := (x2_2.toNatClampNeg)) hx hb hK hP ix_3 rfl dX4_layBadly_15 ?_
        refine lv_iload_n hx hb dX4_layBadly_16 rfl (lv_at hl 2 rfl) ?_
        refine lv_imul hx hb dX4_layBadly_17 ?_
        refine lv_bipush (v := 9) hx hb dX4_layBadly_18 (by decide +kernel) ?_
        refine lv_idiv hx hb dX4_layBadly_20 (by decide) ?_
        refine lv_istore_n (lv' := [(3, .int (((w_2 1 (x2_2.toNatClampNeg)) * a1) / 9)), (2, .int x2_2), (0, .ref (ad 0)), (1, .int a1)]) hx hb dX4_layBadly_21 rfl hl (by decide) rfl (fun ls hl => ?_)
        refine lv_aload_n hx hb dX4_layBadly_22 rfl (lv_at hl 2 rfl) ?_
        refine g4_bindings hx hb hts hin4 hown hK hP (hts (.fieldLink RX4 24 "LoadedForTheLane$Wagon" "bindings" "[I") (by decide +kernel)) dX4_layBadly_23 ?_
        refine lv_iload_n hx hb dX4_layBadly_26 rfl (lv_at hl 1 rfl) ?_
        refine lv_iconst (v := 0) hx hb dX4_layBadly_27 (by decide) ?_
        refine lv_aload_n hx hb dX4_layBadly_28 rfl (lv_at hl 2 rfl) ?_
        refine g4_bindings hx hb hts hin4 hown hK hP (hts (.fieldLink RX4 24 "LoadedForTheLane$Wagon" "bindings" "[I") (by decide +kernel)) dX4_layBadly_29 ?_
        refine lv_iload_n hx hb dX4_layBadly_32 rfl (lv_at hl 1 rfl) ?_
        have ix_4 : vp_in x2_2 12 := ix_of (by omega) (by omega)
        refine l4_bindings (j := (x2_2.toNatClampNeg)) hx hb hK hP ix_4 rfl dX4_layBadly_33 ?_
        refine lv_iconst (v := 4) hx hb dX4_layBadly_34 (by decide) ?_
        refine lv_iload_n hx hb dX4_layBadly_35 rfl (lv_at hl 0 rfl) ?_
        refine lv_imul hx hb dX4_layBadly_36 ?_
        refine lv_isub hx hb dX4_layBadly_37 ?_
        refine va_mmax hx hb (hml.trans hl.1.symm) hown (hts (.methodLink RX4 100 Lib.Math.max.name) (by decide +kernel)) (hts (.static Lib.Math.max.name) (by decide +kernel)) (hts (.initialized "java/lang/Math") (by decide +kernel)) (hts (.code Lib.Math.max.name Lib.Math.max.code 2 (some .int)) (by decide +kernel)) (Nat.le_of_ble_eq_true rfl) (Nat.le_of_ble_eq_true rfl) (Nat.zero_le _) (Nat.zero_le _) dX4_layBadly_38 ?_
        have ix_5 : vp_in x2_2 12 := ix_of (by omega) (by omega)
        refine a4_bindings (j := (x2_2.toNatClampNeg)) hx hb hK hP (WGDa hd) hS ix_5 rfl dX4_layBadly_41 (fun H locs hP hS => ?_)
        obtain ⟨wn_5, hwn_5⟩ : ∃ x, x = st w_2 4 (x2_2.toNatClampNeg) (if 0 < (w_2 4 (x2_2.toNatClampNeg)) - (4 * (((w_2 1 (x2_2.toNatClampNeg)) * a1) / 9)) then (w_2 4 (x2_2.toNatClampNeg)) - (4 * (((w_2 1 (x2_2.toNatClampNeg)) * a1) / 9)) else 0) := ⟨_, rfl⟩
        rw [← hwn_5] at hP
        have E := bns_e E hwn_5
        have hI_5 : R4I wn_5 := by rw [hwn_5]; exact R4I_arr hI_2 (by decide)
        refine lv_iinc (v := x2_2 + 1) (lv' := [(2, .int (x2_2 + 1)), (3, .int (((w_2 1 (x2_2.toNatClampNeg)) * a1) / 9)), (0, .ref (ad 0)), (1, .int a1)]) hx hb dX4_layBadly_42 hl (k := 1) rfl rfl (by decide) rfl (fun ls hl => ?_)
        refine lv_goto (tgt := 2) hx hb dX4_layBadly_45 (by decide) ?_
        try have := i_addr (a := x2_2) (b := 1) (n := 1) q_1 (by omega) (by omega)
        exact ih_2 (x2_2 + 1) wn_5 H locs ls ⟨by omega, by omega⟩ (by omega) hI_5 hP hS (lv_sub hl [0, 2, 3] rfl) E
  have := q_0
  exact L_2 13 0 w H locs ls ⟨by omega, by omega⟩ (by omega) hI hP hS (lv_sub hl [0, 1, 2] rfl) E
abbrev rmX4_layByLot : Room := { frames := 1, cells := 0, slots := 0, locals := 21 }
set_option maxHeartbeats 4000000 in
set_option maxRecDepth 100000 in
theorem kX4_layByLot (l : Launch) (D : va_G) (cI cC cQ : ClassId) (ad : Nat → Nat) (w : Nat → Nat → Int32) (a1 : Int32) (hd : WGD ad) (hI : R4I w)  : Met l yX4_layByLot wsX4_layByLot rmX4_layByLot (va_Pc [Value.ref (ad 0), Value.int a1] (fun U => va_P D vwCl (WG cI cQ ad w) U.heap ∧ va_K D vwCl [(cI, .int), (cC, .char), (cQ, .object "LoadedForTheLane$Way")] U ∧ NW U)) (va_Qi (fun r u => (r, u) = sX4_layByLot w a1 ∧ R4I u) (fun u t => va_P D vwCl (WG cI cQ ad u) t.heap) (WGA ad)) 0 0 (WGA ad) := by
  refine Met.ofW (cc := cX4_layByLot) (maxL := 4) (ret := (some .int)) (by decide) rfl ?_
  intro p e s m args below meth c s₁ B hml hv
  obtain ⟨rfl, hP, hK, hN⟩ := hv
  have hx := B.exec
  have hb := B.bytes
  have hr := B.returns
  have hts := atoms_spec (ws := wsX4_layByLot) B.pre
  have hown : s.vm.findClass RX4 = some m.cls := findClass_of_methodNamed B.named
  have hlocks := B.notSynchronized
  have hin4 : ∀ q ∈ wsX40, q ∈ wsX4_layByLot := by decide +kernel
  have hl := lv_entry ([.ref (ad 0), .int a1]) (n := 4) (Nat.le_of_ble_eq_true rfl)
  rw [lg_entry_eq]
  generalize (lg_sl ([.ref (ad 0), .int a1]) ++ List.replicate (4 - (lg_sl ([.ref (ad 0), .int a1])).length) Slot.unset).toArray = ls at hl ⊢
  have hl : lv_has ls 4 [(0, .ref (ad 0)), (1, .int a1)] := hl
  suffices hgo : ∀ (H : Heap) (locs : List Loc), va_P D vwCl (WG cI cQ ad w) H → va_S (WGA ad) s.heap H locs → W p l e (headSpec wsX4_layByLot rmX4_layByLot).room s m [Value.ref (ad 0), Value.int a1].toArray below meth c H locs 0 0 (MQ below (va_Qi (fun r u => (r, u) = sX4_layByLot w a1 ∧ R4I u) (fun u t => va_P D vwCl (WG cI cQ ad u) t.heap) (WGA ad)) [Value.ref (ad 0), Value.int a1].toArray s 0 0 (WGA ad)) (F0 m 0 ls []) from hgo s.heap [] hP va_S.rf
  intro H locs hP hS
  have E := sX4_layByLot.eq_1 w a1
  refine lv_iload_n hx hb dX4_layByLot_0 rfl (lv_at hl 1 rfl) ?_
  refine lv_istore_n (lv' := [(2, .int a1), (0, .ref (ad 0)), (1, .int a1)]) hx hb dX4_layByLot_1 rfl hl (by decide) rfl (fun ls hl => ?_)
  refine lv_iconst (v := 0) hx hb dX4_layByLot_2 (by decide) ?_
  refine lv_istore_n (lv' := [(3, .int 0), (2, .int a1), (0, .ref (ad 0)), (1, .int a1)]) hx hb dX4_layByLot_3 rfl hl (by decide) rfl (fun ls hl => ?_)
  have L_4 : ∀ (n_4 : Nat) (x2_4 : Int32) (x3_4 : Int32) (w_4 : Nat → Nat → Int32) (H : Heap) (locs : List Loc) (ls : Array Slot), ((0 ≤ x3_4.toInt) ∧ (x3_4.toInt ≤ 12)) → (12 - x3_4.toInt < (n_4 : Int)) → R4I w_4 → va_P D vwCl (WG cI cQ ad w_4) H → va_S (WGA ad) s.heap H locs → lv_has ls 4 [(3, .int x3_4), (2, .int x2_4), (0, .ref (ad 0))] → sX4_layByLot w a1 = sX4_layByLot_4 n_4 x2_4 x3_4 w_4 → W p l e (headSpec wsX4_layByLot rmX4_layByLot).room s m [Value.ref (ad 0), Value.int a1].toArray below meth c H locs 0 0 (MQ below (va_Qi (fun r u => (r, u) = sX4_layByLot w a1 ∧ R4I u) (fun u t => va_P D vwCl (WG cI cQ ad u) t.heap) (WGA ad)) [Value.ref (ad 0), Value.int a1].toArray s 0 0 (WGA ad)) (F0 m 4 ls []) := by
    intro n_4
    induction n_4 with
    | zero =>
      intro x2_4 x3_4 w_4 H locs ls hinv hm
      obtain ⟨v0_4, v1_4⟩ := hinv
      exact absurd hm (by omega)
    | succ n_4 ih_4 =>
      intro x2_4 x3_4 w_4 H locs ls hinv hm_4 hI_4 hP hS hl E
      obtain ⟨v0_4, v1_4⟩ := hinv
      have E := E.trans (sX4_layByLot_4.eq_2 ..)
      refine lv_iload_n hx hb dX4_layByLot_4 rfl (lv_at hl 0 rfl) ?_
      refine lv_aload_n hx hb dX4_layByLot_5 rfl (lv_at hl 2 rfl) ?_
      refine g4_layers hx hb hts hin4 hown hK hP (hts (.fieldLink RX4 30 "LoadedForTheLane$Wagon" "layers" "I") (by decide +kernel)) dX4_layByLot_6 ?_
      have f_1 := R4I_layers hI_4
      refine lv_icmp_ge (tgt := 54) hx hb dX4_layByLot_9 (by decide) (fun c_2 => ?_) (fun c_2 => ?_)
      · have E := E.trans (if_pos c_2)
        have fc_2 := i_le c_2
        refine lv_iload_n hx hb dX4_layByLot_54 rfl (lv_at hl 1 rfl) ?_
        exact W.iret (v := x2_4) hx hb hr (fun t ht hW => ⟨⟨_, w_4, rfl, ⟨E.symm, hI_4⟩, by show va_P _ _ _ t.heap; rw [ht]; exact hP⟩, hS.F ht⟩) hS.2.2 dX4_layByLot_55
      · have E := E.trans (if_neg c_2)
        have fc_2 := i_nle c_2
        refine lv_iload_n hx hb dX4_layByLot_12 rfl (lv_at hl 1 rfl) ?_
        refine vp_callSi (va_Run.run (va_runS (As := [.int x2_4]) (rest := []) ⟨hx, hb, hml, hown, hts⟩ (kX4_nextSeed l x2_4) (va_cwS 1 hts gX4_layByLot_X4_nextSeed rfl rfl rfl mdsX4_nextSeed ⟨Nat.le_of_ble_eq_true rfl, Nat.le_of_ble_eq_true rfl⟩) s_pre rfl rfl hl.1 rfl (lv_room (Nat.le_of_ble_eq_true rfl)) dX4_layByLot_13 ⟨Nat.zero_le _, Nat.zero_le _⟩)) (fun rn_3 hr_3 => ?_)
        subst hr_3
        refine lv_istore_n (lv' := [(2, .int (sX4_nextSeed x2_4)), (3, .int x3_4), (0, .ref (ad 0))]) hx hb dX4_layByLot_16 rfl hl (by decide) rfl (fun ls hl => ?_)
        refine lv_aload_n hx hb dX4_layByLot_17 rfl (lv_at hl 2 rfl) ?_
        refine g4_outs hx hb hts hin4 hown hK hP (hts (.fieldLink RX4 18 "LoadedForTheLane$Wagon" "outs" "[I") (by decide +kernel)) dX4_layByLot_18 ?_
        refine lv_iload_n hx hb dX4_layByLot_21 rfl (lv_at hl 1 rfl) ?_
        refine lv_iload_n hx hb dX4_layByLot_22 rfl (lv_at hl 0 rfl) ?_
        refine lv_bipush (v := 10) hx hb dX4_layByLot_23 (by decide +kernel) ?_
        refine vp_callSi (va_Run.run (va_runS (As := [.int (sX4_nextSeed x2_4), .int 10]) (rest := [.int x3_4, .ref (ad 3)]) ⟨hx, hb, hml, hown, hts⟩ (kX4_draw l (sX4_nextSeed x2_4) 10) (va_cwS 2 hts gX4_layByLot_X4_draw rfl rfl rfl mdsX4_draw ⟨Nat.le_of_ble_eq_true rfl, Nat.le_of_ble_eq_true rfl⟩) s_pre rfl rfl hl.1 rfl (lv_room (Nat.le_of_ble_eq_true rfl)) dX4_layByLot_25 ⟨Nat.zero_le _, Nat.zero_le _⟩)) (fun rn_4 hr_4 => ?_)
        subst hr_4
        have ix_5 : vp_in x3_4 12 := ix_of (by omega) (by omega)
        refine a4_outs (j := (x3_4.toNatClampNeg)) hx hb hK hP (WGDa hd) hS ix_5 rfl dX4_layByLot_28 (fun H locs hP hS => ?_)
        obtain ⟨wn_5, hwn_5⟩ : ∃ x, x = st w_4 2 (x3_4.toNatClampNeg) (sX4_draw (sX4_nextSeed x2_4) 10) := ⟨_, rfl⟩
        rw [← hwn_5] at hP
        have E := bns_e E hwn_5
        have hI_5 : R4I wn_5 := by rw [hwn_5]; exact R4I_arr hI_4 (by decide)
        refine lv_iload_n hx hb dX4_layByLot_29 rfl (lv_at hl 0 rfl) ?_
        refine vp_callSi (va_Run.run (va_runS (As := [.int (sX4_nextSeed x2_4)]) (rest := []) ⟨hx, hb, hml, hown, hts⟩ (kX4_nextSeed l (sX4_nextSeed x2_4)) (va_cwS 1 hts gX4_layByLot_X4_nextSeed rfl rfl rfl mdsX4_nextSeed ⟨Nat.le_of_ble_eq_true rfl, Nat.le_of_ble_eq_true rfl⟩) s_pre rfl rfl hl.1 rfl (lv_room (Nat.le_of_ble_eq_true rfl)) dX4_layByLot_30 ⟨Nat.zero_le _, Nat.zero_le _⟩)) (fun rn_6 hr_6 => ?_)
        subst hr_6
        refine lv_istore_n (lv' := [(2, .int (sX4_nextSeed (sX4_nextSeed x2_4))), (3, .int x3_4), (0, .ref (ad 0))]) hx hb dX4_layByLot_33 rfl hl (by decide) rfl (fun ls hl => ?_)
        refine lv_aload_n hx hb dX4_layByLot_34 rfl (lv_at hl 2 rfl) ?_
        refine g4_leans hx hb hts hin4 hown hK hP (hts (.fieldLink RX4 21 "LoadedForTheLane$Wagon" "leans" "[I") (by decide +kernel)) dX4_layByLot_35 ?_
        refine lv_iload_n hx hb dX4_layByLot_38 rfl (lv_at hl 1 rfl) ?_
        refine lv_iload_n hx hb dX4_layByLot_39 rfl (lv_at hl 0 rfl) ?_
        refine lv_bipush (v := 11) hx hb dX4_layByLot_40 (by decide +kernel) ?_
        refine vp_callSi (va_Run.run (va_runS (As := [.int (sX4_nextSeed (sX4_nextSeed x2_4)), .int 11]) (rest := [.int x3_4, .ref (ad 4)]) ⟨hx, hb, hml, hown, hts⟩ (kX4_draw l (sX4_nextSeed (sX4_nextSeed x2_4)) 11) (va_cwS 2 hts gX4_layByLot_X4_draw rfl rfl rfl mdsX4_draw ⟨Nat.le_of_ble_eq_true rfl, Nat.le_of_ble_eq_true rfl⟩) s_pre rfl rfl hl.1 rfl (lv_room (Nat.le_of_ble_eq_true rfl)) dX4_layByLot_42 ⟨Nat.zero_le _, Nat.zero_le _⟩)) (fun rn_7 hr_7 => ?_)
        subst hr_7
        refine lv_iconst (v := 5) hx hb dX4_layByLot_45 (by decide) ?_
        refine lv_isub hx hb dX4_layByLot_46 ?_
        have ix_8 : vp_in x3_4 12 := ix_of (by omega) (by omega)
        refine a4_leans (j := (x3_4.toNatClampNeg)) hx hb hK hP (WGDa hd) hS ix_8 rfl dX4_layByLot_47 (fun H locs hP hS => ?_)
        obtain ⟨wn_8, hwn_8⟩ : ∃ x, x = st wn_5 3 (x3_4.toNatClampNeg) ((sX4_draw (sX4_nextSeed (sX4_nextSeed x2_4)) 11) - 5) := ⟨_, rfl⟩
        rw [← hwn_8] at hP
        have E := bns_e E hwn_8
        have hI_8 : R4I wn_8 := by rw [hwn_8]; exact R4I_arr hI_5 (by decide)
        refine lv_iinc (v := x3_4 + 1) (lv' := [(3, .int (x3_4 + 1)), (2, .int (sX4_nextSeed (sX4_nextSeed x2_4))), (0, .ref (ad 0))]) hx hb dX4_layByLot_48 hl (k := 1) rfl rfl (by decide) rfl (fun ls hl => ?_)
        refine lv_goto (tgt := 4) hx hb dX4_layByLot_51 (by decide) ?_
        try have := i_addr (a := x3_4) (b := 1) (n := 1) q_1 (by omega) (by omega)
        exact ih_4 ((sX4_nextSeed (sX4_nextSeed x2_4))) (x3_4 + 1) wn_8 H locs ls ⟨by omega, by omega⟩ (by omega) hI_8 hP hS (lv_sub hl [0, 1, 2] rfl) E
  have := q_0
  exact L_4 13 a1 0 w H locs ls ⟨by omega, by omega⟩ (by omega) hI hP hS (lv_sub hl [0, 1, 2] rfl) E
abbrev rmX4_sheavesHome : Room := { frames := 2, cells := 0, slots := 0, locals := 43 }
set_option maxHeartbeats 4000000 in
set_option maxRecDepth 100000 in
theorem kX4_sheavesHome (l : Launch) (D : va_G) (cI cC cQ : ClassId) (ad : Nat → Nat) (w : Nat → Nat → Int32) (a1 : Int32) (a2 : Int32) (a3 : Int32) (hd : WGD ad) (hI : R4I w) (h1 : 0 ≤ a1.toInt) (h2 : a1.toInt < 2) (h3 : 0 ≤ a3.toInt) (h4 : a3.toInt ≤ 999) : Met l yX4_sheavesHome wsX4_sheavesHome rmX4_sheavesHome (va_Pc [Value.ref (ad 0), Value.int a1, Value.int a2, Value.int a3] (fun U => va_P D vwCl (WG cI cQ ad w) U.heap ∧ va_K D vwCl [(cI, .int), (cC, .char), (cQ, .object "LoadedForTheLane$Way")] U ∧ NW U)) (va_Qi (fun r u => (r, u) = sX4_sheavesHome w a1 a2 a3 ∧ R4I u) (fun u t => va_P D vwCl (WG cI cQ ad u) t.heap) (WGA ad)) 0 0 (WGA ad) := by
  refine Met.ofW (cc := cX4_sheavesHome) (maxL := 12) (ret := (some .int)) (by decide) rfl ?_
  intro p e s m args below meth c s₁ B hml hv
  obtain ⟨rfl, hP, hK, hN⟩ := hv
  have hx := B.exec
  have hb := B.bytes
  have hr := B.returns
  have hts := atoms_spec (ws := wsX4_sheavesHome) B.pre
  have hown : s.vm.findClass RX4 = some m.cls := findClass_of_methodNamed B.named
  have hlocks := B.notSynchronized
  have hin4 : ∀ q ∈ wsX40, q ∈ wsX4_sheavesHome := by decide +kernel
  have hl := lv_entry ([.ref (ad 0), .int a1, .int a2, .int a3]) (n := 12) (Nat.le_of_ble_eq_true rfl)
  rw [lg_entry_eq]
  generalize (lg_sl ([.ref (ad 0), .int a1, .int a2, .int a3]) ++ List.replicate (12 - (lg_sl ([.ref (ad 0), .int a1, .int a2, .int a3])).length) Slot.unset).toArray = ls at hl ⊢
  have hl : lv_has ls 12 [(0, .ref (ad 0)), (1, .int a1), (2, .int a2), (3, .int a3)] := hl
  suffices hgo : ∀ (H : Heap) (locs : List Loc), va_P D vwCl (WG cI cQ ad w) H → va_S (WGA ad) s.heap H locs → W p l e (headSpec wsX4_sheavesHome rmX4_sheavesHome).room s m [Value.ref (ad 0), Value.int a1, Value.int a2, Value.int a3].toArray below meth c H locs 0 0 (MQ below (va_Qi (fun r u => (r, u) = sX4_sheavesHome w a1 a2 a3 ∧ R4I u) (fun u t => va_P D vwCl (WG cI cQ ad u) t.heap) (WGA ad)) [Value.ref (ad 0), Value.int a1, Value.int a2, Value.int a3].toArray s 0 0 (WGA ad)) (F0 m 0 ls []) from hgo s.heap [] hP va_S.rf
  intro H locs hP hS
  have E := sX4_sheavesHome.eq_1 w a1 a2 a3
  refine lv_aload_n hx hb dX4_sheavesHome_0 rfl (lv_at hl 0 rfl) ?_
  refine lv_aload_n hx hb dX4_sheavesHome_1 rfl (lv_at hl 0 rfl) ?_
  refine g4_settings hx hb hts hin4 hown hK hP (hts (.fieldLink RX4 42 "LoadedForTheLane$Wagon" "settings" "[I") (by decide +kernel)) dX4_sheavesHome_2 ?_
  refine lv_iconst (v := 2) hx hb dX4_sheavesHome_5 (by decide) ?_
  have ix_1 : vp_in 2 4 := by unfold vp_in; decide
  refine l4_settings (j := 2) hx hb hK hP ix_1 (by decide) dX4_sheavesHome_6 ?_
  refine vp_callSi (va_Run.run (va_runV (As := [.int (w 7 2)]) (rest := []) ⟨hx, hb, hml, hown, hts⟩ (kX4_pitchingMinutes l D cI cC cQ ad w (w 7 2) hI) (cwV 1 hts gX4_sheavesHome_X4_pitchingMinutes rfl rfl rfl mdX4_pitchingMinutes ⟨Nat.le_of_ble_eq_true rfl, Nat.le_of_ble_eq_true rfl⟩) (x4_pre hK hP hN) rfl rfl hl.1 rfl (lv_room (Nat.le_of_ble_eq_true rfl)) dX4_sheavesHome_7 ⟨Nat.zero_le _, Nat.zero_le _⟩)) (fun rn_2 hr_2 => ?_)
  subst hr_2
  refine lv_istore (lv' := [(4, .int (sX4_pitchingMinutes w (w 7 2))), (0, .ref (ad 0)), (1, .int a1), (2, .int a2), (3, .int a3)]) hx hb dX4_sheavesHome_10 hl (by decide) rfl (fun ls hl => ?_)
  refine lv_aload_n hx hb dX4_sheavesHome_12 rfl (lv_at hl 1 rfl) ?_
  refine g4_ways hx hb hts hin4 hown hK hP (hts (.fieldLink RX4 48 "LoadedForTheLane$Wagon" "ways" "[LLoadedForTheLane$Way;") (by decide +kernel)) dX4_sheavesHome_13 ?_
  refine lv_iload_n hx hb dX4_sheavesHome_16 rfl (lv_at hl 2 rfl) ?_
  have ix_3 : vp_in a1 2 := ix_of (by omega) (by omega)
  refine q4_ways (j := (a1.toNatClampNeg)) hx hb hK hP ix_3 rfl dX4_sheavesHome_17 ?_
  have hk_3 : (a1.toNatClampNeg) < 2 := by have := ix_cl (x := a1) (by omega); omega
  refine vp_callSi (va_Run.run (va_runVN (As := []) (rest := []) ⟨hx, hb, hml, hown, hts⟩ (kX5_allMinutes l D cI cC cQ (fun j => ad (10 + 4 * (a1.toNatClampNeg) + j)) (wy w (a1.toNatClampNeg)) (R5I_of hI hk_3)) ⟨va_cnB 0 hts gX4_sheavesHome_X5_allMinutes_n160 rfl rfl rfl (nm_RX4_160 hN) (hts (.initialized RX5) (by decide +kernel)) mdsX5_allMinutes ⟨Nat.le_of_ble_eq_true rfl, Nat.le_of_ble_eq_true rfl⟩, hts (.instanceMethod yX5_allMinutes) (by decide +kernel), hts (.selects RX5 yX5_allMinutes yX5_allMinutes) (by decide +kernel)⟩ (x5_pre hK (wg_way hk_3 hP)) rfl rfl hl.1 rfl (lv_room (Nat.le_of_ble_eq_true rfl)) dX4_sheavesHome_18 ⟨Nat.zero_le _, Nat.zero_le _⟩)) (fun rn_4 hr_4 => ?_)
  subst hr_4
  refine lv_istore (lv' := [(5, .int (sX5_allMinutes (wy w (a1.toNatClampNeg)))), (4, .int (sX4_pitchingMinutes w (w 7 2))), (0, .ref (ad 0)), (1, .int a1), (2, .int a2), (3, .int a3)]) hx hb dX4_sheavesHome_21 hl (by decide) rfl (fun ls hl => ?_)
  refine lv_iconst (v := 0) hx hb dX4_sheavesHome_23 (by decide) ?_
  refine lv_istore (lv' := [(6, .int 0), (5, .int (sX5_allMinutes (wy w (a1.toNatClampNeg)))), (4, .int (sX4_pitchingMinutes w (w 7 2))), (0, .ref (ad 0)), (1, .int a1), (2, .int a2), (3, .int a3)]) hx hb dX4_sheavesHome_24 hl (by decide) rfl (fun ls hl => ?_)
  have L_26 : ∀ (n_26 : Nat) (x6_26 : Int32) (w_26 : Nat → Nat → Int32) (H : Heap) (locs : List Loc) (ls : Array Slot), ((0 ≤ x6_26.toInt) ∧ (x6_26.toInt ≤ 4)) → (4 - x6_26.toInt < (n_26 : Int)) → R4I w_26 → va_P D vwCl (WG cI cQ ad w_26) H → va_S (WGA ad) s.heap H locs → lv_has ls 12 [(6, .int x6_26), (5, .int (sX5_allMinutes (wy w (a1.toNatClampNeg)))), (4, .int (sX4_pitchingMinutes w (w 7 2))), (0, .ref (ad 0)), (2, .int a2), (3, .int a3)] → sX4_sheavesHome w a1 a2 a3 = sX4_sheavesHome_26 w a1 a2 a3 n_26 x6_26 w_26 → W p l e (headSpec wsX4_sheavesHome rmX4_sheavesHome).room s m [Value.ref (ad 0), Value.int a1, Value.int a2, Value.int a3].toArray below meth c H locs 0 0 (MQ below (va_Qi (fun r u => (r, u) = sX4_sheavesHome w a1 a2 a3 ∧ R4I u) (fun u t => va_P D vwCl (WG cI cQ ad u) t.heap) (WGA ad)) [Value.ref (ad 0), Value.int a1, Value.int a2, Value.int a3].toArray s 0 0 (WGA ad)) (F0 m 26 ls []) := by
    intro n_26
    induction n_26 with
    | zero =>
      intro x6_26 w_26 H locs ls hinv hm
      obtain ⟨v0_26, v1_26⟩ := hinv
      exact absurd hm (by omega)
    | succ n_26 ih_26 =>
      intro x6_26 w_26 H locs ls hinv hm_26 hI_26 hP hS hl E
      obtain ⟨v0_26, v1_26⟩ := hinv
      have E := E.trans (sX4_sheavesHome_26.eq_2 ..)
      refine lv_iload hx hb dX4_sheavesHome_26 (lv_at hl 0 rfl) ?_
      refine lv_aload_n hx hb dX4_sheavesHome_28 rfl (lv_at hl 3 rfl) ?_
      refine g4_backAt hx hb hts hin4 hown hK hP (hts (.fieldLink RX4 52 "LoadedForTheLane$Wagon" "backAt" "[I") (by decide +kernel)) dX4_sheavesHome_29 ?_
      refine n4_backAt (v := 4) hx hb hK hP (by decide) dX4_sheavesHome_32 ?_
      refine lv_icmp_ge (tgt := 50) hx hb dX4_sheavesHome_33 (by decide) (fun c_5 => ?_) (fun c_5 => ?_)
      · have E := E.trans (if_pos c_5)
        have fc_5 := i_le c_5
        rw [q_4] at fc_5
        refine lv_iconst (v := 0) hx hb dX4_sheavesHome_50 (by decide) ?_
        refine lv_istore (lv' := [(6, .int 0), (5, .int (sX5_allMinutes (wy w (a1.toNatClampNeg)))), (4, .int (sX4_pitchingMinutes w (w 7 2))), (0, .ref (ad 0)), (2, .int a2), (3, .int a3)]) hx hb dX4_sheavesHome_51 hl (by decide) rfl (fun ls hl => ?_)
        refine lv_iconst (v := 0) hx hb dX4_sheavesHome_53 (by decide) ?_
        refine lv_istore (lv' := [(7, .int 0), (6, .int 0), (5, .int (sX5_allMinutes (wy w (a1.toNatClampNeg)))), (4, .int (sX4_pitchingMinutes w (w 7 2))), (0, .ref (ad 0)), (2, .int a2), (3, .int a3)]) hx hb dX4_sheavesHome_54 hl (by decide) rfl (fun ls hl => ?_)
        refine lv_iconst (v := 0) hx hb dX4_sheavesHome_56 (by decide) ?_
        refine lv_istore (lv' := [(8, .int 0), (7, .int 0), (6, .int 0), (5, .int (sX5_allMinutes (wy w (a1.toNatClampNeg)))), (4, .int (sX4_pitchingMinutes w (w 7 2))), (0, .ref (ad 0)), (2, .int a2), (3, .int a3)]) hx hb dX4_sheavesHome_57 hl (by decide) rfl (fun ls hl => ?_)
        have L_59 : ∀ (n_59 : Nat) (x6_59 : Int32) (x7_59 : Int32) (x8_59 : Int32) (w_59 : Nat → Nat → Int32) (H : Heap) (locs : List Loc) (ls : Array Slot), ((0 ≤ x8_59.toInt) ∧ (x8_59.toInt ≤ a3.toInt)) → (a3.toInt - x8_59.toInt < (n_59 : Int)) → R4I w_59 → va_P D vwCl (WG cI cQ ad w_59) H → va_S (WGA ad) s.heap H locs → lv_has ls 12 [(8, .int x8_59), (7, .int x7_59), (6, .int x6_59), (5, .int (sX5_allMinutes (wy w (a1.toNatClampNeg)))), (4, .int (sX4_pitchingMinutes w (w 7 2))), (0, .ref (ad 0)), (2, .int a2), (3, .int a3)] → sX4_sheavesHome w a1 a2 a3 = sX4_sheavesHome_59 w a1 a2 a3 n_59 x6_59 x7_59 x8_59 w_59 → W p l e (headSpec wsX4_sheavesHome rmX4_sheavesHome).room s m [Value.ref (ad 0), Value.int a1, Value.int a2, Value.int a3].toArray below meth c H locs 0 0 (MQ below (va_Qi (fun r u => (r, u) = sX4_sheavesHome w a1 a2 a3 ∧ R4I u) (fun u t => va_P D vwCl (WG cI cQ ad u) t.heap) (WGA ad)) [Value.ref (ad 0), Value.int a1, Value.int a2, Value.int a3].toArray s 0 0 (WGA ad)) (F0 m 59 ls []) := by
          intro n_59
          induction n_59 with
          | zero =>
            intro x6_59 x7_59 x8_59 w_59 H locs ls hinv hm
            obtain ⟨v0_59, v1_59⟩ := hinv
            exact absurd hm (by omega)
          | succ n_59 ih_59 =>
            intro x6_59 x7_59 x8_59 w_59 H locs ls hinv hm_59 hI_59 hP hS hl E
            obtain ⟨v0_59, v1_59⟩ := hinv
            have E := E.trans (sX4_sheavesHome_59.eq_2 ..)
            refine lv_iload hx hb dX4_sheavesHome_59 (lv_at hl 0 rfl) ?_
            refine lv_iload_n hx hb dX4_sheavesHome_61 rfl (lv_at hl 7 rfl) ?_
            refine lv_icmp_ge (tgt := 133) hx hb dX4_sheavesHome_62 (by decide) (fun c_6 => ?_) (fun c_6 => ?_)
            · have E := E.trans (if_pos c_6)
              have fc_6 := i_le c_6
              refine lv_aload_n hx hb dX4_sheavesHome_133 rfl (lv_at hl 5 rfl) ?_
              refine g4_settings hx hb hts hin4 hown hK hP (hts (.fieldLink RX4 42 "LoadedForTheLane$Wagon" "settings" "[I") (by decide +kernel)) dX4_sheavesHome_134 ?_
              refine lv_iconst (v := 3) hx hb dX4_sheavesHome_137 (by decide) ?_
              have ix_7 : vp_in 3 4 := by unfold vp_in; decide
              refine l4_settings (j := 3) hx hb hK hP ix_7 (by decide) dX4_sheavesHome_138 ?_
              refine lv_iload hx hb dX4_sheavesHome_139 (lv_at hl 1 rfl) ?_
              refine lv_aload_n hx hb dX4_sheavesHome_141 rfl (lv_at hl 5 rfl) ?_
              refine vp_callSi (va_Run.run (va_runV (As := []) (rest := [.int x7_59, .int (w_59 7 3)]) ⟨hx, hb, hml, hown, hts⟩ (kX4_allSheaves l D cI cC cQ ad w_59 hI_59) (cwV 0 hts gX4_sheavesHome_X4_allSheaves rfl rfl rfl mdX4_allSheaves ⟨Nat.le_of_ble_eq_true rfl, Nat.le_of_ble_eq_true rfl⟩) (x4_pre hK hP hN) rfl rfl hl.1 rfl (lv_room (Nat.le_of_ble_eq_true rfl)) dX4_sheavesHome_142 ⟨Nat.zero_le _, Nat.zero_le _⟩)) (fun rn_8 hr_8 => ?_)
              subst hr_8
              refine lv_imul hx hb dX4_sheavesHome_145 ?_
              refine va_mmin hx hb (hml.trans hl.1.symm) hown (hts (.methodLink RX4 97 Lib.Math.min.name) (by decide +kernel)) (hts (.static Lib.Math.min.name) (by decide +kernel)) (hts (.initialized "java/lang/Math") (by decide +kernel)) (hts (.code Lib.Math.min.name Lib.Math.min.code 2 (some .int)) (by decide +kernel)) (Nat.le_of_ble_eq_true rfl) (Nat.le_of_ble_eq_true rfl) (Nat.zero_le _) (Nat.zero_le _) dX4_sheavesHome_146 ?_
              have hmm_146 := i_min_le (x := w_59 7 3) (y := x7_59 * (sX4_allSheaves w_59))
              exact W.iret (v := (if x7_59 * (sX4_allSheaves w_59) < w_59 7 3 then x7_59 * (sX4_allSheaves w_59) else w_59 7 3)) hx hb hr (fun t ht hW => ⟨⟨_, w_59, rfl, ⟨E.symm, hI_59⟩, by show va_P _ _ _ t.heap; rw [ht]; exact hP⟩, hS.F ht⟩) hS.2.2 dX4_sheavesHome_149
            · have E := E.trans (if_neg c_6)
              have fc_6 := i_nle c_6
              refine lv_aload_n hx hb dX4_sheavesHome_65 rfl (lv_at hl 5 rfl) ?_
              refine lv_iload_n hx hb dX4_sheavesHome_66 rfl (lv_at hl 6 rfl) ?_
              refine vp_callSi (va_Run.run (va_runV (As := [.int a2]) (rest := []) ⟨hx, hb, hml, hown, hts⟩ (kX4_firstBack l D cI cC cQ ad w_59 a2) (cwV 1 hts gX4_sheavesHome_X4_firstBack rfl rfl rfl mdX4_firstBack ⟨Nat.le_of_ble_eq_true rfl, Nat.le_of_ble_eq_true rfl⟩) (x4_pre hK hP hN) rfl rfl hl.1 rfl (lv_room (Nat.le_of_ble_eq_true rfl)) dX4_sheavesHome_67 ⟨Nat.zero_le _, Nat.zero_le _⟩)) (fun rn_9 hr_9 => ?_)
              subst hr_9
              have rf_9 := rX4_firstBack w_59 a2
              refine lv_istore (lv' := [(9, .int (sX4_firstBack w_59 a2)), (8, .int x8_59), (7, .int x7_59), (6, .int x6_59), (5, .int (sX5_allMinutes (wy w (a1.toNatClampNeg)))), (4, .int (sX4_pitchingMinutes w (w 7 2))), (0, .ref (ad 0)), (2, .int a2), (3, .int a3)]) hx hb dX4_sheavesHome_70 hl (by decide) rfl (fun ls hl => ?_)
              refine lv_iload hx hb dX4_sheavesHome_72 (lv_at hl 3 rfl) ?_
              refine lv_aload_n hx hb dX4_sheavesHome_74 rfl (lv_at hl 6 rfl) ?_
              refine g4_backAt hx hb hts hin4 hown hK hP (hts (.fieldLink RX4 52 "LoadedForTheLane$Wagon" "backAt" "[I") (by decide +kernel)) dX4_sheavesHome_75 ?_
              refine lv_iload hx hb dX4_sheavesHome_78 (lv_at hl 0 rfl) ?_
              have ix_10 : vp_in (sX4_firstBack w_59 a2) 4 := ix_of (by omega) (by omega)
              refine l4_backAt (j := ((sX4_firstBack w_59 a2).toNatClampNeg)) hx hb hK hP ix_10 rfl dX4_sheavesHome_80 ?_
              refine va_mmax hx hb (hml.trans hl.1.symm) hown (hts (.methodLink RX4 100 Lib.Math.max.name) (by decide +kernel)) (hts (.static Lib.Math.max.name) (by decide +kernel)) (hts (.initialized "java/lang/Math") (by decide +kernel)) (hts (.code Lib.Math.max.name Lib.Math.max.code 2 (some .int)) (by decide +kernel)) (Nat.le_of_ble_eq_true rfl) (Nat.le_of_ble_eq_true rfl) (Nat.zero_le _) (Nat.zero_le _) dX4_sheavesHome_81 ?_
              refine lv_iload hx hb dX4_sheavesHome_84 (lv_at hl 5 rfl) ?_
              refine lv_iadd hx hb dX4_sheavesHome_86 ?_
              refine lv_istore (lv' := [(10, .int ((if x6_59 < w_59 9 ((sX4_firstBack w_59 a2).toNatClampNeg) then w_59 9 ((sX4_firstBack w_59 a2).toNatClampNeg) else x6_59) + (sX4_pitchingMinutes w (w 7 2)))), (9, .int (sX4_firstBack w_59 a2)), (8, .int x8_59), (7, .int x7_59), (6, .int x6_59), (5, .int (sX5_allMinutes (wy w (a1.toNatClampNeg)))), (4, .int (sX4_pitchingMinutes w (w 7 2))), (0, .ref (ad 0)), (2, .int a2), (3, .int a3)]) hx hb dX4_sheavesHome_87 hl (by decide) rfl (fun ls hl => ?_)
              refine lv_iload hx hb dX4_sheavesHome_89 (lv_at hl 0 rfl) ?_
              refine lv_iload hx hb dX4_sheavesHome_91 (lv_at hl 5 rfl) ?_
              refine lv_iadd hx hb dX4_sheavesHome_93 ?_
              refine lv_iload hx hb dX4_sheavesHome_94 (lv_at hl 6 rfl) ?_
              refine lv_iadd hx hb dX4_sheavesHome_96 ?_
              refine lv_istore (lv' := [(11, .int ((((if x6_59 < w_59 9 ((sX4_firstBack w_59 a2).toNatClampNeg) then w_59 9 ((sX4_firstBack w_59 a2).toNatClampNeg) else x6_59) + (sX4_pitchingMinutes w (w 7 2))) + (sX5_allMinutes (wy w (a1.toNatClampNeg)))) + (sX4_pitchingMinutes w (w 7 2)))), (10, .int ((if x6_59 < w_59 9 ((sX4_firstBack w_59 a2).toNatClampNeg) then w_59 9 ((sX4_firstBack w_59 a2).toNatClampNeg) else x6_59) + (sX4_pitchingMinutes w (w 7 2)))), (9, .int (sX4_firstBack w_59 a2)), (8, .int x8_59), (7, .int x7_59), (6, .int x6_59), (5, .int (sX5_allMinutes (wy w (a1.toNatClampNeg)))), (4, .int (sX4_pitchingMinutes w (w 7 2))), (0, .ref (ad 0)), (2, .int a2), (3, .int a3)]) hx hb dX4_sheavesHome_97 hl (by decide) rfl (fun ls hl => ?_)
              refine lv_iload hx hb dX4_sheavesHome_99 (lv_at hl 0 rfl) ?_
              refine lv_iload_n hx hb dX4_sheavesHome_101 rfl (lv_at hl 10 rfl) ?_
              try have := i_add (a := (if x6_59 < w_59 9 ((sX4_firstBack w_59 a2).toNatClampNeg) then w_59 9 ((sX4_firstBack w_59 a2).toNatClampNeg) else x6_59)) (b := (sX4_pitchingMinutes w (w 7 2))) (by omega) (by omega)
              try have := i_add (a := (if x6_59 < w_59 9 ((sX4_firstBack w_59 a2).toNatClampNeg) then w_59 9 ((sX4_firstBack w_59 a2).toNatClampNeg) else x6_59) + (sX4_pitchingMinutes w (w 7 2))) (b := (sX5_allMinutes (wy w (a1.toNatClampNeg)))) (by omega) (by omega)
              try have := i_add (a := ((if x6_59 < w_59 9 ((sX4_firstBack w_59 a2).toNatClampNeg) then w_59 9 ((sX4_firstBack w_59 a2).toNatClampNeg) else x6_59) + (sX4_pitchingMinutes w (w 7 2))) + (sX5_allMinutes (wy w (a1.toNatClampNeg)))) (b := (sX4_pitchingMinutes w (w 7 2))) (by omega) (by omega)
              refine lv_icmp_le (tgt := 108) hx hb dX4_sheavesHome_102 (by decide) (fun c_11 => ?_) (fun c_11 => ?_)
              · have E := E.trans (if_pos c_11)
                have fc_11 := i_le c_11
                refine lv_iinc (v := x7_59 + 1) (lv' := [(7, .int (x7_59 + 1)), (11, .int ((((if x6_59 < w_59 9 ((sX4_firstBack w_59 a2).toNatClampNeg) then w_59 9 ((sX4_firstBack w_59 a2).toNatClampNeg) else x6_59) + (sX4_pitchingMinutes w (w 7 2))) + (sX5_allMinutes (wy w (a1.toNatClampNeg)))) + (sX4_pitchingMinutes w (w 7 2)))), (10, .int ((if x6_59 < w_59 9 ((sX4_firstBack w_59 a2).toNatClampNeg) then w_59 9 ((sX4_firstBack w_59 a2).toNatClampNeg) else x6_59) + (sX4_pitchingMinutes w (w 7 2)))), (9, .int (sX4_firstBack w_59 a2)), (8, .int x8_59), (6, .int x6_59), (5, .int (sX5_allMinutes (wy w (a1.toNatClampNeg)))), (4, .int (sX4_pitchingMinutes w (w 7 2))), (0, .ref (ad 0)), (2, .int a2), (3, .int a3)]) hx hb dX4_sheavesHome_108 hl (k := 4) rfl rfl (by decide) rfl (fun ls hl => ?_)
                refine lv_iload hx hb dX4_sheavesHome_111 (lv_at hl 2 rfl) ?_
                refine lv_istore (lv' := [(6, .int ((if x6_59 < w_59 9 ((sX4_firstBack w_59 a2).toNatClampNeg) then w_59 9 ((sX4_firstBack w_59 a2).toNatClampNeg) else x6_59) + (sX4_pitchingMinutes w (w 7 2)))), (7, .int (x7_59 + 1)), (11, .int ((((if x6_59 < w_59 9 ((sX4_firstBack w_59 a2).toNatClampNeg) then w_59 9 ((sX4_firstBack w_59 a2).toNatClampNeg) else x6_59) + (sX4_pitchingMinutes w (w 7 2))) + (sX5_allMinutes (wy w (a1.toNatClampNeg)))) + (sX4_pitchingMinutes w (w 7 2)))), (10, .int ((if x6_59 < w_59 9 ((sX4_firstBack w_59 a2).toNatClampNeg) then w_59 9 ((sX4_firstBack w_59 a2).toNatClampNeg) else x6_59) + (sX4_pitchingMinutes w (w 7 2)))), (9, .int (sX4_firstBack w_59 a2)), (8, .int x8_59), (5, .int (sX5_allMinutes (wy w (a1.toNatClampNeg)))), (4, .int (sX4_pitchingMinutes w (w 7 2))), (0, .ref (ad 0)), (2, .int a2), (3, .int a3)]) hx hb dX4_sheavesHome_113 hl (by decide) rfl (fun ls hl => ?_)
                refine lv_aload_n hx hb dX4_sheavesHome_115 rfl (lv_at hl 8 rfl) ?_
                refine g4_backAt hx hb hts hin4 hown hK hP (hts (.fieldLink RX4 52 "LoadedForTheLane$Wagon" "backAt" "[I") (by decide +kernel)) dX4_sheavesHome_116 ?_
                refine lv_iload hx hb dX4_sheavesHome_119 (lv_at hl 4 rfl) ?_
                refine lv_iload hx hb dX4_sheavesHome_121 (lv_at hl 2 rfl) ?_
                refine lv_iload hx hb dX4_sheavesHome_123 (lv_at hl 6 rfl) ?_
                refine lv_iadd hx hb dX4_sheavesHome_125 ?_
                have ix_12 : vp_in (sX4_firstBack w_59 a2) 4 := ix_of (by omega) (by omega)
                refine a4_backAt (j := ((sX4_firstBack w_59 a2).toNatClampNeg)) hx hb hK hP (WGDa hd) hS ix_12 rfl dX4_sheavesHome_126 (fun H locs hP hS => ?_)
                obtain ⟨wn_12, hwn_12⟩ : ∃ x, x = st w_59 9 ((sX4_firstBack w_59 a2).toNatClampNeg) (((((if x6_59 < w_59 9 ((sX4_firstBack w_59 a2).toNatClampNeg) then w_59 9 ((sX4_firstBack w_59 a2).toNatClampNeg) else x6_59) + (sX4_pitchingMinutes w (w 7 2))) + (sX5_allMinutes (wy w (a1.toNatClampNeg)))) + (sX4_pitchingMinutes w (w 7 2))) + (sX5_allMinutes (wy w (a1.toNatClampNeg)))) := ⟨_, rfl⟩
                rw [← hwn_12] at hP
                have E := bns_e E hwn_12
                have hI_12 : R4I wn_12 := by rw [hwn_12]; exact R4I_arr hI_59 (by decide)
                refine lv_iinc (v := x8_59 + 1) (lv' := [(8, .int (x8_59 + 1)), (6, .int ((if x6_59 < w_59 9 ((sX4_firstBack w_59 a2).toNatClampNeg) then w_59 9 ((sX4_firstBack w_59 a2).toNatClampNeg) else x6_59) + (sX4_pitchingMinutes w (w 7 2)))), (7, .int (x7_59 + 1)), (11, .int ((((if x6_59 < w_59 9 ((sX4_firstBack w_59 a2).toNatClampNeg) then w_59 9 ((sX4_firstBack w_59 a2).toNatClampNeg) else x6_59) + (sX4_pitchingMinutes w (w 7 2))) + (sX5_allMinutes (wy w (a1.toNatClampNeg)))) + (sX4_pitchingMinutes w (w 7 2)))), (10, .int ((if x6_59 < w_59 9 ((sX4_firstBack w_59 a2).toNatClampNeg) then w_59 9 ((sX4_firstBack w_59 a2).toNatClampNeg) else x6_59) + (sX4_pitchingMinutes w (w 7 2)))), (9, .int (sX4_firstBack w_59 a2)), (5, .int (sX5_allMinutes (wy w (a1.toNatClampNeg)))), (4, .int (sX4_pitchingMinutes w (w 7 2))), (0, .ref (ad 0)), (2, .int a2), (3, .int a3)]) hx hb dX4_sheavesHome_127 hl (k := 5) rfl rfl (by decide) rfl (fun ls hl => ?_)
                refine lv_goto (tgt := 59) hx hb dX4_sheavesHome_130 (by decide) ?_
                try have := i_addr (a := x8_59) (b := 1) (n := 1) q_1 (by omega) (by omega)
                exact ih_59 ((if x6_59 < w_59 9 ((sX4_firstBack w_59 a2).toNatClampNeg) then w_59 9 ((sX4_firstBack w_59 a2).toNatClampNeg) else x6_59) + (sX4_pitchingMinutes w (w 7 2))) (x7_59 + 1) (x8_59 + 1) wn_12 H locs ls ⟨by omega, by omega⟩ (by omega) hI_12 hP hS (lv_sub hl [0, 2, 1, 6, 7, 8, 9, 10] rfl) E
              · have E := E.trans (if_neg c_11)
                have fc_11 := i_nle c_11
                refine lv_goto (tgt := 133) hx hb dX4_sheavesHome_105 (by decide) ?_
                refine lv_aload_n hx hb dX4_sheavesHome_133 rfl (lv_at hl 8 rfl) ?_
                refine g4_settings hx hb hts hin4 hown hK hP (hts (.fieldLink RX4 42 "LoadedForTheLane$Wagon" "settings" "[I") (by decide +kernel)) dX4_sheavesHome_134 ?_
                refine lv_iconst (v := 3) hx hb dX4_sheavesHome_137 (by decide) ?_
                have ix_13 : vp_in 3 4 := by unfold vp_in; decide
                refine l4_settings (j := 3) hx hb hK hP ix_13 (by decide) dX4_sheavesHome_138 ?_
                refine lv_iload hx hb dX4_sheavesHome_139 (lv_at hl 4 rfl) ?_
                refine lv_aload_n hx hb dX4_sheavesHome_141 rfl (lv_at hl 8 rfl) ?_
                refine vp_callSi (va_Run.run (va_runV (As := []) (rest := [.int x7_59, .int (w_59 7 3)]) ⟨hx, hb, hml, hown, hts⟩ (kX4_allSheaves l D cI cC cQ ad w_59 hI_59) (cwV 0 hts gX4_sheavesHome_X4_allSheaves rfl rfl rfl mdX4_allSheaves ⟨Nat.le_of_ble_eq_true rfl, Nat.le_of_ble_eq_true rfl⟩) (x4_pre hK hP hN) rfl rfl hl.1 rfl (lv_room (Nat.le_of_ble_eq_true rfl)) dX4_sheavesHome_142 ⟨Nat.zero_le _, Nat.zero_le _⟩)) (fun rn_14 hr_14 => ?_)
                subst hr_14
                refine lv_imul hx hb dX4_sheavesHome_145 ?_
                refine va_mmin hx hb (hml.trans hl.1.symm) hown (hts (.methodLink RX4 97 Lib.Math.min.name) (by decide +kernel)) (hts (.static Lib.Math.min.name) (by decide +kernel)) (hts (.initialized "java/lang/Math") (by decide +kernel)) (hts (.code Lib.Math.min.name Lib.Math.min.code 2 (some .int)) (by decide +kernel)) (Nat.le_of_ble_eq_true rfl) (Nat.le_of_ble_eq_true rfl) (Nat.zero_le _) (Nat.zero_le _) dX4_sheavesHome_146 ?_
                have hmm_146 := i_min_le (x := w_59 7 3) (y := x7_59 * (sX4_allSheaves w_59))
                exact W.iret (v := (if x7_59 * (sX4_allSheaves w_59) < w_59 7 3 then x7_59 * (sX4_allSheaves w_59) else w_59 7 3)) hx hb hr (fun t ht hW => ⟨⟨_, w_59, rfl, ⟨E.symm, hI_59⟩, by show va_P _ _ _ t.heap; rw [ht]; exact hP⟩, hS.F ht⟩) hS.2.2 dX4_sheavesHome_149
        have := q_0
        exact L_59 1000 0 0 0 w_26 H locs ls ⟨by omega, by omega⟩ (by omega) hI_26 hP hS (lv_sub hl [0, 1, 2, 3, 4, 5, 6, 7] rfl) E
      · have E := E.trans (if_neg c_5)
        have fc_5 := i_nle c_5
        rw [q_4] at fc_5
        refine lv_aload_n hx hb dX4_sheavesHome_36 rfl (lv_at hl 3 rfl) ?_
        refine g4_backAt hx hb hts hin4 hown hK hP (hts (.fieldLink RX4 52 "LoadedForTheLane$Wagon" "backAt" "[I") (by decide +kernel)) dX4_sheavesHome_37 ?_
        refine lv_iload hx hb dX4_sheavesHome_40 (lv_at hl 0 rfl) ?_
        refine lv_iconst (v := 0) hx hb dX4_sheavesHome_42 (by decide) ?_
        have ix_15 : vp_in x6_26 4 := ix_of (by omega) (by omega)
        refine a4_backAt (j := (x6_26.toNatClampNeg)) hx hb hK hP (WGDa hd) hS ix_15 rfl dX4_sheavesHome_43 (fun H locs hP hS => ?_)
        obtain ⟨wn_15, hwn_15⟩ : ∃ x, x = st w_26 9 (x6_26.toNatClampNeg) 0 := ⟨_, rfl⟩
        rw [← hwn_15] at hP
        have E := bns_e E hwn_15
        have hI_15 : R4I wn_15 := by rw [hwn_15]; exact R4I_arr hI_26 (by decide)
        refine lv_iinc (v := x6_26 + 1) (lv' := [(6, .int (x6_26 + 1)), (5, .int (sX5_allMinutes (wy w (a1.toNatClampNeg)))), (4, .int (sX4_pitchingMinutes w (w 7 2))), (0, .ref (ad 0)), (2, .int a2), (3, .int a3)]) hx hb dX4_sheavesHome_44 hl (k := 0) rfl rfl (by decide) rfl (fun ls hl => ?_)
        refine lv_goto (tgt := 26) hx hb dX4_sheavesHome_47 (by decide) ?_
        try have := i_addr (a := x6_26) (b := 1) (n := 1) q_1 (by omega) (by omega)
        exact ih_26 (x6_26 + 1) wn_15 H locs ls ⟨by omega, by omega⟩ (by omega) hI_15 hP hS (lv_sub hl [0, 1, 2, 3, 4, 5] rfl) E
  have := q_0
  exact L_26 5 0 w H locs ls ⟨by omega, by omega⟩ (by omega) hI hP hS (lv_sub hl [0, 1, 2, 3, 5, 6] rfl) E
abbrev rmX5_become : Room := { frames := 1, cells := 0, slots := 0, locals := 18 }
set_option maxHeartbeats 4000000 in
set_option maxRecDepth 100000 in
theorem kX5_become (l : Launch) (D : va_G) (cI cC cQ : ClassId) (ad bd : Nat → Nat) (w : Nat → Nat → Int32) (v : Nat → Nat → Int32) (hd : WYDD ad bd) (hI : R5I w) (hIv : R5I v)  : Met l yX5_become wsX5_become rmX5_become (va_Pc [Value.ref (ad 0), Value.ref (bd 0)] (fun U => va_P D vwCl (WY cI ad w ++ WY cI bd v) U.heap ∧ va_K D vwCl [(cI, .int), (cC, .char), (cQ, .object "LoadedForTheLane$Way")] U)) (va_Qv (fun u => u = sX5_become w v ∧ R5I u) (fun u t => va_P D vwCl (WY cI ad u ++ WY cI bd v) t.heap) (WYB ad bd)) 0 0 (WYB ad bd) := by
  refine Met.ofW (cc := cX5_become) (maxL := 2) (ret := none) (by decide) rfl ?_
  intro p e s m args below meth c s₁ B hml hv
  obtain ⟨rfl, hP, hK⟩ := hv
  have hx := B.exec
  have hb := B.bytes
  have hr := B.returns
  have hts := atoms_spec (ws := wsX5_become) B.pre
  have hown : s.vm.findClass RX5 = some m.cls := findClass_of_methodNamed B.named
  have hlocks := B.notSynchronized
  have hin5 : ∀ q ∈ wsX50, q ∈ wsX5_become := by decide +kernel
  have hl := lv_entry ([.ref (ad 0), .ref (bd 0)]) (n := 2) (Nat.le_of_ble_eq_true rfl)
  rw [lg_entry_eq]
  generalize (lg_sl ([.ref (ad 0), .ref (bd 0)]) ++ List.replicate (2 - (lg_sl ([.ref (ad 0), .ref (bd 0)])).length) Slot.unset).toArray = ls at hl ⊢
  have hl : lv_has ls 2 [(0, .ref (ad 0)), (1, .ref (bd 0))] := hl
  suffices hgo : ∀ (H : Heap) (locs : List Loc), va_P D vwCl (WY cI ad w ++ WY cI bd v) H → va_S (WYB ad bd) s.heap H locs → W p l e (headSpec wsX5_become rmX5_become).room s m [Value.ref (ad 0), Value.ref (bd 0)].toArray below meth c H locs 0 0 (MQ below (va_Qv (fun u => u = sX5_become w v ∧ R5I u) (fun u t => va_P D vwCl (WY cI ad u ++ WY cI bd v) t.heap) (WYB ad bd)) [Value.ref (ad 0), Value.ref (bd 0)].toArray s 0 0 (WYB ad bd)) (F0 m 0 ls []) from hgo s.heap [] hP va_S.rf
  intro H locs hP hS
  have E := sX5_become.eq_1 w v
  refine lv_aload_n hx hb dX5_become_0 rfl (lv_at hl 1 rfl) ?_
  refine g5_kinds hx hb hts hin5 hown hK (pb_5 (cQ := cI) hP) (hts (.fieldLink RX5 9 "LoadedForTheLane$Way" "kinds" "[I") (by decide +kernel)) dX5_become_1 ?_
  refine lv_iconst (v := 0) hx hb dX5_become_4 (by decide) ?_
  refine lv_aload_n hx hb dX5_become_5 rfl (lv_at hl 0 rfl) ?_
  refine g5_kinds hx hb hts hin5 hown hK (pa_5 (cQ := cI) hP) (hts (.fieldLink RX5 9 "LoadedForTheLane$Way" "kinds" "[I") (by decide +kernel)) dX5_become_6 ?_
  refine lv_iconst (v := 0) hx hb dX5_become_9 (by decide) ?_
  refine lv_bipush (v := 6) hx hb dX5_become_10 (by decide +kernel) ?_
  refine cp5_kinds hx hb (hml.trans hl.1.symm) hown (hts (.methodLink RX5 25 arraycopyName) (by decide +kernel)) (hts (.native arraycopyName) (by decide +kernel)) (hts (.static arraycopyName) (by decide +kernel)) (hts (.initialized "java/lang/System") (by decide +kernel)) hK hP hd hS (Nat.le_of_ble_eq_true rfl) (Nat.le_of_ble_eq_true rfl) dX5_become_12 (fun H locs hP hS => ?_)
  obtain ⟨wn_1, hwn_1⟩ : ∃ x, x = sr w 0 (va_cpy (v 0) (w 0) 0 0 6) := ⟨_, rfl⟩
  rw [← hwn_1] at hP
  have E := bns_e E hwn_1
  have hI_1 : R5I wn_1 := by rw [hwn_1]; exact R5I_row hI (by decide)
  refine lv_aload_n hx hb dX5_become_15 rfl (lv_at hl 1 rfl) ?_
  refine g5_figures hx hb hts hin5 hown hK (pb_5 (cQ := cI) hP) (hts (.fieldLink RX5 15 "LoadedForTheLane$Way" "figures" "[I") (by decide +kernel)) dX5_become_16 ?_
  refine lv_iconst (v := 0) hx hb dX5_become_19 (by decide) ?_
  refine lv_aload_n hx hb dX5_become_20 rfl (lv_at hl 0 rfl) ?_
  refine g5_figures hx hb hts hin5 hown hK (pa_5 (cQ := cI) hP) (hts (.fieldLink RX5 15 "LoadedForTheLane$Way" "figures" "[I") (by decide +kernel)) dX5_become_21 ?_
  refine lv_iconst (v := 0) hx hb dX5_become_24 (by decide) ?_
  refine lv_bipush (v := 6) hx hb dX5_become_25 (by decide +kernel) ?_
  refine cp5_figures hx hb (hml.trans hl.1.symm) hown (hts (.methodLink RX5 25 arraycopyName) (by decide +kernel)) (hts (.native arraycopyName) (by decide +kernel)) (hts (.static arraycopyName) (by decide +kernel)) (hts (.initialized "java/lang/System") (by decide +kernel)) hK hP hd hS (Nat.le_of_ble_eq_true rfl) (Nat.le_of_ble_eq_true rfl) dX5_become_27 (fun H locs hP hS => ?_)
  obtain ⟨wn_2, hwn_2⟩ : ∃ x, x = sr wn_1 1 (va_cpy (v 1) (wn_1 1) 0 0 6) := ⟨_, rfl⟩
  rw [← hwn_2] at hP
  have E := bns_e E hwn_2
  have hI_2 : R5I wn_2 := by rw [hwn_2]; exact R5I_row hI_1 (by decide)
  refine lv_aload_n hx hb dX5_become_30 rfl (lv_at hl 1 rfl) ?_
  refine g5_minutes hx hb hts hin5 hown hK (pb_5 (cQ := cI) hP) (hts (.fieldLink RX5 18 "LoadedForTheLane$Way" "minutes" "[I") (by decide +kernel)) dX5_become_31 ?_
  refine lv_iconst (v := 0) hx hb dX5_become_34 (by decide) ?_
  refine lv_aload_n hx hb dX5_become_35 rfl (lv_at hl 0 rfl) ?_
  refine g5_minutes hx hb hts hin5 hown hK (pa_5 (cQ := cI) hP) (hts (.fieldLink RX5 18 "LoadedForTheLane$Way" "minutes" "[I") (by decide +kernel)) dX5_become_36 ?_
  refine lv_iconst (v := 0) hx hb dX5_become_39 (by decide) ?_
  refine lv_bipush (v := 6) hx hb dX5_become_40 (by decide +kernel) ?_
  refine cp5_minutes hx hb (hml.trans hl.1.symm) hown (hts (.methodLink RX5 25 arraycopyName) (by decide +kernel)) (hts (.native arraycopyName) (by decide +kernel)) (hts (.static arraycopyName) (by decide +kernel)) (hts (.initialized "java/lang/System") (by decide +kernel)) hK hP hd hS (Nat.le_of_ble_eq_true rfl) (Nat.le_of_ble_eq_true rfl) dX5_become_42 (fun H locs hP hS => ?_)
  obtain ⟨wn_3, hwn_3⟩ : ∃ x, x = sr wn_2 2 (va_cpy (v 2) (wn_2 2) 0 0 6) := ⟨_, rfl⟩
  rw [← hwn_3] at hP
  have E := bns_e E hwn_3
  have hI_3 : R5I wn_3 := by rw [hwn_3]; exact R5I_row hI_2 (by decide)
  refine lv_aload_n hx hb dX5_become_45 rfl (lv_at hl 0 rfl) ?_
  refine lv_aload_n hx hb dX5_become_46 rfl (lv_at hl 1 rfl) ?_
  refine g5_pieces hx hb hts hin5 hown hK (pb_5 (cQ := cI) hP) (hts (.fieldLink RX5 21 "LoadedForTheLane$Way" "pieces" "I") (by decide +kernel)) dX5_become_47 ?_
  have f_4 := R5I_pieces hIv
  refine pb5_pieces hx hb hts hin5 hown hK hP hd hS (hts (.fieldLink RX5 21 "LoadedForTheLane$Way" "pieces" "I") (by decide +kernel)) dX5_become_50 (fun H locs hP hS => ?_)
  obtain ⟨wn_5, hwn_5⟩ : ∃ x, x = st wn_3 3 0 (v 3 0) := ⟨_, rfl⟩
  rw [← hwn_5] at hP
  have E := bns_e E hwn_5
  have hI_5 : R5I wn_5 := by rw [hwn_5]; exact R5I_put hI_3 (by omega) (by omega)
  exact W.vret hx hb hr (fun t ht hW => ⟨⟨wn_5, rfl, ⟨E.symm, hI_5⟩, by show va_P _ _ _ t.heap; rw [ht]; exact hP⟩, hS.F ht⟩) hS.2.2 dX5_become_53
abbrev rmX4_become : Room := { frames := 2, cells := 0, slots := 0, locals := 39 }
set_option maxHeartbeats 4000000 in
set_option maxRecDepth 100000 in
theorem kX4_become (l : Launch) (D : va_G) (cI cC cQ : ClassId) (ad bd : Nat → Nat) (w : Nat → Nat → Int32) (v : Nat → Nat → Int32) (hd : WGDD ad bd) (hI : R4I w) (hIv : R4I v)  : Met l yX4_become wsX4_become rmX4_become (va_Pc [Value.ref (ad 0), Value.ref (bd 0)] (fun U => va_P D vwCl (WG cI cQ ad w ++ WG cI cQ bd v) U.heap ∧ va_K D vwCl [(cI, .int), (cC, .char), (cQ, .object "LoadedForTheLane$Way")] U ∧ NW U)) (va_Qv (fun u => u = sX4_become w v ∧ R4I u) (fun u t => va_P D vwCl (WG cI cQ ad u ++ WG cI cQ bd v) t.heap) (WGB ad bd)) 0 0 (WGB ad bd) := by
  refine Met.ofW (cc := cX4_become) (maxL := 2) (ret := none) (by decide) rfl ?_
  intro p e s m args below meth c s₁ B hml hv
  obtain ⟨rfl, hP, hK, hN⟩ := hv
  have hx := B.exec
  have hb := B.bytes
  have hr := B.returns
  have hts := atoms_spec (ws := wsX4_become) B.pre
  have hown : s.vm.findClass RX4 = some m.cls := findClass_of_methodNamed B.named
  have hlocks := B.notSynchronized
  have hin4 : ∀ q ∈ wsX40, q ∈ wsX4_become := by decide +kernel
  have hl := lv_entry ([.ref (ad 0), .ref (bd 0)]) (n := 2) (Nat.le_of_ble_eq_true rfl)
  rw [lg_entry_eq]
  generalize (lg_sl ([.ref (ad 0), .ref (bd 0)]) ++ List.replicate (2 - (lg_sl ([.ref (ad 0), .ref (bd 0)])).length) Slot.unset).toArray = ls at hl ⊢
  have hl : lv_has ls 2 [(0, .ref (ad 0)), (1, .ref (bd 0))] := hl
  suffices hgo : ∀ (H : Heap) (locs : List Loc), va_P D vwCl (WG cI cQ ad w ++ WG cI cQ bd v) H → va_S (WGB ad bd) s.heap H locs → W p l e (headSpec wsX4_become rmX4_become).room s m [Value.ref (ad 0), Value.ref (bd 0)].toArray below meth c H locs 0 0 (MQ below (va_Qv (fun u => u = sX4_become w v ∧ R4I u) (fun u t => va_P D vwCl (WG cI cQ ad u ++ WG cI cQ bd v) t.heap) (WGB ad bd)) [Value.ref (ad 0), Value.ref (bd 0)].toArray s 0 0 (WGB ad bd)) (F0 m 0 ls []) from hgo s.heap [] hP va_S.rf
  intro H locs hP hS
  have E := sX4_become.eq_1 w v
  refine lv_aload_n hx hb dX4_become_0 rfl (lv_at hl 1 rfl) ?_
  refine g4_kinds hx hb hts hin4 hown hK (pb_4 hP) (hts (.fieldLink RX4 11 "LoadedForTheLane$Wagon" "kinds" "[I") (by decide +kernel)) dX4_become_1 ?_
  refine lv_iconst (v := 0) hx hb dX4_become_4 (by decide) ?_
  refine lv_aload_n hx hb dX4_become_5 rfl (lv_at hl 0 rfl) ?_
  refine g4_kinds hx hb hts hin4 hown hK (pa_4 hP) (hts (.fieldLink RX4 11 "LoadedForTheLane$Wagon" "kinds" "[I") (by decide +kernel)) dX4_become_6 ?_
  refine lv_iconst (v := 0) hx hb dX4_become_9 (by decide) ?_
  refine lv_bipush (v := 12) hx hb dX4_become_10 (by decide +kernel) ?_
  refine cp4_kinds hx hb (hml.trans hl.1.symm) hown (hts (.methodLink RX4 55 arraycopyName) (by decide +kernel)) (hts (.native arraycopyName) (by decide +kernel)) (hts (.static arraycopyName) (by decide +kernel)) (hts (.initialized "java/lang/System") (by decide +kernel)) hK hP hd hS (Nat.le_of_ble_eq_true rfl) (Nat.le_of_ble_eq_true rfl) dX4_become_12 (fun H locs hP hS => ?_)
  obtain ⟨wn_1, hwn_1⟩ : ∃ x, x = sr w 0 (va_cpy (v 0) (w 0) 0 0 12) := ⟨_, rfl⟩
  rw [← hwn_1] at hP
  have E := bns_e E hwn_1
  have hI_1 : R4I wn_1 := by rw [hwn_1]; exact R4I_row hI (by decide)
  refine lv_aload_n hx hb dX4_become_15 rfl (lv_at hl 1 rfl) ?_
  refine g4_sheaves hx hb hts hin4 hown hK (pb_4 hP) (hts (.fieldLink RX4 15 "LoadedForTheLane$Wagon" "sheaves" "[I") (by decide +kernel)) dX4_become_16 ?_
  refine lv_iconst (v := 0) hx hb dX4_become_19 (by decide) ?_
  refine lv_aload_n hx hb dX4_become_20 rfl (lv_at hl 0 rfl) ?_
  refine g4_sheaves hx hb hts hin4 hown hK (pa_4 hP) (hts (.fieldLink RX4 15 "LoadedForTheLane$Wagon" "sheaves" "[I") (by decide +kernel)) dX4_become_21 ?_
  refine lv_iconst (v := 0) hx hb dX4_become_24 (by decide) ?_
  refine lv_bipush (v := 12) hx hb dX4_become_25 (by decide +kernel) ?_
  refine cp4_sheaves hx hb (hml.trans hl.1.symm) hown (hts (.methodLink RX4 55 arraycopyName) (by decide +kernel)) (hts (.native arraycopyName) (by decide +kernel)) (hts (.static arraycopyName) (by decide +kernel)) (hts (.initialized "java/lang/System") (by decide +kernel)) hK hP hd hS (Nat.le_of_ble_eq_true rfl) (Nat.le_of_ble_eq_true rfl) dX4_become_27 (fun H locs hP hS => ?_)
  obtain ⟨wn_2, hwn_2⟩ : ∃ x, x = sr wn_1 1 (va_cpy (v 1) (wn_1 1) 0 0 12) := ⟨_, rfl⟩
  rw [← hwn_2] at hP
  have E := bns_e E hwn_2
  have hI_2 : R4I wn_2 := by rw [hwn_2]; exact R4I_row hI_1 (by decide)
  refine lv_aload_n hx hb dX4_become_30 rfl (lv_at hl 1 rfl) ?_
  refine g4_outs hx hb hts hin4 hown hK (pb_4 hP) (hts (.fieldLink RX4 18 "LoadedForTheLane$Wagon" "outs" "[I") (by decide +kernel)) dX4_become_31 ?_
  refine lv_iconst (v := 0) hx hb dX4_become_34 (by decide) ?_
  refine lv_aload_n hx hb dX4_become_35 rfl (lv_at hl 0 rfl) ?_
  refine g4_outs hx hb hts hin4 hown hK (pa_4 hP) (hts (.fieldLink RX4 18 "LoadedForTheLane$Wagon" "outs" "[I") (by decide +kernel)) dX4_become_36 ?_
  refine lv_iconst (v := 0) hx hb dX4_become_39 (by decide) ?_
  refine lv_bipush (v := 12) hx hb dX4_become_40 (by decide +kernel) ?_
  refine cp4_outs hx hb (hml.trans hl.1.symm) hown (hts (.methodLink RX4 55 arraycopyName) (by decide +kernel)) (hts (.native arraycopyName) (by decide +kernel)) (hts (.static arraycopyName) (by decide +kernel)) (hts (.initialized "java/lang/System") (by decide +kernel)) hK hP hd hS (Nat.le_of_ble_eq_true rfl) (Nat.le_of_ble_eq_true rfl) dX4_become_42 (fun H locs hP hS => ?_)
  obtain ⟨wn_3, hwn_3⟩ : ∃ x, x = sr wn_2 2 (va_cpy (v 2) (wn_2 2) 0 0 12) := ⟨_, rfl⟩
  rw [← hwn_3] at hP
  have E := bns_e E hwn_3
  have hI_3 : R4I wn_3 := by rw [hwn_3]; exact R4I_row hI_2 (by decide)
  refine lv_aload_n hx hb dX4_become_45 rfl (lv_at hl 1 rfl) ?_
  refine g4_leans hx hb hts hin4 hown hK (pb_4 hP) (hts (.fieldLink RX4 21 "LoadedForTheLane$Wagon" "leans" "[I") (by decide +kernel)) dX4_become_46 ?_
  refine lv_iconst (v := 0) hx hb dX4_become_49 (by decide) ?_
  refine lv_aload_n hx hb dX4_become_50 rfl (lv_at hl 0 rfl) ?_
  refine g4_leans hx hb hts hin4 hown hK (pa_4 hP) (hts (.fieldLink RX4 21 "LoadedForTheLane$Wagon" "leans" "[I") (by decide +kernel)) dX4_become_51 ?_
  refine lv_iconst (v := 0) hx hb dX4_become_54 (by decide) ?_
  refine lv_bipush (v := 12) hx hb dX4_become_55 (by decide +kernel) ?_
  refine cp4_leans hx hb (hml.trans hl.1.symm) hown (hts (.methodLink RX4 55 arraycopyName) (by decide +kernel)) (hts (.native arraycopyName) (by decide +kernel)) (hts (.static arraycopyName) (by decide +kernel)) (hts (.initialized "java/lang/System") (by decide +kernel)) hK hP hd hS (Nat.le_of_ble_eq_true rfl) (Nat.le_of_ble_eq_true rfl) dX4_become_57 (fun H locs hP hS => ?_)
  obtain ⟨wn_4, hwn_4⟩ : ∃ x, x = sr wn_3 3 (va_cpy (v 3) (wn_3 3) 0 0 12) := ⟨_, rfl⟩
  rw [← hwn_4] at hP
  have E := bns_e E hwn_4
  have hI_4 : R4I wn_4 := by rw [hwn_4]; exact R4I_row hI_3 (by decide)
  refine lv_aload_n hx hb dX4_become_60 rfl (lv_at hl 1 rfl) ?_
  refine g4_bindings hx hb hts hin4 hown hK (pb_4 hP) (hts (.fieldLink RX4 24 "LoadedForTheLane$Wagon" "bindings" "[I") (by decide +kernel)) dX4_become_61 ?_
  refine lv_iconst (v := 0) hx hb dX4_become_64 (by decide) ?_
  refine lv_aload_n hx hb dX4_become_65 rfl (lv_at hl 0 rfl) ?_
  refine g4_bindings hx hb hts hin4 hown hK (pa_4 hP) (hts (.fieldLink RX4 24 "LoadedForTheLane$Wagon" "bindings" "[I") (by decide +kernel)) dX4_become_66 ?_
  refine lv_iconst (v := 0) hx hb dX4_become_69 (by decide) ?_
  refine lv_bipush (v := 12) hx hb dX4_become_70 (by decide +kernel) ?_
  refine cp4_bindings hx hb (hml.trans hl.1.symm) hown (hts (.methodLink RX4 55 arraycopyName) (by decide +kernel)) (hts (.native arraycopyName) (by decide +kernel)) (hts (.static arraycopyName) (by decide +kernel)) (hts (.initialized "java/lang/System") (by decide +kernel)) hK hP hd hS (Nat.le_of_ble_eq_true rfl) (Nat.le_of_ble_eq_true rfl) dX4_become_72 (fun H locs hP hS => ?_)
  obtain ⟨wn_5, hwn_5⟩ : ∃ x, x = sr wn_4 4 (va_cpy (v 4) (wn_4 4) 0 0 12) := ⟨_, rfl⟩
  rw [← hwn_5] at hP
  have E := bns_e E hwn_5
  have hI_5 : R4I wn_5 := by rw [hwn_5]; exact R4I_row hI_4 (by decide)
  refine lv_aload_n hx hb dX4_become_75 rfl (lv_at hl 1 rfl) ?_
  refine g4_loads hx hb hts hin4 hown hK (pb_4 hP) (hts (.fieldLink RX4 27 "LoadedForTheLane$Wagon" "loads" "[I") (by decide +kernel)) dX4_become_76 ?_
  refine lv_iconst (v := 0) hx hb dX4_become_79 (by decide) ?_
  refine lv_aload_n hx hb dX4_become_80 rfl (lv_at hl 0 rfl) ?_
  refine g4_loads hx hb hts hin4 hown hK (pa_4 hP) (hts (.fieldLink RX4 27 "LoadedForTheLane$Wagon" "loads" "[I") (by decide +kernel)) dX4_become_81 ?_
  refine lv_iconst (v := 0) hx hb dX4_become_84 (by decide) ?_
  refine lv_bipush (v := 12) hx hb dX4_become_85 (by decide +kernel) ?_
  refine cp4_loads hx hb (hml.trans hl.1.symm) hown (hts (.methodLink RX4 55 arraycopyName) (by decide +kernel)) (hts (.native arraycopyName) (by decide +kernel)) (hts (.static arraycopyName) (by decide +kernel)) (hts (.initialized "java/lang/System") (by decide +kernel)) hK hP hd hS (Nat.le_of_ble_eq_true rfl) (Nat.le_of_ble_eq_true rfl) dX4_become_87 (fun H locs hP hS => ?_)
  obtain ⟨wn_6, hwn_6⟩ : ∃ x, x = sr wn_5 5 (va_cpy (v 5) (wn_5 5) 0 0 12) := ⟨_, rfl⟩
  rw [← hwn_6] at hP
  have E := bns_e E hwn_6
  have hI_6 : R4I wn_6 := by rw [hwn_6]; exact R4I_row hI_5 (by decide)
  refine lv_aload_n hx hb dX4_become_90 rfl (lv_at hl 0 rfl) ?_
  refine lv_aload_n hx hb dX4_become_91 rfl (lv_at hl 1 rfl) ?_
  refine g4_layers hx hb hts hin4 hown hK (pb_4 hP) (hts (.fieldLink RX4 30 "LoadedForTheLane$Wagon" "layers" "I") (by decide +kernel)) dX4_become_92 ?_
  have f_7 := R4I_layers hIv
  refine pb4_layers hx hb hts hin4 hown hK hP hd hS (hts (.fieldLink RX4 30 "LoadedForTheLane$Wagon" "layers" "I") (by decide +kernel)) dX4_become_95 (fun H locs hP hS => ?_)
  obtain ⟨wn_8, hwn_8⟩ : ∃ x, x = st wn_6 6 0 (v 6 0) := ⟨_, rfl⟩
  rw [← hwn_8] at hP
  have E := bns_e E hwn_8
  have hI_8 : R4I wn_8 := by rw [hwn_8]; exact R4I_put hI_6 (by omega) (by omega)
  refine lv_aload_n hx hb dX4_become_98 rfl (lv_at hl 1 rfl) ?_
  refine g4_settings hx hb hts hin4 hown hK (pb_4 hP) (hts (.fieldLink RX4 42 "LoadedForTheLane$Wagon" "settings" "[I") (by decide +kernel)) dX4_become_99 ?_
  refine lv_iconst (v := 0) hx hb dX4_become_102 (by decide) ?_
  refine lv_aload_n hx hb dX4_become_103 rfl (lv_at hl 0 rfl) ?_
  refine g4_settings hx hb hts hin4 hown hK (pa_4 hP) (hts (.fieldLink RX4 42 "LoadedForTheLane$Wagon" "settings" "[I") (by decide +kernel)) dX4_become_104 ?_
  refine lv_iconst (v := 0) hx hb dX4_become_107 (by decide) ?_
  refine lv_aload_n hx hb dX4_become_108 rfl (lv_at hl 0 rfl) ?_
  refine g4_settings hx hb hts hin4 hown hK (pa_4 hP) (hts (.fieldLink RX4 42 "LoadedForTheLane$Wagon" "settings" "[I") (by decide +kernel)) dX4_become_109 ?_
  refine n4_settings (v := 4) hx hb hK (pa_4 hP) (by decide) dX4_become_112 ?_
  refine cp4_settings hx hb (hml.trans hl.1.symm) hown (hts (.methodLink RX4 55 arraycopyName) (by decide +kernel)) (hts (.native arraycopyName) (by decide +kernel)) (hts (.static arraycopyName) (by decide +kernel)) (hts (.initialized "java/lang/System") (by decide +kernel)) hK hP hd hS (Nat.le_of_ble_eq_true rfl) (Nat.le_of_ble_eq_true rfl) dX4_become_113 (fun H locs hP hS => ?_)
  obtain ⟨wn_9, hwn_9⟩ : ∃ x, x = sr wn_8 7 (va_cpy (v 7) (wn_8 7) 0 0 4) := ⟨_, rfl⟩
  rw [← hwn_9] at hP
  have E := bns_e E hwn_9
  have hI_9 : R4I wn_9 := by rw [hwn_9]; exact R4I_row hI_8 (by decide)
  refine lv_aload_n hx hb dX4_become_116 rfl (lv_at hl 0 rfl) ?_
  refine g4_ways hx hb hts hin4 hown hK (pa_4 hP) (hts (.fieldLink RX4 48 "LoadedForTheLane$Wagon" "ways" "[LLoadedForTheLane$Way;") (by decide +kernel)) dX4_become_117 ?_
  refine lv_iconst (v := 0) hx hb dX4_become_120 (by decide) ?_
  have ix_10 : vp_in 0 2 := by unfold vp_in; decide
  refine q4_ways (j := 0) hx hb hK (pa_4 hP) ix_10 (by decide) dX4_become_121 ?_
  have hk_10 : 0 < 2 := by decide
  refine lv_aload_n hx hb dX4_become_122 rfl (lv_at hl 1 rfl) ?_
  refine g4_ways hx hb hts hin4 hown hK (pb_4 hP) (hts (.fieldLink RX4 48 "LoadedForTheLane$Wagon" "ways" "[LLoadedForTheLane$Way;") (by decide +kernel)) dX4_become_123 ?_
  refine lv_iconst (v := 0) hx hb dX4_become_126 (by decide) ?_
  have ix_11 : vp_in 0 2 := by unfold vp_in; decide
  refine q4_ways (j := 0) hx hb hK (pb_4 hP) ix_11 (by decide) dX4_become_127 ?_
  have hk_11 : 0 < 2 := by decide
  refine va_callv (va_runVN (As := [.ref (bd (10 + 4 * 0))]) (rest := []) ⟨hx, hb, hml, hown, hts⟩ (kX5_become l D cI cC cQ (fun j => ad (10 + 4 * 0 + j)) (fun j => bd (10 + 4 * 0 + j)) (wy wn_9 0) (wy v 0) (bwD0 hd) (R5I_of hI_9 (by decide)) (R5I_of hIv (by decide))) ⟨va_cnB 1 hts gX4_become_X5_become_n61 rfl rfl rfl (nm_RX4_61 hN) (hts (.initialized RX5) (by decide +kernel)) mdsX5_become ⟨Nat.le_of_ble_eq_true rfl, Nat.le_of_ble_eq_true rfl⟩, hts (.instanceMethod yX5_become) (by decide +kernel), hts (.selects RX5 yX5_become yX5_become) (by decide +kernel)⟩ (x5b_pre rfl hK ((wg_way (k := 0) (by decide) (pa_4 hP)).app (wg_way (k := 0) (by decide) (pb_4 hP)))) rfl rfl hl.1 rfl (lv_room (Nat.le_of_ble_eq_true rfl)) dX4_become_128 ⟨Nat.zero_le _, Nat.zero_le _⟩) hS (fun _ _ h => bwA0 h) (fun _ h => bwA0 h) (fun un_12 t H locs ht hvm hp_12 hB hz hfr hS => ?_)
  obtain ⟨hp_12, hJ_12⟩ := hp_12
  have E := bns_e E hp_12
  have hP : va_P D vwCl (WG cI cQ ad (swy wn_9 0 un_12) ++ WG cI cQ bd v) H := bw_up0 hd hP (ht ▸ hB) hfr
  obtain ⟨wn_12, hwn_12⟩ : ∃ x, x = swy wn_9 0 un_12 := ⟨_, rfl⟩
  rw [← hwn_12] at hP
  have E := bns_e E hwn_12
  have hI_12 : R4I wn_12 := by rw [hwn_12]; exact R4I_way hI_9 (by decide) hJ_12
  refine lv_aload_n hx hb dX4_become_131 rfl (lv_at hl 0 rfl) ?_
  refine g4_ways hx hb hts hin4 hown hK (pa_4 hP) (hts (.fieldLink RX4 48 "LoadedForTheLane$Wagon" "ways" "[LLoadedForTheLane$Way;") (by decide +kernel)) dX4_become_132 ?_
  refine lv_iconst (v := 1) hx hb dX4_become_135 (by decide) ?_
  have ix_13 : vp_in 1 2 := by unfold vp_in; decide
  refine q4_ways (j := 1) hx hb hK (pa_4 hP) ix_13 (by decide) dX4_become_136 ?_
  have hk_13 : 1 < 2 := by decide
  refine lv_aload_n hx hb dX4_become_137 rfl (lv_at hl 1 rfl) ?_
  refine g4_ways hx hb hts hin4 hown hK (pb_4 hP) (hts (.fieldLink RX4 48 "LoadedForTheLane$Wagon" "ways" "[LLoadedForTheLane$Way;") (by decide +kernel)) dX4_become_138 ?_
  refine lv_iconst (v := 1) hx hb dX4_become_141 (by decide) ?_
  have ix_14 : vp_in 1 2 := by unfold vp_in; decide
  refine q4_ways (j := 1) hx hb hK (pb_4 hP) ix_14 (by decide) dX4_become_142 ?_
  have hk_14 : 1 < 2 := by decide
  refine va_callv (va_runVN (As := [.ref (bd (10 + 4 * 1))]) (rest := []) ⟨hx, hb, hml, hown, hts⟩ (kX5_become l D cI cC cQ (fun j => ad (10 + 4 * 1 + j)) (fun j => bd (10 + 4 * 1 + j)) (wy wn_12 1) (wy v 1) (bwD1 hd) (R5I_of hI_12 (by decide)) (R5I_of hIv (by decide))) ⟨va_cnB 1 hts gX4_become_X5_become_n61 rfl rfl rfl (nm_RX4_61 hN) (hts (.initialized RX5) (by decide +kernel)) mdsX5_become ⟨Nat.le_of_ble_eq_true rfl, Nat.le_of_ble_eq_true rfl⟩, hts (.instanceMethod yX5_become) (by decide +kernel), hts (.selects RX5 yX5_become yX5_become) (by decide +kernel)⟩ (x5b_pre rfl hK ((wg_way (k := 1) (by decide) (pa_4 hP)).app (wg_way (k := 1) (by decide) (pb_4 hP)))) rfl rfl hl.1 rfl (lv_room (Nat.le_of_ble_eq_true rfl)) dX4_become_143 ⟨Nat.zero_le _, Nat.zero_le _⟩) hS (fun _ _ h => bwA1 h) (fun _ h => bwA1 h) (fun un_15 t H locs ht hvm hp_15 hB hz hfr hS => ?_)
  obtain ⟨hp_15, hJ_15⟩ := hp_15
  have E := bns_e E hp_15
  have hP : va_P D vwCl (WG cI cQ ad (swy wn_12 1 un_15) ++ WG cI cQ bd v) H := bw_up1 hd hP (ht ▸ hB) hfr
  obtain ⟨wn_15, hwn_15⟩ : ∃ x, x = swy wn_12 1 un_15 := ⟨_, rfl⟩
  rw [← hwn_15] at hP
  have E := bns_e E hwn_15
  have hI_15 : R4I wn_15 := by rw [hwn_15]; exact R4I_way hI_12 (by decide) hJ_15
  exact W.vret hx hb hr (fun t ht hW => ⟨⟨wn_15, rfl, ⟨E.symm, hI_15⟩, by show va_P _ _ _ t.heap; rw [ht]; exact hP⟩, hS.F ht⟩) hS.2.2 dX4_become_146
abbrev rmX4_turn : Room := { frames := 0, cells := 0, slots := 0, locals := 0 }
set_option maxHeartbeats 4000000 in
set_option maxRecDepth 100000 in
theorem kX4_turn (l : Launch) (D : va_G) (cI cC cQ : ClassId) (ad : Nat → Nat) (sd : Nat → Nat) (w : Nat → Nat → Int32) (a1 : Int32) (a2 : Int32) (hd : WGD ad) (hI : R4I w) (h1 : 0 ≤ a1.toInt) (h2 : a1.toInt < 4) : Met l yX4_turn wsX4_turn rmX4_turn (va_Pc [Value.ref (ad 0), Value.int a1, Value.int a2] (fun U => va_P D vwCl (WG cI cQ ad w) U.heap ∧ va_K D vwCl [(cI, .int), (cC, .char), (cQ, .object "LoadedForTheLane$Way")] U ∧ NW U ∧ SE sd (WGA ad) U U.heap)) (va_Qi (fun r u => (r, u) = sX4_turn w a1 a2 ∧ (r = 0 ∨ r = 1) ∧ R4I u) (fun u t => va_P D vwCl (WG cI cQ ad u) t.heap) (WGA ad)) 0 0 (WGA ad) := by
  refine Met.ofW (cc := cX4_turn) (maxL := 3) (ret := (some .boolean)) (by decide) rfl ?_
  intro p e s m args below meth c s₁ B hml hv
  obtain ⟨rfl, hP, hK, hN, hSE⟩ := hv
  have hx := B.exec
  have hb := B.bytes
  have hr := B.returns
  have hts := atoms_spec (ws := wsX4_turn) B.pre
  have hown : s.vm.findClass RX4 = some m.cls := findClass_of_methodNamed B.named
  have hlocks := B.notSynchronized
  have hin4 : ∀ q ∈ wsX40, q ∈ wsX4_turn := by decide +kernel
  have hl := lv_entry ([.ref (ad 0), .int a1, .int a2]) (n := 3) (Nat.le_of_ble_eq_true rfl)
  rw [lg_entry_eq]
  generalize (lg_sl ([.ref (ad 0), .int a1, .int a2]) ++ List.replicate (3 - (lg_sl ([.ref (ad 0), .int a1, .int a2])).length) Slot.unset).toArray = ls at hl ⊢
  have hl : lv_has ls 3 [(0, .ref (ad 0)), (1, .int a1), (2, .int a2)] := hl
  suffices hgo : ∀ (H : Heap) (locs : List Loc), va_P D vwCl (WG cI cQ ad w) H → va_S (WGA ad) s.heap H locs → W p l e (headSpec wsX4_turn rmX4_turn).room s m [Value.ref (ad 0), Value.int a1, Value.int a2].toArray below meth c H locs 0 0 (MQ below (va_Qi (fun r u => (r, u) = sX4_turn w a1 a2 ∧ (r = 0 ∨ r = 1) ∧ R4I u) (fun u t => va_P D vwCl (WG cI cQ ad u) t.heap) (WGA ad)) [Value.ref (ad 0), Value.int a1, Value.int a2].toArray s 0 0 (WGA ad)) (F0 m 0 ls []) from hgo s.heap [] hP va_S.rf
  intro H locs hP hS
  have E := sX4_turn.eq_1 w a1 a2
  refine lv_iload_n hx hb dX4_turn_0 rfl (lv_at hl 2 rfl) ?_
  refine va_getsN (v := .ref (sd 0)) hx hb hSE.1 hS hown (nf_RX4_72 hN) (fun _ h9 => h9) dX4_turn_1 ?_
  refine lv_iload_n hx hb dX4_turn_4 rfl (lv_at hl 1 rfl) ?_
  have ix_1 : vp_in a1 4 := ix_of (by omega) (by omega)
  refine va_ti (v := .int (leastS (a1.toNatClampNeg))) hx hb hSE.2.1 hS ix_1 rfl dX4_turn_5 ?_
  refine lv_icmp_lt (tgt := 18) hx hb dX4_turn_6 (by decide) (fun c_2 => ?_) (fun c_2 => ?_)
  · have E := E.trans (if_pos c_2)
    have fc_2 := i_lt c_2
    refine lv_iconst (v := 0) hx hb dX4_turn_18 (by decide) ?_
    exact W.zret (ty := .boolean) (v := 0) hx hb hr (z_nar (Or.inl rfl)) (fun t ht hW => ⟨⟨_, w, rfl, ⟨E.symm, (Or.inl rfl), hI⟩, by show va_P _ _ _ t.heap; rw [ht]; exact hP⟩, hS.F ht⟩) hS.2.2 dX4_turn_19
  · have E := E.trans (if_neg c_2)
    have fc_2 := i_nlt c_2
    refine lv_iload_n hx hb dX4_turn_9 rfl (lv_at hl 2 rfl) ?_
    refine va_getsN (v := .ref (sd 1)) hx hb hSE.2.2.1 hS hown (nf_RX4_75 hN) (fun _ h9 => h9) dX4_turn_10 ?_
    refine lv_iload_n hx hb dX4_turn_13 rfl (lv_at hl 1 rfl) ?_
    have ix_3 : vp_in a1 4 := ix_of (by omega) (by omega)
    refine va_ti (v := .int (mostS (a1.toNatClampNeg))) hx hb hSE.2.2.2 hS ix_3 rfl dX4_turn_14 ?_
    refine lv_icmp_le (tgt := 20) hx hb dX4_turn_15 (by decide) (fun c_4 => ?_) (fun c_4 => ?_)
    · have E := E.trans (if_pos c_4)
      have fc_4 := i_le c_4
      refine lv_aload_n hx hb dX4_turn_20 rfl (lv_at hl 0 rfl) ?_
      refine g4_settings hx hb hts hin4 hown hK hP (hts (.fieldLink RX4 42 "LoadedForTheLane$Wagon" "settings" "[I") (by decide +kernel)) dX4_turn_21 ?_
      refine lv_iload_n hx hb dX4_turn_24 rfl (lv_at hl 1 rfl) ?_
      refine lv_iload_n hx hb dX4_turn_25 rfl (lv_at hl 2 rfl) ?_
      have ix_5 : vp_in a1 4 := ix_of (by omega) (by omega)
      refine a4_settings (j := (a1.toNatClampNeg)) hx hb hK hP (WGDa hd) hS ix_5 rfl dX4_turn_26 (fun H locs hP hS => ?_)
      obtain ⟨wn_5, hwn_5⟩ : ∃ x, x = st w 7 (a1.toNatClampNeg) a2 := ⟨_, rfl⟩
      rw [← hwn_5] at hP
      have E := bns_e E hwn_5
      have hI_5 : R4I wn_5 := by rw [hwn_5]; exact R4I_arr hI (by decide)
      refine lv_iconst (v := 1) hx hb dX4_turn_27 (by decide) ?_
      exact W.zret (ty := .boolean) (v := 1) hx hb hr (z_nar (Or.inr rfl)) (fun t ht hW => ⟨⟨_, wn_5, rfl, ⟨E.symm, (Or.inr rfl), hI_5⟩, by show va_P _ _ _ t.heap; rw [ht]; exact hP⟩, hS.F ht⟩) hS.2.2 dX4_turn_28
    · have E := E.trans (if_neg c_4)
      have fc_4 := i_nle c_4
      refine lv_iconst (v := 0) hx hb dX4_turn_18 (by decide) ?_
      exact W.zret (ty := .boolean) (v := 0) hx hb hr (z_nar (Or.inl rfl)) (fun t ht hW => ⟨⟨_, w, rfl, ⟨E.symm, (Or.inl rfl), hI⟩, by show va_P _ _ _ t.heap; rw [ht]; exact hP⟩, hS.F ht⟩) hS.2.2 dX4_turn_19
