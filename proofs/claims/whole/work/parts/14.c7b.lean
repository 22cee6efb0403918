abbrev rmX7_caught : Room := { frames := 2, cells := 0, slots := 0, locals := 43 }
set_option maxHeartbeats 4000000 in
set_option maxRecDepth 100000 in
theorem kX7_caught (l : Launch) (D : va_G) (cI : ClassId) (ad : Nat → Nat) (w : Nat → Nat → Int32) (a1 : Int32)  (hI : R7I w) (h1 : 0 ≤ a1.toInt) (h2 : a1.toInt < 12) : Met l yX7_caught wsX7_caught rmX7_caught (va_Pc [Value.ref (ad 0), Value.int a1] (fun U => va_P D vwCl (RM cI ad w) U.heap ∧ va_K D vwCl [(cI, .int)] U)) (vp_Si (fun r => r = sX7_caught w a1)) 0 0 (fun _ => False) := by
  refine Met.ofW (cc := cX7_caught) (maxL := 2) (ret := (some .int)) (by decide) rfl ?_
  intro p e s m args below meth c s₁ B hml hv
  obtain ⟨rfl, hP, hK⟩ := hv
  have hx := B.exec
  have hb := B.bytes
  have hr := B.returns
  have hts := atoms_spec (ws := wsX7_caught) B.pre
  have hown : s.vm.findClass RX7 = some m.cls := findClass_of_methodNamed B.named
  have hlocks := B.notSynchronized
  have hin : ∀ q ∈ wsX70, q ∈ wsX7_caught := by decide +kernel
  have hl := lv_entry ([.ref (ad 0), .int a1]) (n := 2) (Nat.le_of_ble_eq_true rfl)
  rw [lg_entry_eq]
  generalize (lg_sl ([.ref (ad 0), .int a1]) ++ List.replicate (2 - (lg_sl ([.ref (ad 0), .int a1])).length) Slot.unset).toArray = ls at hl ⊢
  have hl : lv_has ls 2 [(0, .ref (ad 0)), (1, .int a1)] := hl
  have E := sX7_caught.eq_1 w a1
  refine lv_aload_n hx hb dX7_caught_0 rfl (lv_at hl 0 rfl) ?_
  refine g7_layers hx hb hts hin hown hK hP (hts (.fieldLink RX7 67 "LoadedForTheLaneModel" "layers" "I") (by decide +kernel)) dX7_caught_1 ?_
  have f_1 := R7I_layers hI
  refine lv_if_ne (tgt := 10) hx hb dX7_caught_4 (by decide) (fun c_2 => ?_) (fun c_2 => ?_)
  · have E := E.trans (if_neg c_2)
    have fc_2 := i_ne c_2
    rw [q_0] at fc_2
    refine lv_aload_n hx hb dX7_caught_10 rfl (lv_at hl 0 rfl) ?_
    refine g7_sort hx hb hts hin hown hK hP (hts (.fieldLink RX7 31 "LoadedForTheLaneModel" "sort" "[I") (by decide +kernel)) dX7_caught_11 ?_
    refine lv_iload_n hx hb dX7_caught_14 rfl (lv_at hl 1 rfl) ?_
    have ix_3 : vp_in a1 12 := ix_of (by omega) (by omega)
    refine l7_sort (j := a1.toNatClampNeg) hx hb hK hP ix_3 rfl dX7_caught_15 ?_
    refine lv_iconst (v := 4) hx hb dX7_caught_16 (by decide) ?_
    refine lv_icmp_ne (tgt := 50) hx hb dX7_caught_17 (by decide) (fun c_4 => ?_) (fun c_4 => ?_)
    · have E := E.trans (if_neg c_4)
      have fc_4 := i_ne c_4
      rw [q_4] at fc_4
      refine lv_aload_n hx hb dX7_caught_50 rfl (lv_at hl 0 rfl) ?_
      refine vp_callSi (va_Run.run (va_runV (As := []) (rest := []) ⟨hx, hb, hml, hown, hts⟩ (kX7_widthNow l D cI ad w hI) (cwV 0 hts gX7_caught_X7_widthNow rfl rfl rfl mdX7_widthNow ⟨Nat.le_of_ble_eq_true rfl, Nat.le_of_ble_eq_true rfl⟩) (r7_pre hK hP) rfl rfl hl.1 rfl (lv_room (Nat.le_of_ble_eq_true rfl)) dX7_caught_51 ⟨Nat.zero_le _, Nat.zero_le _⟩)) (fun r_5 hr_5 => ?_)
      subst hr_5
      refine lv_bipush (v := 90) hx hb dX7_caught_54 (by decide +kernel) ?_
      refine lv_aload_n hx hb dX7_caught_56 rfl (lv_at hl 0 rfl) ?_
      refine g7_figure hx hb hts hin hown hK hP (hts (.fieldLink RX7 34 "LoadedForTheLaneModel" "figure" "[I") (by decide +kernel)) dX7_caught_57 ?_
      refine lv_iload_n hx hb dX7_caught_60 rfl (lv_at hl 1 rfl) ?_
      have ix_6 : vp_in a1 12 := ix_of (by omega) (by omega)
      refine l7_figure (j := a1.toNatClampNeg) hx hb hK hP ix_6 rfl dX7_caught_61 ?_
      refine lv_iadd hx hb dX7_caught_62 ?_
      try have := i_addl (a := 90) (b := w 8 (a1.toNatClampNeg)) (n := 90) q_90 (by omega) (by omega)
      refine lv_icmp_le (tgt := 73) hx hb dX7_caught_63 (by decide) (fun c_7 => ?_) (fun c_7 => ?_)
      · have E := E.trans (if_pos c_7)
        have fc_7 := i_le c_7
        refine lv_bipush (v := (-9)) hx hb dX7_caught_73 (by decide +kernel) ?_
        exact W.iret (v := (-9)) hx hb hr (fun t ht hW => ⟨_, rfl, E.symm, ht⟩) (fun q hq => by cases hq) dX7_caught_75
      · have E := E.trans (if_neg c_7)
        have fc_7 := i_nle c_7
        refine lv_aload_n hx hb dX7_caught_66 rfl (lv_at hl 0 rfl) ?_
        refine vp_callSi (va_Run.run (va_runV (As := []) (rest := []) ⟨hx, hb, hml, hown, hts⟩ (kX7_farthest l D cI ad w hI) (cwV 0 hts gX7_caught_X7_farthest rfl rfl rfl mdX7_farthest ⟨Nat.le_of_ble_eq_true rfl, Nat.le_of_ble_eq_true rfl⟩) (r7_pre hK hP) rfl rfl hl.1 rfl (lv_room (Nat.le_of_ble_eq_true rfl)) dX7_caught_67 ⟨Nat.zero_le _, Nat.zero_le _⟩)) (fun r_8 hr_8 => ?_)
        subst hr_8
        have rf_8 := rX7_farthest hI
        refine lv_goto (tgt := 75) hx hb dX7_caught_70 (by decide) ?_
        exact W.iret (v := (sX7_farthest w)) hx hb hr (fun t ht hW => ⟨_, rfl, E.symm, ht⟩) (fun q hq => by cases hq) dX7_caught_75
    · have E := E.trans (if_pos c_4)
      have fc_4 := i_eq c_4
      rw [q_4] at fc_4
      refine lv_aload_n hx hb dX7_caught_20 rfl (lv_at hl 0 rfl) ?_
      refine vp_callSi (va_Run.run (va_runV (As := []) (rest := []) ⟨hx, hb, hml, hown, hts⟩ (kX7_heightNow l D cI ad w hI) (cwV 0 hts gX7_caught_X7_heightNow rfl rfl rfl mdX7_heightNow ⟨Nat.le_of_ble_eq_true rfl, Nat.le_of_ble_eq_true rfl⟩) (r7_pre hK hP) rfl rfl hl.1 rfl (lv_room (Nat.le_of_ble_eq_true rfl)) dX7_caught_21 ⟨Nat.zero_le _, Nat.zero_le _⟩)) (fun r_9 hr_9 => ?_)
      subst hr_9
      refine lv_bipush (v := 40) hx hb dX7_caught_24 (by decide +kernel) ?_
      refine lv_iconst (v := 4) hx hb dX7_caught_26 (by decide) ?_
      refine lv_aload_n hx hb dX7_caught_27 rfl (lv_at hl 0 rfl) ?_
      refine g7_figure hx hb hts hin hown hK hP (hts (.fieldLink RX7 34 "LoadedForTheLaneModel" "figure" "[I") (by decide +kernel)) dX7_caught_28 ?_
      refine lv_iload_n hx hb dX7_caught_31 rfl (lv_at hl 1 rfl) ?_
      have ix_10 : vp_in a1 12 := ix_of (by omega) (by omega)
      refine l7_figure (j := a1.toNatClampNeg) hx hb hK hP ix_10 rfl dX7_caught_32 ?_
      refine lv_imul hx hb dX7_caught_33 ?_
      refine lv_iadd hx hb dX7_caught_34 ?_
      try have := i_mull (a := 4) (b := w 8 (a1.toNatClampNeg)) (n := 4) q_4 (by omega) (by omega)
      try have := i_addl (a := 40) (b := 4 * (w 8 (a1.toNatClampNeg))) (n := 40) q_40 (by omega) (by omega)
      refine lv_icmp_le (tgt := 47) hx hb dX7_caught_35 (by decide) (fun c_11 => ?_) (fun c_11 => ?_)
      · have E := E.trans (if_pos c_11)
        have fc_11 := i_le c_11
        refine lv_bipush (v := (-9)) hx hb dX7_caught_47 (by decide +kernel) ?_
        exact W.iret (v := (-9)) hx hb hr (fun t ht hW => ⟨_, rfl, E.symm, ht⟩) (fun q hq => by cases hq) dX7_caught_49
      · have E := E.trans (if_neg c_11)
        have fc_11 := i_nle c_11
        refine lv_aload_n hx hb dX7_caught_38 rfl (lv_at hl 0 rfl) ?_
        refine g7_layers hx hb hts hin hown hK hP (hts (.fieldLink RX7 67 "LoadedForTheLaneModel" "layers" "I") (by decide +kernel)) dX7_caught_39 ?_
        have f_12 := R7I_layers hI
        refine lv_iconst (v := 1) hx hb dX7_caught_42 (by decide) ?_
        refine lv_isub hx hb dX7_caught_43 ?_
        refine lv_goto (tgt := 49) hx hb dX7_caught_44 (by decide) ?_
        exact W.iret (v := (w 11 0) - 1) hx hb hr (fun t ht hW => ⟨_, rfl, E.symm, ht⟩) (fun q hq => by cases hq) dX7_caught_49
  · have E := E.trans (if_pos c_2)
    have fc_2 := i_eq c_2
    rw [q_0] at fc_2
    refine lv_bipush (v := (-9)) hx hb dX7_caught_7 (by decide +kernel) ?_
    exact W.iret (v := (-9)) hx hb hr (fun t ht hW => ⟨_, rfl, E.symm, ht⟩) (fun q hq => by cases hq) dX7_caught_9
abbrev rmX7_fellBits : Room := { frames := 4, cells := 0, slots := 0, locals := 92 }
set_option maxHeartbeats 4000000 in
set_option maxRecDepth 100000 in
theorem kX7_fellBits (l : Launch) (D : va_G) (cI : ClassId) (ad : Nat → Nat) (w : Nat → Nat → Int32) (a1 : Int32)  (hI : R7I w) (h1 : 0 ≤ a1.toInt) (h2 : a1.toInt < 12) : Met l yX7_fellBits wsX7_fellBits rmX7_fellBits (va_Pc [Value.ref (ad 0), Value.int a1] (fun U => va_P D vwCl (RM cI ad w) U.heap ∧ va_K D vwCl [(cI, .int)] U)) (vp_Si (fun r => r = sX7_fellBits w a1)) 0 0 (fun _ => False) := by
  refine Met.ofW (cc := cX7_fellBits) (maxL := 4) (ret := (some .int)) (by decide) rfl ?_
  intro p e s m args below meth c s₁ B hml hv
  obtain ⟨rfl, hP, hK⟩ := hv
  have hx := B.exec
  have hb := B.bytes
  have hr := B.returns
  have hts := atoms_spec (ws := wsX7_fellBits) B.pre
  have hown : s.vm.findClass RX7 = some m.cls := findClass_of_methodNamed B.named
  have hlocks := B.notSynchronized
  have hin : ∀ q ∈ wsX70, q ∈ wsX7_fellBits := by decide +kernel
  have hl := lv_entry ([.ref (ad 0), .int a1]) (n := 4) (Nat.le_of_ble_eq_true rfl)
  rw [lg_entry_eq]
  generalize (lg_sl ([.ref (ad 0), .int a1]) ++ List.replicate (4 - (lg_sl ([.ref (ad 0), .int a1])).length) Slot.unset).toArray = ls at hl ⊢
  have hl : lv_has ls 4 [(0, .ref (ad 0)), (1, .int a1)] := hl
  have E := sX7_fellBits.eq_1 w a1
  refine lv_aload_n hx hb dX7_fellBits_0 rfl (lv_at hl 0 rfl) ?_
  refine lv_iload_n hx hb dX7_fellBits_1 rfl (lv_at hl 1 rfl) ?_
  refine vp_callSi (va_Run.run (va_runV (As := [.int a1]) (rest := []) ⟨hx, hb, hml, hown, hts⟩ (kX7_isShift l D cI ad w a1 (by omega) (by omega)) (cwV 1 hts gX7_fellBits_X7_isShift rfl rfl rfl mdX7_isShift ⟨Nat.le_of_ble_eq_true rfl, Nat.le_of_ble_eq_true rfl⟩) (r7_pre hK hP) rfl rfl hl.1 rfl (lv_room (Nat.le_of_ble_eq_true rfl)) dX7_fellBits_2 ⟨Nat.zero_le _, Nat.zero_le _⟩)) (fun r_1 hr_1 => ?_)
  obtain ⟨rfl, hz_1⟩ := hr_1
  refine lv_if_ne (tgt := 28) hx hb dX7_fellBits_5 (by decide) (fun c_2 => ?_) (fun c_2 => ?_)
  · have E := E.trans (if_neg c_2)
    have fc_2 := i_ne c_2
    rw [q_0] at fc_2
    refine lv_iconst (v := 0) hx hb dX7_fellBits_28 (by decide) ?_
    refine lv_istore_n (lv' := [(2, .int 0), (0, .ref (ad 0)), (1, .int a1)]) hx hb dX7_fellBits_29 rfl hl (by decide) rfl (fun ls hl => ?_)
    refine lv_iconst (v := 0) hx hb dX7_fellBits_30 (by decide) ?_
    refine lv_istore_n (lv' := [(3, .int 0), (2, .int 0), (0, .ref (ad 0)), (1, .int a1)]) hx hb dX7_fellBits_31 rfl hl (by decide) rfl (fun ls hl => ?_)
    have L_32 : ∀ (n_32 : Nat) (x2_32 : Int32) (x3_32 : Int32) (ls : Array Slot), ((0 ≤ x3_32.toInt) ∧ (x3_32.toInt ≤ 12)) → (12 - x3_32.toInt < (n_32 : Int)) → lv_has ls 4 [(3, .int x3_32), (2, .int x2_32), (0, .ref (ad 0)), (1, .int a1)] → sX7_fellBits w a1 = sX7_fellBits_32 w a1 n_32 x2_32 x3_32 → W p l e (headSpec wsX7_fellBits rmX7_fellBits).room s m [Value.ref (ad 0), Value.int a1].toArray below meth c s.heap [] 0 0 (MQ below (vp_Si (fun r => r = sX7_fellBits w a1)) [Value.ref (ad 0), Value.int a1].toArray s 0 0 (fun _ => False)) (F0 m 32 ls []) := by
      intro n_32
      induction n_32 with
      | zero =>
        intro x2_32 x3_32 ls hinv hm
        obtain ⟨v0_32, v1_32⟩ := hinv
        exact absurd hm (by omega)
      | succ n_32 ih_32 =>
        intro x2_32 x3_32 ls hinv hm_32 hl E
        obtain ⟨v0_32, v1_32⟩ := hinv
        have E := E.trans (sX7_fellBits_32.eq_2 ..)
        refine lv_iload_n hx hb dX7_fellBits_32 rfl (lv_at hl 0 rfl) ?_
        refine lv_aload_n hx hb dX7_fellBits_33 rfl (lv_at hl 2 rfl) ?_
        refine g7_layers hx hb hts hin hown hK hP (hts (.fieldLink RX7 67 "LoadedForTheLaneModel" "layers" "I") (by decide +kernel)) dX7_fellBits_34 ?_
        have f_3 := R7I_layers hI
        refine lv_icmp_ge (tgt := 65) hx hb dX7_fellBits_37 (by decide) (fun c_4 => ?_) (fun c_4 => ?_)
        · have E := E.trans (if_pos c_4)
          have fc_4 := i_le c_4
          refine lv_iload_n hx hb dX7_fellBits_65 rfl (lv_at hl 1 rfl) ?_
          exact W.iret (v := x2_32) hx hb hr (fun t ht hW => ⟨_, rfl, E.symm, ht⟩) (fun q hq => by cases hq) dX7_fellBits_66
        · have E := E.trans (if_neg c_4)
          have fc_4 := i_nle c_4
          refine lv_iload_n hx hb dX7_fellBits_40 rfl (lv_at hl 1 rfl) ?_
          refine lv_aload_n hx hb dX7_fellBits_41 rfl (lv_at hl 2 rfl) ?_
          refine lv_iload_n hx hb dX7_fellBits_42 rfl (lv_at hl 3 rfl) ?_
          refine lv_iload_n hx hb dX7_fellBits_43 rfl (lv_at hl 0 rfl) ?_
          refine vp_callSi (va_Run.run (va_runV (As := [.int a1, .int x3_32]) (rest := [.int x2_32]) ⟨hx, hb, hml, hown, hts⟩ (kX7_spare l D cI ad w a1 x3_32 hI (by omega) (by omega) (by omega) (by omega)) (cwV 2 hts gX7_fellBits_X7_spare rfl rfl rfl mdX7_spare ⟨Nat.le_of_ble_eq_true rfl, Nat.le_of_ble_eq_true rfl⟩) (r7_pre hK hP) rfl rfl hl.1 rfl (lv_room (Nat.le_of_ble_eq_true rfl)) dX7_fellBits_44 ⟨Nat.zero_le _, Nat.zero_le _⟩)) (fun r_5 hr_5 => ?_)
          subst hr_5
          refine lv_if_ge (tgt := 56) hx hb dX7_fellBits_47 (by decide) (fun c_6 => ?_) (fun c_6 => ?_)
          · have E := E.trans (if_pos c_6)
            have fc_6 := i_le c_6
            rw [q_0] at fc_6
            refine lv_iconst (v := 0) hx hb dX7_fellBits_56 (by decide) ?_
            refine lv_ior hx hb dX7_fellBits_57 ?_
            refine lv_istore_n (lv' := [(2, .int (x2_32 ||| 0)), (3, .int x3_32), (0, .ref (ad 0)), (1, .int a1)]) hx hb dX7_fellBits_58 rfl hl (by decide) rfl (fun ls hl => ?_)
            refine lv_iinc (v := x3_32 + 1) (lv' := [(3, .int (x3_32 + 1)), (2, .int (x2_32 ||| 0)), (0, .ref (ad 0)), (1, .int a1)]) hx hb dX7_fellBits_59 hl (k := 1) rfl rfl (by decide) rfl (fun ls hl => ?_)
            refine lv_goto (tgt := 32) hx hb dX7_fellBits_62 (by decide) ?_
            try have := i_addr (a := x3_32) (b := 1) (n := 1) q_1 (by omega) (by omega)
            exact ih_32 (x2_32 ||| 0) (x3_32 + 1) ls ⟨by omega, by omega⟩ (by omega) (lv_sub hl [0, 1, 2, 3] rfl) E
          · have E := E.trans (if_neg c_6)
            have fc_6 := i_nle c_6
            rw [q_0] at fc_6
            refine lv_iconst (v := 1) hx hb dX7_fellBits_50 (by decide) ?_
            refine lv_iload_n hx hb dX7_fellBits_51 rfl (lv_at hl 0 rfl) ?_
            refine lv_ishl hx hb dX7_fellBits_52 ?_
            refine lv_goto (tgt := 57) hx hb dX7_fellBits_53 (by decide) ?_
            refine lv_ior hx hb dX7_fellBits_57 ?_
            refine lv_istore_n (lv' := [(2, .int (x2_32 ||| (1 <<< (x3_32 &&& 31)))), (3, .int x3_32), (0, .ref (ad 0)), (1, .int a1)]) hx hb dX7_fellBits_58 rfl hl (by decide) rfl (fun ls hl => ?_)
            refine lv_iinc (v := x3_32 + 1) (lv' := [(3, .int (x3_32 + 1)), (2, .int (x2_32 ||| (1 <<< (x3_32 &&& 31)))), (0, .ref (ad 0)), (1, .int a1)]) hx hb dX7_fellBits_59 hl (k := 1) rfl rfl (by decide) rfl (fun ls hl => ?_)
            refine lv_goto (tgt := 32) hx hb dX7_fellBits_62 (by decide) ?_
            try have := i_addr (a := x3_32) (b := 1) (n := 1) q_1 (by omega) (by omega)
            exact ih_32 (x2_32 ||| (1 <<< (x3_32 &&& 31))) (x3_32 + 1) ls ⟨by omega, by omega⟩ (by omega) (lv_sub hl [0, 1, 2, 3] rfl) E
    have := q_0
    exact L_32 13 0 0 ls ⟨by omega, by omega⟩ (by omega) (lv_sub hl [0, 1, 2, 3] rfl) E
  · have E := E.trans (if_pos c_2)
    have fc_2 := i_eq c_2
    rw [q_0] at fc_2
    refine lv_aload_n hx hb dX7_fellBits_8 rfl (lv_at hl 0 rfl) ?_
    refine lv_iload_n hx hb dX7_fellBits_9 rfl (lv_at hl 1 rfl) ?_
    refine vp_callSi (va_Run.run (va_runV (As := [.int a1]) (rest := []) ⟨hx, hb, hml, hown, hts⟩ (kX7_caught l D cI ad w a1 hI (by omega) (by omega)) (cwV 1 hts gX7_fellBits_X7_caught rfl rfl rfl mdX7_caught ⟨Nat.le_of_ble_eq_true rfl, Nat.le_of_ble_eq_true rfl⟩) (r7_pre hK hP) rfl rfl hl.1 rfl (lv_room (Nat.le_of_ble_eq_true rfl)) dX7_fellBits_10 ⟨Nat.zero_le _, Nat.zero_le _⟩)) (fun r_7 hr_7 => ?_)
    subst hr_7
    refine lv_if_ge (tgt := 20) hx hb dX7_fellBits_13 (by decide) (fun c_8 => ?_) (fun c_8 => ?_)
    · have E := E.trans (if_pos c_8)
      have fc_8 := i_le c_8
      rw [q_0] at fc_8
      refine lv_iconst (v := 1) hx hb dX7_fellBits_20 (by decide) ?_
      refine lv_aload_n hx hb dX7_fellBits_21 rfl (lv_at hl 0 rfl) ?_
      refine lv_iload_n hx hb dX7_fellBits_22 rfl (lv_at hl 1 rfl) ?_
      refine vp_callSi (va_Run.run (va_runV (As := [.int a1]) (rest := [.int 1]) ⟨hx, hb, hml, hown, hts⟩ (kX7_caught l D cI ad w a1 hI (by omega) (by omega)) (cwV 1 hts gX7_fellBits_X7_caught rfl rfl rfl mdX7_caught ⟨Nat.le_of_ble_eq_true rfl, Nat.le_of_ble_eq_true rfl⟩) (r7_pre hK hP) rfl rfl hl.1 rfl (lv_room (Nat.le_of_ble_eq_true rfl)) dX7_fellBits_23 ⟨Nat.zero_le _, Nat.zero_le _⟩)) (fun r_9 hr_9 => ?_)
      subst hr_9
      refine lv_ishl hx hb dX7_fellBits_26 ?_
      exact W.iret (v := 1 <<< ((sX7_caught w a1) &&& 31)) hx hb hr (fun t ht hW => ⟨_, rfl, E.symm, ht⟩) (fun q hq => by cases hq) dX7_fellBits_27
    · have E := E.trans (if_neg c_8)
      have fc_8 := i_nle c_8
      rw [q_0] at fc_8
      refine lv_iconst (v := 0) hx hb dX7_fellBits_16 (by decide) ?_
      refine lv_goto (tgt := 27) hx hb dX7_fellBits_17 (by decide) ?_
      exact W.iret (v := 0) hx hb hr (fun t ht hW => ⟨_, rfl, E.symm, ht⟩) (fun q hq => by cases hq) dX7_fellBits_27
abbrev rmX7_marginOf : Room := { frames := 4, cells := 0, slots := 0, locals := 92 }
set_option maxHeartbeats 4000000 in
set_option maxRecDepth 100000 in
theorem kX7_marginOf (l : Launch) (D : va_G) (cI : ClassId) (ad : Nat → Nat) (w : Nat → Nat → Int32) (a1 : Int32)  (hI : R7I w) (h1 : 0 ≤ a1.toInt) (h2 : a1.toInt < 2) : Met l yX7_marginOf wsX7_marginOf rmX7_marginOf (va_Pc [Value.ref (ad 0), Value.int a1] (fun U => va_P D vwCl (RM cI ad w) U.heap ∧ va_K D vwCl [(cI, .int)] U)) (vp_Si (fun r => r = sX7_marginOf w a1)) 0 0 (fun _ => False) := by
  refine Met.ofW (cc := cX7_marginOf) (maxL := 5) (ret := (some .int)) (by decide) rfl ?_
  intro p e s m args below meth c s₁ B hml hv
  obtain ⟨rfl, hP, hK⟩ := hv
  have hx := B.exec
  have hb := B.bytes
  have hr := B.returns
  have hts := atoms_spec (ws := wsX7_marginOf) B.pre
  have hown : s.vm.findClass RX7 = some m.cls := findClass_of_methodNamed B.named
  have hlocks := B.notSynchronized
  have hin : ∀ q ∈ wsX70, q ∈ wsX7_marginOf := by decide +kernel
  have hl := lv_entry ([.ref (ad 0), .int a1]) (n := 5) (Nat.le_of_ble_eq_true rfl)
  rw [lg_entry_eq]
  generalize (lg_sl ([.ref (ad 0), .int a1]) ++ List.replicate (5 - (lg_sl ([.ref (ad 0), .int a1])).length) Slot.unset).toArray = ls at hl ⊢
  have hl : lv_has ls 5 [(0, .ref (ad 0)), (1, .int a1)] := hl
  have E := sX7_marginOf.eq_1 w a1
  refine lv_sipush (v := 9999) hx hb dX7_marginOf_0 (by decide +kernel) ?_
  refine lv_istore_n (lv' := [(2, .int 9999), (0, .ref (ad 0)), (1, .int a1)]) hx hb dX7_marginOf_3 rfl hl (by decide) rfl (fun ls hl => ?_)
  refine lv_bipush (v := 6) hx hb dX7_marginOf_4 (by decide +kernel) ?_
  refine lv_iload_n hx hb dX7_marginOf_6 rfl (lv_at hl 2 rfl) ?_
  refine lv_imul hx hb dX7_marginOf_7 ?_
  refine lv_istore_n (lv' := [(3, .int (6 * a1)), (2, .int 9999), (0, .ref (ad 0)), (1, .int a1)]) hx hb dX7_marginOf_8 rfl hl (by decide) rfl (fun ls hl => ?_)
  have L_9 : ∀ (n_9 : Nat) (x2_9 : Int32) (x3_9 : Int32) (ls : Array Slot), ((0 ≤ x3_9.toInt) ∧ (x3_9.toInt ≤ 12)) → (12 - x3_9.toInt < (n_9 : Int)) → lv_has ls 5 [(3, .int x3_9), (2, .int x2_9), (0, .ref (ad 0)), (1, .int a1)] → sX7_marginOf w a1 = sX7_marginOf_9 w a1 n_9 x2_9 x3_9 → W p l e (headSpec wsX7_marginOf rmX7_marginOf).room s m [Value.ref (ad 0), Value.int a1].toArray below meth c s.heap [] 0 0 (MQ below (vp_Si (fun r => r = sX7_marginOf w a1)) [Value.ref (ad 0), Value.int a1].toArray s 0 0 (fun _ => False)) (F0 m 9 ls []) := by
    intro n_9
    induction n_9 with
    | zero =>
      intro x2_9 x3_9 ls hinv hm
      obtain ⟨v0_9, v1_9⟩ := hinv
      exact absurd hm (by omega)
    | succ n_9 ih_9 =>
      intro x2_9 x3_9 ls hinv hm_9 hl E
      obtain ⟨v0_9, v1_9⟩ := hinv
      have E := E.trans (sX7_marginOf_9.eq_2 ..)
      refine lv_iload_n hx hb dX7_marginOf_9 rfl (lv_at hl 0 rfl) ?_
      refine lv_bipush (v := 6) hx hb dX7_marginOf_10 (by decide +kernel) ?_
      refine lv_iload_n hx hb dX7_marginOf_12 rfl (lv_at hl 3 rfl) ?_
      refine lv_imul hx hb dX7_marginOf_13 ?_
      refine lv_aload_n hx hb dX7_marginOf_14 rfl (lv_at hl 2 rfl) ?_
      refine g7_pieces hx hb hts hin hown hK hP (hts (.fieldLink RX7 40 "LoadedForTheLaneModel" "pieces" "[I") (by decide +kernel)) dX7_marginOf_15 ?_
      refine lv_iload_n hx hb dX7_marginOf_18 rfl (lv_at hl 3 rfl) ?_
      have ix_1 : vp_in a1 2 := ix_of (by omega) (by omega)
      refine l7_pieces (j := a1.toNatClampNeg) hx hb hK hP ix_1 rfl dX7_marginOf_19 ?_
      have f_1 := R7I_pieces hI (j := a1.toNatClampNeg) (by have := ix_cl (x := a1) (by omega); omega)
      refine lv_iadd hx hb dX7_marginOf_20 ?_
      try have := i_mull (a := 6) (b := a1) (n := 6) q_6 (by omega) (by omega)
      try have := i_add (a := 6 * a1) (b := w 10 (a1.toNatClampNeg)) (by omega) (by omega)
      refine lv_icmp_ge (tgt := 79) hx hb dX7_marginOf_21 (by decide) (fun c_2 => ?_) (fun c_2 => ?_)
      · have E := E.trans (if_pos c_2)
        have fc_2 := i_le c_2
        refine lv_iload_n hx hb dX7_marginOf_79 rfl (lv_at hl 1 rfl) ?_
        exact W.iret (v := x2_9) hx hb hr (fun t ht hW => ⟨_, rfl, E.symm, ht⟩) (fun q hq => by cases hq) dX7_marginOf_80
      · have E := E.trans (if_neg c_2)
        have fc_2 := i_nle c_2
        refine lv_iconst (v := 0) hx hb dX7_marginOf_24 (by decide) ?_
        refine lv_istore (lv' := [(4, .int 0), (3, .int x3_9), (2, .int x2_9), (0, .ref (ad 0)), (1, .int a1)]) hx hb dX7_marginOf_25 hl (by decide) rfl (fun ls hl => ?_)
        have L_27 : ∀ (n_27 : Nat) (x2_27 : Int32) (x4_27 : Int32) (ls : Array Slot), ((0 ≤ x4_27.toInt) ∧ (x4_27.toInt ≤ 12)) → (12 - x4_27.toInt < (n_27 : Int)) → lv_has ls 5 [(4, .int x4_27), (3, .int x3_9), (2, .int x2_27), (0, .ref (ad 0)), (1, .int a1)] → sX7_marginOf w a1 = sX7_marginOf_27 w x3_9 (sX7_marginOf_9 w a1 n_9) n_27 x2_27 x4_27 → W p l e (headSpec wsX7_marginOf rmX7_marginOf).room s m [Value.ref (ad 0), Value.int a1].toArray below meth c s.heap [] 0 0 (MQ below (vp_Si (fun r => r = sX7_marginOf w a1)) [Value.ref (ad 0), Value.int a1].toArray s 0 0 (fun _ => False)) (F0 m 27 ls []) := by
          intro n_27
          induction n_27 with
          | zero =>
            intro x2_27 x4_27 ls hinv hm
            obtain ⟨v0_27, v1_27⟩ := hinv
            exact absurd hm (by omega)
          | succ n_27 ih_27 =>
            intro x2_27 x4_27 ls hinv hm_27 hl E
            obtain ⟨v0_27, v1_27⟩ := hinv
            have E := E.trans (sX7_marginOf_27.eq_2 ..)
            refine lv_iload hx hb dX7_marginOf_27 (lv_at hl 0 rfl) ?_
            refine lv_aload_n hx hb dX7_marginOf_29 rfl (lv_at hl 3 rfl) ?_
            refine g7_layers hx hb hts hin hown hK hP (hts (.fieldLink RX7 67 "LoadedForTheLaneModel" "layers" "I") (by decide +kernel)) dX7_marginOf_30 ?_
            have f_3 := R7I_layers hI
            refine lv_icmp_ge (tgt := 73) hx hb dX7_marginOf_33 (by decide) (fun c_4 => ?_) (fun c_4 => ?_)
            · have E := E.trans (if_pos c_4)
              have fc_4 := i_le c_4
              refine lv_iinc (v := x3_9 + 1) (lv' := [(3, .int (x3_9 + 1)), (4, .int x4_27), (2, .int x2_27), (0, .ref (ad 0)), (1, .int a1)]) hx hb dX7_marginOf_73 hl (k := 1) rfl rfl (by decide) rfl (fun ls hl => ?_)
              refine lv_goto (tgt := 9) hx hb dX7_marginOf_76 (by decide) ?_
              try have := i_addr (a := x3_9) (b := 1) (n := 1) q_1 (by omega) (by omega)
              exact ih_9 x2_27 (x3_9 + 1) ls ⟨by omega, by omega⟩ (by omega) (lv_sub hl [0, 2, 3, 4] rfl) E
            · have E := E.trans (if_neg c_4)
              have fc_4 := i_nle c_4
              refine lv_aload_n hx hb dX7_marginOf_36 rfl (lv_at hl 3 rfl) ?_
              refine lv_iload_n hx hb dX7_marginOf_37 rfl (lv_at hl 1 rfl) ?_
              refine vp_callSi (va_Run.run (va_runV (As := [.int x3_9]) (rest := []) ⟨hx, hb, hml, hown, hts⟩ (kX7_isShift l D cI ad w x3_9 (by omega) (by omega)) (cwV 1 hts gX7_marginOf_X7_isShift rfl rfl rfl mdX7_isShift ⟨Nat.le_of_ble_eq_true rfl, Nat.le_of_ble_eq_true rfl⟩) (r7_pre hK hP) rfl rfl hl.1 rfl (lv_room (Nat.le_of_ble_eq_true rfl)) dX7_marginOf_38 ⟨Nat.zero_le _, Nat.zero_le _⟩)) (fun r_5 hr_5 => ?_)
              obtain ⟨rfl, hz_5⟩ := hr_5
              refine lv_if_eq (tgt := 73) hx hb dX7_marginOf_41 (by decide) (fun c_6 => ?_) (fun c_6 => ?_)
              · have E := E.trans (if_pos c_6)
                have fc_6 := i_eq c_6
                rw [q_0] at fc_6
                refine lv_iinc (v := x3_9 + 1) (lv' := [(3, .int (x3_9 + 1)), (4, .int x4_27), (2, .int x2_27), (0, .ref (ad 0)), (1, .int a1)]) hx hb dX7_marginOf_73 hl (k := 1) rfl rfl (by decide) rfl (fun ls hl => ?_)
                refine lv_goto (tgt := 9) hx hb dX7_marginOf_76 (by decide) ?_
                try have := i_addr (a := x3_9) (b := 1) (n := 1) q_1 (by omega) (by omega)
                exact ih_9 x2_27 (x3_9 + 1) ls ⟨by omega, by omega⟩ (by omega) (lv_sub hl [0, 2, 3, 4] rfl) E
              · have E := E.trans (if_neg c_6)
                have fc_6 := i_ne c_6
                rw [q_0] at fc_6
                refine lv_aload_n hx hb dX7_marginOf_44 rfl (lv_at hl 3 rfl) ?_
                refine lv_iload_n hx hb dX7_marginOf_45 rfl (lv_at hl 1 rfl) ?_
                refine lv_iload hx hb dX7_marginOf_46 (lv_at hl 0 rfl) ?_
                refine vp_callSi (va_Run.run (va_runV (As := [.int x3_9, .int x4_27]) (rest := []) ⟨hx, hb, hml, hown, hts⟩ (kX7_spare l D cI ad w x3_9 x4_27 hI (by omega) (by omega) (by omega) (by omega)) (cwV 2 hts gX7_marginOf_X7_spare rfl rfl rfl mdX7_spare ⟨Nat.le_of_ble_eq_true rfl, Nat.le_of_ble_eq_true rfl⟩) (r7_pre hK hP) rfl rfl hl.1 rfl (lv_room (Nat.le_of_ble_eq_true rfl)) dX7_marginOf_48 ⟨Nat.zero_le _, Nat.zero_le _⟩)) (fun r_7 hr_7 => ?_)
                subst hr_7
                refine lv_iload_n hx hb dX7_marginOf_51 rfl (lv_at hl 2 rfl) ?_
                refine lv_icmp_ge (tgt := 65) hx hb dX7_marginOf_52 (by decide) (fun c_8 => ?_) (fun c_8 => ?_)
                · have E := E.trans (if_pos c_8)
                  have fc_8 := i_le c_8
                  refine lv_iload_n hx hb dX7_marginOf_65 rfl (lv_at hl 2 rfl) ?_
                  refine lv_istore_n (lv' := [(2, .int x2_27), (4, .int x4_27), (3, .int x3_9), (0, .ref (ad 0)), (1, .int a1)]) hx hb dX7_marginOf_66 rfl hl (by decide) rfl (fun ls hl => ?_)
                  refine lv_iinc (v := x4_27 + 1) (lv' := [(4, .int (x4_27 + 1)), (2, .int x2_27), (3, .int x3_9), (0, .ref (ad 0)), (1, .int a1)]) hx hb dX7_marginOf_67 hl (k := 1) rfl rfl (by decide) rfl (fun ls hl => ?_)
                  refine lv_goto (tgt := 27) hx hb dX7_marginOf_70 (by decide) ?_
                  try have := i_addr (a := x4_27) (b := 1) (n := 1) q_1 (by omega) (by omega)
                  exact ih_27 x2_27 (x4_27 + 1) ls ⟨by omega, by omega⟩ (by omega) (lv_sub hl [0, 2, 1, 3, 4] rfl) E
                · have E := E.trans (if_neg c_8)
                  have fc_8 := i_nle c_8
                  refine lv_aload_n hx hb dX7_marginOf_55 rfl (lv_at hl 3 rfl) ?_
                  refine lv_iload_n hx hb dX7_marginOf_56 rfl (lv_at hl 1 rfl) ?_
                  refine lv_iload hx hb dX7_marginOf_57 (lv_at hl 0 rfl) ?_
                  refine vp_callSi (va_Run.run (va_runV (As := [.int x3_9, .int x4_27]) (rest := []) ⟨hx, hb, hml, hown, hts⟩ (kX7_spare l D cI ad w x3_9 x4_27 hI (by omega) (by omega) (by omega) (by omega)) (cwV 2 hts gX7_marginOf_X7_spare rfl rfl rfl mdX7_spare ⟨Nat.le_of_ble_eq_true rfl, Nat.le_of_ble_eq_true rfl⟩) (r7_pre hK hP) rfl rfl hl.1 rfl (lv_room (Nat.le_of_ble_eq_true rfl)) dX7_marginOf_59 ⟨Nat.zero_le _, Nat.zero_le _⟩)) (fun r_9 hr_9 => ?_)
                  subst hr_9
                  refine lv_goto (tgt := 66) hx hb dX7_marginOf_62 (by decide) ?_
                  refine lv_istore_n (lv' := [(2, .int (sX7_spare w x3_9 x4_27)), (4, .int x4_27), (3, .int x3_9), (0, .ref (ad 0)), (1, .int a1)]) hx hb dX7_marginOf_66 rfl hl (by decide) rfl (fun ls hl => ?_)
                  refine lv_iinc (v := x4_27 + 1) (lv' := [(4, .int (x4_27 + 1)), (2, .int (sX7_spare w x3_9 x4_27)), (3, .int x3_9), (0, .ref (ad 0)), (1, .int a1)]) hx hb dX7_marginOf_67 hl (k := 1) rfl rfl (by decide) rfl (fun ls hl => ?_)
                  refine lv_goto (tgt := 27) hx hb dX7_marginOf_70 (by decide) ?_
                  try have := i_addr (a := x4_27) (b := 1) (n := 1) q_1 (by omega) (by omega)
                  exact ih_27 ((sX7_spare w x3_9 x4_27)) (x4_27 + 1) ls ⟨by omega, by omega⟩ (by omega) (lv_sub hl [0, 2, 1, 3, 4] rfl) E
        have := q_0
        exact L_27 13 x2_9 0 ls ⟨by omega, by omega⟩ (by omega) (lv_sub hl [0, 1, 2, 3, 4] rfl) E
  try have := i_mull (a := 6) (b := a1) (n := 6) q_6 (by omega) (by omega)
  exact L_9 13 9999 (6 * a1) ls ⟨by omega, by omega⟩ (by omega) (lv_sub hl [0, 1, 2, 3] rfl) E
abbrev rmX7_minutesOf : Room := { frames := 0, cells := 0, slots := 0, locals := 0 }
set_option maxHeartbeats 4000000 in
set_option maxRecDepth 100000 in
theorem kX7_minutesOf (l : Launch) (D : va_G) (cI : ClassId) (ad : Nat → Nat) (w : Nat → Nat → Int32) (a1 : Int32)  (hI : R7I w) (h1 : 0 ≤ a1.toInt) (h2 : a1.toInt < 2) : Met l yX7_minutesOf wsX7_minutesOf rmX7_minutesOf (va_Pc [Value.ref (ad 0), Value.int a1] (fun U => va_P D vwCl (RM cI ad w) U.heap ∧ va_K D vwCl [(cI, .int)] U)) (vp_Si (fun r => r = sX7_minutesOf w a1)) 0 0 (fun _ => False) := by
  refine Met.ofW (cc := cX7_minutesOf) (maxL := 4) (ret := (some .int)) (by decide) rfl ?_
  intro p e s m args below meth c s₁ B hml hv
  obtain ⟨rfl, hP, hK⟩ := hv
  have hx := B.exec
  have hb := B.bytes
  have hr := B.returns
  have hts := atoms_spec (ws := wsX7_minutesOf) B.pre
  have hown : s.vm.findClass RX7 = some m.cls := findClass_of_methodNamed B.named
  have hlocks := B.notSynchronized
  have hin : ∀ q ∈ wsX70, q ∈ wsX7_minutesOf := by decide +kernel
  have hl := lv_entry ([.ref (ad 0), .int a1]) (n := 4) (Nat.le_of_ble_eq_true rfl)
  rw [lg_entry_eq]
  generalize (lg_sl ([.ref (ad 0), .int a1]) ++ List.replicate (4 - (lg_sl ([.ref (ad 0), .int a1])).length) Slot.unset).toArray = ls at hl ⊢
  have hl : lv_has ls 4 [(0, .ref (ad 0)), (1, .int a1)] := hl
  have E := sX7_minutesOf.eq_1 w a1
  refine lv_iconst (v := 0) hx hb dX7_minutesOf_0 (by decide) ?_
  refine lv_istore_n (lv' := [(2, .int 0), (0, .ref (ad 0)), (1, .int a1)]) hx hb dX7_minutesOf_1 rfl hl (by decide) rfl (fun ls hl => ?_)
  refine lv_bipush (v := 6) hx hb dX7_minutesOf_2 (by decide +kernel) ?_
  refine lv_iload_n hx hb dX7_minutesOf_4 rfl (lv_at hl 2 rfl) ?_
  refine lv_imul hx hb dX7_minutesOf_5 ?_
  refine lv_istore_n (lv' := [(3, .int (6 * a1)), (2, .int 0), (0, .ref (ad 0)), (1, .int a1)]) hx hb dX7_minutesOf_6 rfl hl (by decide) rfl (fun ls hl => ?_)
  have L_7 : ∀ (n_7 : Nat) (x2_7 : Int32) (x3_7 : Int32) (ls : Array Slot), ((0 ≤ x3_7.toInt) ∧ (x3_7.toInt ≤ 12)) → (12 - x3_7.toInt < (n_7 : Int)) → lv_has ls 4 [(3, .int x3_7), (2, .int x2_7), (0, .ref (ad 0)), (1, .int a1)] → sX7_minutesOf w a1 = sX7_minutesOf_7 w a1 n_7 x2_7 x3_7 → W p l e (headSpec wsX7_minutesOf rmX7_minutesOf).room s m [Value.ref (ad 0), Value.int a1].toArray below meth c s.heap [] 0 0 (MQ below (vp_Si (fun r => r = sX7_minutesOf w a1)) [Value.ref (ad 0), Value.int a1].toArray s 0 0 (fun _ => False)) (F0 m 7 ls []) := by
    intro n_7
    induction n_7 with
    | zero =>
      intro x2_7 x3_7 ls hinv hm
      obtain ⟨v0_7, v1_7⟩ := hinv
      exact absurd hm (by omega)
    | succ n_7 ih_7 =>
      intro x2_7 x3_7 ls hinv hm_7 hl E
      obtain ⟨v0_7, v1_7⟩ := hinv
      have E := E.trans (sX7_minutesOf_7.eq_2 ..)
      refine lv_iload_n hx hb dX7_minutesOf_7 rfl (lv_at hl 0 rfl) ?_
      refine lv_bipush (v := 6) hx hb dX7_minutesOf_8 (by decide +kernel) ?_
      refine lv_iload_n hx hb dX7_minutesOf_10 rfl (lv_at hl 3 rfl) ?_
      refine lv_imul hx hb dX7_minutesOf_11 ?_
      refine lv_aload_n hx hb dX7_minutesOf_12 rfl (lv_at hl 2 rfl) ?_
      refine g7_pieces hx hb hts hin hown hK hP (hts (.fieldLink RX7 40 "LoadedForTheLaneModel" "pieces" "[I") (by decide +kernel)) dX7_minutesOf_13 ?_
      refine lv_iload_n hx hb dX7_minutesOf_16 rfl (lv_at hl 3 rfl) ?_
      have ix_1 : vp_in a1 2 := ix_of (by omega) (by omega)
      refine l7_pieces (j := a1.toNatClampNeg) hx hb hK hP ix_1 rfl dX7_minutesOf_17 ?_
      have f_1 := R7I_pieces hI (j := a1.toNatClampNeg) (by have := ix_cl (x := a1) (by omega); omega)
      refine lv_iadd hx hb dX7_minutesOf_18 ?_
      try have := i_mull (a := 6) (b := a1) (n := 6) q_6 (by omega) (by omega)
      try have := i_add (a := 6 * a1) (b := w 10 (a1.toNatClampNeg)) (by omega) (by omega)
      refine lv_icmp_ge (tgt := 37) hx hb dX7_minutesOf_19 (by decide) (fun c_2 => ?_) (fun c_2 => ?_)
      · have E := E.trans (if_pos c_2)
        have fc_2 := i_le c_2
        refine lv_iload_n hx hb dX7_minutesOf_37 rfl (lv_at hl 1 rfl) ?_
        exact W.iret (v := x2_7) hx hb hr (fun t ht hW => ⟨_, rfl, E.symm, ht⟩) (fun q hq => by cases hq) dX7_minutesOf_38
      · have E := E.trans (if_neg c_2)
        have fc_2 := i_nle c_2
        refine lv_iload_n hx hb dX7_minutesOf_22 rfl (lv_at hl 1 rfl) ?_
        refine lv_aload_n hx hb dX7_minutesOf_23 rfl (lv_at hl 2 rfl) ?_
        refine g7_lasting hx hb hts hin hown hK hP (hts (.fieldLink RX7 37 "LoadedForTheLaneModel" "lasting" "[I") (by decide +kernel)) dX7_minutesOf_24 ?_
        refine lv_iload_n hx hb dX7_minutesOf_27 rfl (lv_at hl 0 rfl) ?_
        have ix_3 : vp_in x3_7 12 := ix_of (by omega) (by omega)
        refine l7_lasting (j := x3_7.toNatClampNeg) hx hb hK hP ix_3 rfl dX7_minutesOf_28 ?_
        refine lv_iadd hx hb dX7_minutesOf_29 ?_
        refine lv_istore_n (lv' := [(2, .int (x2_7 + (w 9 (x3_7.toNatClampNeg)))), (3, .int x3_7), (0, .ref (ad 0)), (1, .int a1)]) hx hb dX7_minutesOf_30 rfl hl (by decide) rfl (fun ls hl => ?_)
        refine lv_iinc (v := x3_7 + 1) (lv' := [(3, .int (x3_7 + 1)), (2, .int (x2_7 + (w 9 (x3_7.toNatClampNeg)))), (0, .ref (ad 0)), (1, .int a1)]) hx hb dX7_minutesOf_31 hl (k := 1) rfl rfl (by decide) rfl (fun ls hl => ?_)
        refine lv_goto (tgt := 7) hx hb dX7_minutesOf_34 (by decide) ?_
        try have := i_addr (a := x3_7) (b := 1) (n := 1) q_1 (by omega) (by omega)
        exact ih_7 (x2_7 + (w 9 (x3_7.toNatClampNeg))) (x3_7 + 1) ls ⟨by omega, by omega⟩ (by omega) (lv_sub hl [0, 1, 2, 3] rfl) E
  try have := i_mull (a := 6) (b := a1) (n := 6) q_6 (by omega) (by omega)
  exact L_7 13 0 (6 * a1) ls ⟨by omega, by omega⟩ (by omega) (lv_sub hl [0, 1, 2, 3] rfl) E
abbrev rmX7_pitchMinutes : Room := { frames := 1, cells := 0, slots := 0, locals := 22 }
set_option maxHeartbeats 4000000 in
set_option maxRecDepth 100000 in
theorem kX7_pitchMinutes (l : Launch) (D : va_G) (cI : ClassId) (ad : Nat → Nat) (w : Nat → Nat → Int32) (a1 : Int32)  (hI : R7I w) (h1 : 0 < a1.toInt) : Met l yX7_pitchMinutes wsX7_pitchMinutes rmX7_pitchMinutes (va_Pc [Value.ref (ad 0), Value.int a1] (fun U => va_P D vwCl (RM cI ad w) U.heap ∧ va_K D vwCl [(cI, .int)] U)) (vp_Si (fun r => r = sX7_pitchMinutes w a1)) 0 0 (fun _ => False) := by
  refine Met.ofW (cc := cX7_pitchMinutes) (maxL := 2) (ret := (some .int)) (by decide) rfl ?_
  intro p e s m args below meth c s₁ B hml hv
  obtain ⟨rfl, hP, hK⟩ := hv
  have hx := B.exec
  have hb := B.bytes
  have hr := B.returns
  have hts := atoms_spec (ws := wsX7_pitchMinutes) B.pre
  have hown : s.vm.findClass RX7 = some m.cls := findClass_of_methodNamed B.named
  have hlocks := B.notSynchronized
  have hin : ∀ q ∈ wsX70, q ∈ wsX7_pitchMinutes := by decide +kernel
  have hl := lv_entry ([.ref (ad 0), .int a1]) (n := 2) (Nat.le_of_ble_eq_true rfl)
  rw [lg_entry_eq]
  generalize (lg_sl ([.ref (ad 0), .int a1]) ++ List.replicate (2 - (lg_sl ([.ref (ad 0), .int a1])).length) Slot.unset).toArray = ls at hl ⊢
  have hl : lv_has ls 2 [(0, .ref (ad 0)), (1, .int a1)] := hl
  have E := sX7_pitchMinutes.eq_1 w a1
  refine lv_aload_n hx hb dX7_pitchMinutes_0 rfl (lv_at hl 0 rfl) ?_
  refine vp_callSi (va_Run.run (va_runV (As := []) (rest := []) ⟨hx, hb, hml, hown, hts⟩ (kX7_allSheaves l D cI ad w hI) (cwV 0 hts gX7_pitchMinutes_X7_allSheaves rfl rfl rfl mdX7_allSheaves ⟨Nat.le_of_ble_eq_true rfl, Nat.le_of_ble_eq_true rfl⟩) (r7_pre hK hP) rfl rfl hl.1 rfl (lv_room (Nat.le_of_ble_eq_true rfl)) dX7_pitchMinutes_1 ⟨Nat.zero_le _, Nat.zero_le _⟩)) (fun r_1 hr_1 => ?_)
  subst hr_1
  refine lv_iload_n hx hb dX7_pitchMinutes_4 rfl (lv_at hl 1 rfl) ?_
  refine lv_iadd hx hb dX7_pitchMinutes_5 ?_
  refine lv_iconst (v := 1) hx hb dX7_pitchMinutes_6 (by decide) ?_
  refine lv_isub hx hb dX7_pitchMinutes_7 ?_
  refine lv_iload_n hx hb dX7_pitchMinutes_8 rfl (lv_at hl 1 rfl) ?_
  refine lv_idiv hx hb dX7_pitchMinutes_9 (i_ne0 (by omega)) ?_
  exact W.iret (v := (((sX7_allSheaves w) + a1) - 1) / a1) hx hb hr (fun t ht hW => ⟨_, rfl, E.symm, ht⟩) (fun q hq => by cases hq) dX7_pitchMinutes_10
abbrev rmX7_areTwos : Room := { frames := 0, cells := 0, slots := 0, locals := 0 }
set_option maxHeartbeats 4000000 in
set_option maxRecDepth 100000 in
theorem kX7_areTwos (l : Launch) (D : va_G) (cI : ClassId) (ad : Nat → Nat) (w : Nat → Nat → Int32)  (hI : R7I w)  : Met l yX7_areTwos wsX7_areTwos rmX7_areTwos (va_Pc [Value.ref (ad 0)] (fun U => va_P D vwCl (RM cI ad w) U.heap ∧ va_K D vwCl [(cI, .int)] U)) (vp_Si (fun r => r = sX7_areTwos w ∧ (r = 0 ∨ r = 1))) 0 0 (fun _ => False) := by
  refine Met.ofW (cc := cX7_areTwos) (maxL := 2) (ret := (some .boolean)) (by decide) rfl ?_
  intro p e s m args below meth c s₁ B hml hv
  obtain ⟨rfl, hP, hK⟩ := hv
  have hx := B.exec
  have hb := B.bytes
  have hr := B.returns
  have hts := atoms_spec (ws := wsX7_areTwos) B.pre
  have hown : s.vm.findClass RX7 = some m.cls := findClass_of_methodNamed B.named
  have hlocks := B.notSynchronized
  have hin : ∀ q ∈ wsX70, q ∈ wsX7_areTwos := by decide +kernel
  have hl := lv_entry ([.ref (ad 0)]) (n := 2) (Nat.le_of_ble_eq_true rfl)
  rw [lg_entry_eq]
  generalize (lg_sl ([.ref (ad 0)]) ++ List.replicate (2 - (lg_sl ([.ref (ad 0)])).length) Slot.unset).toArray = ls at hl ⊢
  have hl : lv_has ls 2 [(0, .ref (ad 0))] := hl
  have E := sX7_areTwos.eq_1 w
  refine lv_iconst (v := 1) hx hb dX7_areTwos_0 (by decide) ?_
  refine lv_istore_n (lv' := [(1, .int 1), (0, .ref (ad 0))]) hx hb dX7_areTwos_1 rfl hl (by decide) rfl (fun ls hl => ?_)
  have L_2 : ∀ (n_2 : Nat) (x1_2 : Int32) (ls : Array Slot), ((1 ≤ x1_2.toInt) ∧ (x1_2.toInt ≤ 13)) → (13 - x1_2.toInt < (n_2 : Int)) → lv_has ls 2 [(1, .int x1_2), (0, .ref (ad 0))] → sX7_areTwos w = sX7_areTwos_2 w n_2 x1_2 → W p l e (headSpec wsX7_areTwos rmX7_areTwos).room s m [Value.ref (ad 0)].toArray below meth c s.heap [] 0 0 (MQ below (vp_Si (fun r => r = sX7_areTwos w ∧ (r = 0 ∨ r = 1))) [Value.ref (ad 0)].toArray s 0 0 (fun _ => False)) (F0 m 2 ls []) := by
    intro n_2
    induction n_2 with
    | zero =>
      intro x1_2 ls hinv hm
      obtain ⟨v0_2, v1_2⟩ := hinv
      exact absurd hm (by omega)
    | succ n_2 ih_2 =>
      intro x1_2 ls hinv hm_2 hl E
      obtain ⟨v0_2, v1_2⟩ := hinv
      have E := E.trans (sX7_areTwos_2.eq_2 ..)
      refine lv_iload_n hx hb dX7_areTwos_2 rfl (lv_at hl 0 rfl) ?_
      refine lv_aload_n hx hb dX7_areTwos_3 rfl (lv_at hl 1 rfl) ?_
      refine g7_rowMany hx hb hts hin hown hK hP (hts (.fieldLink RX7 262 "LoadedForTheLaneModel" "rowMany" "I") (by decide +kernel)) dX7_areTwos_4 ?_
      have f_1 := R7I_rowMany hI
      refine lv_icmp_ge (tgt := 28) hx hb dX7_areTwos_7 (by decide) (fun c_2 => ?_) (fun c_2 => ?_)
      · have E := E.trans (if_pos c_2)
        have fc_2 := i_le c_2
        refine lv_aload_n hx hb dX7_areTwos_28 rfl (lv_at hl 1 rfl) ?_
        refine g7_rowMany hx hb hts hin hown hK hP (hts (.fieldLink RX7 262 "LoadedForTheLaneModel" "rowMany" "I") (by decide +kernel)) dX7_areTwos_29 ?_
        have f_3 := R7I_rowMany hI
        refine lv_iconst (v := 2) hx hb dX7_areTwos_32 (by decide) ?_
        refine lv_irem hx hb dX7_areTwos_33 (by decide) ?_
        refine lv_if_ne (tgt := 41) hx hb dX7_areTwos_34 (by decide) (fun c_4 => ?_) (fun c_4 => ?_)
        · have E := E.trans (if_neg c_4)
          have fc_4 := i_ne c_4
          rw [q_0] at fc_4
          refine lv_iconst (v := 0) hx hb dX7_areTwos_41 (by decide) ?_
          exact W.zret (ty := .boolean) (v := 0) hx hb hr (z_nar (Or.inl rfl)) (fun t ht hW => ⟨_, rfl, ⟨E.symm, (Or.inl rfl)⟩, ht⟩) (fun q hq => by cases hq) dX7_areTwos_42
        · have E := E.trans (if_pos c_4)
          have fc_4 := i_eq c_4
          rw [q_0] at fc_4
          refine lv_iconst (v := 1) hx hb dX7_areTwos_37 (by decide) ?_
          refine lv_goto (tgt := 42) hx hb dX7_areTwos_38 (by decide) ?_
          exact W.zret (ty := .boolean) (v := 1) hx hb hr (z_nar (Or.inr rfl)) (fun t ht hW => ⟨_, rfl, ⟨E.symm, (Or.inr rfl)⟩, ht⟩) (fun q hq => by cases hq) dX7_areTwos_42
      · have E := E.trans (if_neg c_2)
        have fc_2 := i_nle c_2
        refine lv_aload_n hx hb dX7_areTwos_10 rfl (lv_at hl 1 rfl) ?_
        refine g7_row hx hb hts hin hown hK hP (hts (.fieldLink RX7 61 "LoadedForTheLaneModel" "row" "[I") (by decide +kernel)) dX7_areTwos_11 ?_
        refine lv_iload_n hx hb dX7_areTwos_14 rfl (lv_at hl 0 rfl) ?_
        have ix_5 : vp_in x1_2 12 := ix_of (by omega) (by omega)
        refine l7_row (j := x1_2.toNatClampNeg) hx hb hK hP ix_5 rfl dX7_areTwos_15 ?_
        refine lv_iconst (v := 1) hx hb dX7_areTwos_16 (by decide) ?_
        refine lv_icmp_le (tgt := 22) hx hb dX7_areTwos_17 (by decide) (fun c_6 => ?_) (fun c_6 => ?_)
        · have E := E.trans (if_pos c_6)
          have fc_6 := i_le c_6
          rw [q_1] at fc_6
          refine lv_iinc (v := x1_2 + 2) (lv' := [(1, .int (x1_2 + 2)), (0, .ref (ad 0))]) hx hb dX7_areTwos_22 hl (k := 0) rfl rfl (by decide) rfl (fun ls hl => ?_)
          refine lv_goto (tgt := 2) hx hb dX7_areTwos_25 (by decide) ?_
          try have := i_addr (a := x1_2) (b := 2) (n := 2) q_2 (by omega) (by omega)
          exact ih_2 (x1_2 + 2) ls ⟨by omega, by omega⟩ (by omega) (lv_sub hl [0, 1] rfl) E
        · have E := E.trans (if_neg c_6)
          have fc_6 := i_nle c_6
          rw [q_1] at fc_6
          refine lv_iconst (v := 0) hx hb dX7_areTwos_20 (by decide) ?_
          exact W.zret (ty := .boolean) (v := 0) hx hb hr (z_nar (Or.inl rfl)) (fun t ht hW => ⟨_, rfl, ⟨E.symm, (Or.inl rfl)⟩, ht⟩) (fun q hq => by cases hq) dX7_areTwos_21
  have := q_1
  exact L_2 14 1 ls ⟨by omega, by omega⟩ (by omega) (lv_sub hl [0, 1] rfl) E
abbrev rmX7_isBoundBy : Room := { frames := 0, cells := 0, slots := 0, locals := 0 }
set_option maxHeartbeats 4000000 in
set_option maxRecDepth 100000 in
theorem kX7_isBoundBy (l : Launch) (D : va_G) (cI : ClassId) (ad : Nat → Nat) (w : Nat → Nat → Int32) (a1 : Int32) (a2 : Int32)  (hI : R7I w) (h1 : (w 27 0).toInt % 2 = 0) : Met l yX7_isBoundBy wsX7_isBoundBy rmX7_isBoundBy (va_Pc [Value.ref (ad 0), Value.int a1, Value.int a2] (fun U => va_P D vwCl (RM cI ad w) U.heap ∧ va_K D vwCl [(cI, .int)] U)) (vp_Si (fun r => r = sX7_isBoundBy w a1 a2 ∧ (r = 0 ∨ r = 1))) 0 0 (fun _ => False) := by
  refine Met.ofW (cc := cX7_isBoundBy) (maxL := 4) (ret := (some .boolean)) (by decide) rfl ?_
  intro p e s m args below meth c s₁ B hml hv
  obtain ⟨rfl, hP, hK⟩ := hv
  have hx := B.exec
  have hb := B.bytes
  have hr := B.returns
  have hts := atoms_spec (ws := wsX7_isBoundBy) B.pre
  have hown : s.vm.findClass RX7 = some m.cls := findClass_of_methodNamed B.named
  have hlocks := B.notSynchronized
  have hin : ∀ q ∈ wsX70, q ∈ wsX7_isBoundBy := by decide +kernel
  have hl := lv_entry ([.ref (ad 0), .int a1, .int a2]) (n := 4) (Nat.le_of_ble_eq_true rfl)
  rw [lg_entry_eq]
  generalize (lg_sl ([.ref (ad 0), .int a1, .int a2]) ++ List.replicate (4 - (lg_sl ([.ref (ad 0), .int a1, .int a2])).length) Slot.unset).toArray = ls at hl ⊢
  have hl : lv_has ls 4 [(0, .ref (ad 0)), (1, .int a1), (2, .int a2)] := hl
  have E := sX7_isBoundBy.eq_1 w a1 a2
  refine lv_iconst (v := 0) hx hb dX7_isBoundBy_0 (by decide) ?_
  refine lv_istore_n (lv' := [(3, .int 0), (0, .ref (ad 0)), (1, .int a1), (2, .int a2)]) hx hb dX7_isBoundBy_1 rfl hl (by decide) rfl (fun ls hl => ?_)
  have L_2 : ∀ (n_2 : Nat) (x3_2 : Int32) (ls : Array Slot), ((0 ≤ x3_2.toInt) ∧ (x3_2.toInt ≤ 12) ∧ (x3_2.toInt % 2 = 0)) → (12 - x3_2.toInt < (n_2 : Int)) → lv_has ls 4 [(3, .int x3_2), (0, .ref (ad 0)), (1, .int a1), (2, .int a2)] → sX7_isBoundBy w a1 a2 = sX7_isBoundBy_2 w a1 a2 n_2 x3_2 → W p l e (headSpec wsX7_isBoundBy rmX7_isBoundBy).room s m [Value.ref (ad 0), Value.int a1, Value.int a2].toArray below meth c s.heap [] 0 0 (MQ below (vp_Si (fun r => r = sX7_isBoundBy w a1 a2 ∧ (r = 0 ∨ r = 1))) [Value.ref (ad 0), Value.int a1, Value.int a2].toArray s 0 0 (fun _ => False)) (F0 m 2 ls []) := by
    intro n_2
    induction n_2 with
    | zero =>
      intro x3_2 ls hinv hm
      obtain ⟨v0_2, v1_2, v2_2⟩ := hinv
      exact absurd hm (by omega)
    | succ n_2 ih_2 =>
      intro x3_2 ls hinv hm_2 hl E
      obtain ⟨v0_2, v1_2, v2_2⟩ := hinv
      have E := E.trans (sX7_isBoundBy_2.eq_2 ..)
      refine lv_iload_n hx hb dX7_isBoundBy_2 rfl (lv_at hl 0 rfl) ?_
      refine lv_aload_n hx hb dX7_isBoundBy_3 rfl (lv_at hl 1 rfl) ?_
      refine g7_rowMany hx hb hts hin hown hK hP (hts (.fieldLink RX7 262 "LoadedForTheLaneModel" "rowMany" "I") (by decide +kernel)) dX7_isBoundBy_4 ?_
      have f_1 := R7I_rowMany hI
      refine lv_icmp_ge (tgt := 55) hx hb dX7_isBoundBy_7 (by decide) (fun c_2 => ?_) (fun c_2 => ?_)
      · have E := E.trans (if_pos c_2)
        have fc_2 := i_le c_2
        refine lv_iconst (v := 1) hx hb dX7_isBoundBy_55 (by decide) ?_
        exact W.zret (ty := .boolean) (v := 1) hx hb hr (z_nar (Or.inr rfl)) (fun t ht hW => ⟨_, rfl, ⟨E.symm, (Or.inr rfl)⟩, ht⟩) (fun q hq => by cases hq) dX7_isBoundBy_56
      · have E := E.trans (if_neg c_2)
        have fc_2 := i_nle c_2
        refine lv_aload_n hx hb dX7_isBoundBy_10 rfl (lv_at hl 1 rfl) ?_
        refine g7_row hx hb hts hin hown hK hP (hts (.fieldLink RX7 61 "LoadedForTheLaneModel" "row" "[I") (by decide +kernel)) dX7_isBoundBy_11 ?_
        refine lv_iload_n hx hb dX7_isBoundBy_14 rfl (lv_at hl 0 rfl) ?_
        have ix_3 : vp_in x3_2 12 := ix_of (by omega) (by omega)
        refine l7_row (j := x3_2.toNatClampNeg) hx hb hK hP ix_3 rfl dX7_isBoundBy_15 ?_
        refine lv_iload_n hx hb dX7_isBoundBy_16 rfl (lv_at hl 2 rfl) ?_
        refine lv_imul hx hb dX7_isBoundBy_17 ?_
        refine lv_iload_n hx hb dX7_isBoundBy_18 rfl (lv_at hl 3 rfl) ?_
        try have := i_mul (a := w 26 (x3_2.toNatClampNeg)) (b := a1) (by omega) (by omega)
        refine lv_icmp_lt (tgt := 26) hx hb dX7_isBoundBy_19 (by decide) (fun c_4 => ?_) (fun c_4 => ?_)
        · have E := E.trans (if_pos c_4)
          have fc_4 := i_lt c_4
          refine lv_iconst (v := 0) hx hb dX7_isBoundBy_26 (by decide) ?_
          refine lv_aload_n hx hb dX7_isBoundBy_27 rfl (lv_at hl 1 rfl) ?_
          refine g7_row hx hb hts hin hown hK hP (hts (.fieldLink RX7 61 "LoadedForTheLaneModel" "row" "[I") (by decide +kernel)) dX7_isBoundBy_28 ?_
          refine lv_iload_n hx hb dX7_isBoundBy_31 rfl (lv_at hl 0 rfl) ?_
          refine lv_iconst (v := 1) hx hb dX7_isBoundBy_32 (by decide) ?_
          refine lv_iadd hx hb dX7_isBoundBy_33 ?_
          have := i_addr (a := x3_2) (b := 1) (n := 1) q_1 (by omega) (by omega)
          have ix_5 : vp_in (x3_2 + 1) 12 := ix_of (by omega) (by omega)
          refine l7_row (j := (x3_2 + 1).toNatClampNeg) hx hb hK hP ix_5 rfl dX7_isBoundBy_34 ?_
          refine lv_iconst (v := 1) hx hb dX7_isBoundBy_35 (by decide) ?_
          refine lv_icmp_ne (tgt := 43) hx hb dX7_isBoundBy_36 (by decide) (fun c_6 => ?_) (fun c_6 => ?_)
          · have E := E.trans (if_neg c_6)
            have fc_6 := i_ne c_6
            rw [q_1] at fc_6
            refine lv_iconst (v := 0) hx hb dX7_isBoundBy_43 (by decide) ?_
            refine lv_icmp_eq (tgt := 49) hx hb dX7_isBoundBy_44 (by decide) (fun _ => ?_) (fun z => absurd z (by decide))
            refine lv_iinc (v := x3_2 + 2) (lv' := [(3, .int (x3_2 + 2)), (0, .ref (ad 0)), (1, .int a1), (2, .int a2)]) hx hb dX7_isBoundBy_49 hl (k := 0) rfl rfl (by decide) rfl (fun ls hl => ?_)
            refine lv_goto (tgt := 2) hx hb dX7_isBoundBy_52 (by decide) ?_
            try have := i_addr (a := x3_2) (b := 2) (n := 2) q_2 (by omega) (by omega)
            exact ih_2 (x3_2 + 2) ls ⟨by omega, by omega, by omega⟩ (by omega) (lv_sub hl [0, 1, 2, 3] rfl) E
          · have E := E.trans (if_pos c_6)
            have fc_6 := i_eq c_6
            rw [q_1] at fc_6
            refine lv_iconst (v := 1) hx hb dX7_isBoundBy_39 (by decide) ?_
            refine lv_goto (tgt := 44) hx hb dX7_isBoundBy_40 (by decide) ?_
            refine lv_icmp_eq (tgt := 49) hx hb dX7_isBoundBy_44 (by decide) (fun z => absurd z (by decide)) (fun _ => ?_)
            refine lv_iconst (v := 0) hx hb dX7_isBoundBy_47 (by decide) ?_
            exact W.zret (ty := .boolean) (v := 0) hx hb hr (z_nar (Or.inl rfl)) (fun t ht hW => ⟨_, rfl, ⟨E.symm, (Or.inl rfl)⟩, ht⟩) (fun q hq => by cases hq) dX7_isBoundBy_48
        · have E := E.trans (if_neg c_4)
          have fc_4 := i_nlt c_4
          refine lv_iconst (v := 1) hx hb dX7_isBoundBy_22 (by decide) ?_
          refine lv_goto (tgt := 27) hx hb dX7_isBoundBy_23 (by decide) ?_
          refine lv_aload_n hx hb dX7_isBoundBy_27 rfl (lv_at hl 1 rfl) ?_
          refine g7_row hx hb hts hin hown hK hP (hts (.fieldLink RX7 61 "LoadedForTheLaneModel" "row" "[I") (by decide +kernel)) dX7_isBoundBy_28 ?_
          refine lv_iload_n hx hb dX7_isBoundBy_31 rfl (lv_at hl 0 rfl) ?_
          refine lv_iconst (v := 1) hx hb dX7_isBoundBy_32 (by decide) ?_
          refine lv_iadd hx hb dX7_isBoundBy_33 ?_
          have := i_addr (a := x3_2) (b := 1) (n := 1) q_1 (by omega) (by omega)
          have ix_7 : vp_in (x3_2 + 1) 12 := ix_of (by omega) (by omega)
          refine l7_row (j := (x3_2 + 1).toNatClampNeg) hx hb hK hP ix_7 rfl dX7_isBoundBy_34 ?_
          refine lv_iconst (v := 1) hx hb dX7_isBoundBy_35 (by decide) ?_
          refine lv_icmp_ne (tgt := 43) hx hb dX7_isBoundBy_36 (by decide) (fun c_8 => ?_) (fun c_8 => ?_)
          · have E := E.trans (if_neg c_8)
            have fc_8 := i_ne c_8
            rw [q_1] at fc_8
            refine lv_iconst (v := 0) hx hb dX7_isBoundBy_43 (by decide) ?_
            refine lv_icmp_eq (tgt := 49) hx hb dX7_isBoundBy_44 (by decide) (fun z => absurd z (by decide)) (fun _ => ?_)
            refine lv_iconst (v := 0) hx hb dX7_isBoundBy_47 (by decide) ?_
            exact W.zret (ty := .boolean) (v := 0) hx hb hr (z_nar (Or.inl rfl)) (fun t ht hW => ⟨_, rfl, ⟨E.symm, (Or.inl rfl)⟩, ht⟩) (fun q hq => by cases hq) dX7_isBoundBy_48
          · have E := E.trans (if_pos c_8)
            have fc_8 := i_eq c_8
            rw [q_1] at fc_8
            refine lv_iconst (v := 1) hx hb dX7_isBoundBy_39 (by decide) ?_
            refine lv_goto (tgt := 44) hx hb dX7_isBoundBy_40 (by decide) ?_
            refine lv_icmp_eq (tgt := 49) hx hb dX7_isBoundBy_44 (by decide) (fun _ => ?_) (fun z => absurd z (by decide))
            refine lv_iinc (v := x3_2 + 2) (lv' := [(3, .int (x3_2 + 2)), (0, .ref (ad 0)), (1, .int a1), (2, .int a2)]) hx hb dX7_isBoundBy_49 hl (k := 0) rfl rfl (by decide) rfl (fun ls hl => ?_)
            refine lv_goto (tgt := 2) hx hb dX7_isBoundBy_52 (by decide) ?_
            try have := i_addr (a := x3_2) (b := 2) (n := 2) q_2 (by omega) (by omega)
            exact ih_2 (x3_2 + 2) ls ⟨by omega, by omega, by omega⟩ (by omega) (lv_sub hl [0, 1, 2, 3] rfl) E
  have := q_0
  exact L_2 13 0 ls ⟨by omega, by omega, by omega⟩ (by omega) (lv_sub hl [0, 1, 2, 3] rfl) E
abbrev rmX7_allWeight : Room := { frames := 2, cells := 0, slots := 0, locals := 45 }
set_option maxHeartbeats 4000000 in
set_option maxRecDepth 100000 in
theorem kX7_allWeight (l : Launch) (D : va_G) (cI : ClassId) (ad : Nat → Nat) (w : Nat → Nat → Int32)  (hI : R7I w)  : Met l yX7_allWeight wsX7_allWeight rmX7_allWeight (va_Pc [Value.ref (ad 0)] (fun U => va_P D vwCl (RM cI ad w) U.heap ∧ va_K D vwCl [(cI, .int)] U)) (vp_Si (fun r => r = sX7_allWeight w)) 0 0 (fun _ => False) := by
  refine Met.ofW (cc := cX7_allWeight) (maxL := 1) (ret := (some .int)) (by decide) rfl ?_
  intro p e s m args below meth c s₁ B hml hv
  obtain ⟨rfl, hP, hK⟩ := hv
  have hx := B.exec
  have hb := B.bytes
  have hr := B.returns
  have hts := atoms_spec (ws := wsX7_allWeight) B.pre
  have hown : s.vm.findClass RX7 = some m.cls := findClass_of_methodNamed B.named
  have hlocks := B.notSynchronized
  have hin : ∀ q ∈ wsX70, q ∈ wsX7_allWeight := by decide +kernel
  have hl := lv_entry ([.ref (ad 0)]) (n := 1) (Nat.le_of_ble_eq_true rfl)
  rw [lg_entry_eq]
  generalize (lg_sl ([.ref (ad 0)]) ++ List.replicate (1 - (lg_sl ([.ref (ad 0)])).length) Slot.unset).toArray = ls at hl ⊢
  have hl : lv_has ls 1 [(0, .ref (ad 0))] := hl
  have E := sX7_allWeight.eq_1 w
  refine lv_aload_n hx hb dX7_allWeight_0 rfl (lv_at hl 0 rfl) ?_
  refine g7_layers hx hb hts hin hown hK hP (hts (.fieldLink RX7 67 "LoadedForTheLaneModel" "layers" "I") (by decide +kernel)) dX7_allWeight_1 ?_
  have f_1 := R7I_layers hI
  refine lv_if_ne (tgt := 11) hx hb dX7_allWeight_4 (by decide) (fun c_2 => ?_) (fun c_2 => ?_)
  · have E := E.trans (if_neg c_2)
    have fc_2 := i_ne c_2
    rw [q_0] at fc_2
    refine lv_aload_n hx hb dX7_allWeight_11 rfl (lv_at hl 0 rfl) ?_
    refine lv_iconst (v := 0) hx hb dX7_allWeight_12 (by decide) ?_
    have := q_0
    refine vp_callSi (va_Run.run (va_runV (As := [.int 0]) (rest := []) ⟨hx, hb, hml, hown, hts⟩ (kX7_loadOf l D cI ad w 0 hI (by omega) (by omega)) (cwV 1 hts gX7_allWeight_X7_loadOf rfl rfl rfl mdX7_loadOf ⟨Nat.le_of_ble_eq_true rfl, Nat.le_of_ble_eq_true rfl⟩) (r7_pre hK hP) rfl rfl hl.1 rfl (lv_room (Nat.le_of_ble_eq_true rfl)) dX7_allWeight_13 ⟨Nat.zero_le _, Nat.zero_le _⟩)) (fun r_3 hr_3 => ?_)
    subst hr_3
    exact W.iret (v := (sX7_loadOf w 0)) hx hb hr (fun t ht hW => ⟨_, rfl, E.symm, ht⟩) (fun q hq => by cases hq) dX7_allWeight_16
  · have E := E.trans (if_pos c_2)
    have fc_2 := i_eq c_2
    rw [q_0] at fc_2
    refine lv_iconst (v := 0) hx hb dX7_allWeight_7 (by decide) ?_
    refine lv_goto (tgt := 16) hx hb dX7_allWeight_8 (by decide) ?_
    exact W.iret (v := 0) hx hb hr (fun t ht hW => ⟨_, rfl, E.symm, ht⟩) (fun q hq => by cases hq) dX7_allWeight_16
abbrev rmX7_count : Room := { frames := 3, cells := 0, slots := 0, locals := 65 }
set_option maxHeartbeats 4000000 in
set_option maxRecDepth 100000 in
theorem kX7_count (l : Launch) (D : va_G) (cI : ClassId) (ad : Nat → Nat) (w : Nat → Nat → Int32) (a1 : Int32)  (hI : R7I w)  : Met l yX7_count wsX7_count rmX7_count (va_Pc [Value.ref (ad 0), Value.int a1] (fun U => va_P D vwCl (RM cI ad w) U.heap ∧ va_K D vwCl [(cI, .int)] U)) (vp_Si (fun r => r = sX7_count w a1)) 0 0 (fun _ => False) := by
  refine Met.ofW (cc := cX7_count) (maxL := 2) (ret := (some .int)) (by decide) rfl ?_
  intro p e s m args below meth c s₁ B hml hv
  obtain ⟨rfl, hP, hK⟩ := hv
  have hx := B.exec
  have hb := B.bytes
  have hr := B.returns
  have hts := atoms_spec (ws := wsX7_count) B.pre
  have hown : s.vm.findClass RX7 = some m.cls := findClass_of_methodNamed B.named
  have hlocks := B.notSynchronized
  have hin : ∀ q ∈ wsX70, q ∈ wsX7_count := by decide +kernel
  have hl := lv_entry ([.ref (ad 0), .int a1]) (n := 2) (Nat.le_of_ble_eq_true rfl)
  rw [lg_entry_eq]
  generalize (lg_sl ([.ref (ad 0), .int a1]) ++ List.replicate (2 - (lg_sl ([.ref (ad 0), .int a1])).length) Slot.unset).toArray = ls at hl ⊢
  have hl : lv_has ls 2 [(0, .ref (ad 0)), (1, .int a1)] := hl
  have E := sX7_count.eq_1 w a1
  refine lv_iload_n hx hb dX7_count_0 rfl (lv_at hl 1 rfl) ?_
  refine lv_bipush (v := 11) hx hb dX7_count_1 (by decide +kernel) ?_
  refine lv_bipush (v := 16) hx hb dX7_count_3 (by decide +kernel) ?_
  refine vp_callSi (va_Run.run (va_runS (As := [.int a1, .int 11, .int 16]) (rest := []) ⟨hx, hb, hml, hown, hts⟩ (kX7_isIn l a1 11 16) (va_cwS 3 hts gX7_count_X7_isIn rfl rfl rfl mdX7_isIn ⟨Nat.le_of_ble_eq_true rfl, Nat.le_of_ble_eq_true rfl⟩) s_pre rfl rfl hl.1 rfl (lv_room (Nat.le_of_ble_eq_true rfl)) dX7_count_5 ⟨Nat.zero_le _, Nat.zero_le _⟩)) (fun r_1 hr_1 => ?_)
  obtain ⟨rfl, hz_1⟩ := hr_1
  refine lv_if_eq (tgt := 21) hx hb dX7_count_8 (by decide) (fun c_2 => ?_) (fun c_2 => ?_)
  · have E := E.trans (if_pos c_2)
    have fc_2 := i_eq c_2
    rw [q_0] at fc_2
    refine lv_iload_n hx hb dX7_count_21 rfl (lv_at hl 1 rfl) ?_
    by_cases c_3 : a1 = 0
    · have E := E.trans (if_pos c_3)
      refine lv_tableIn (off := 54) (tgt := 76) hx hb dX7_count_22 (by rw [c_3]; decide) (by rw [c_3]; decide) (by rw [c_3]; rfl) (by decide) ?_
      have fc_3 := i_eq c_3
      rw [q_0] at fc_3
      refine lv_aload_n hx hb dX7_count_76 rfl (lv_at hl 0 rfl) ?_
      refine g7_layers hx hb hts hin hown hK hP (hts (.fieldLink RX7 67 "LoadedForTheLaneModel" "layers" "I") (by decide +kernel)) dX7_count_77 ?_
      have f_4 := R7I_layers hI
      exact W.iret (v := w 11 0) hx hb hr (fun t ht hW => ⟨_, rfl, E.symm, ht⟩) (fun q hq => by cases hq) dX7_count_80
    have E := E.trans (if_neg c_3)
    have fc_3 := i_ne c_3
    rw [q_0] at fc_3
    by_cases c_5 : a1 = 1
    · have E := E.trans (if_pos c_5)
      refine lv_tableIn (off := 59) (tgt := 81) hx hb dX7_count_22 (by rw [c_5]; decide) (by rw [c_5]; decide) (by rw [c_5]; rfl) (by decide) ?_
      have fc_5 := i_eq c_5
      rw [q_1] at fc_5
      refine lv_aload_n hx hb dX7_count_81 rfl (lv_at hl 0 rfl) ?_
      refine g7_pieces hx hb hts hin hown hK hP (hts (.fieldLink RX7 40 "LoadedForTheLaneModel" "pieces" "[I") (by decide +kernel)) dX7_count_82 ?_
      refine lv_iload_n hx hb dX7_count_85 rfl (lv_at hl 1 rfl) ?_
      refine lv_iconst (v := 1) hx hb dX7_count_86 (by decide) ?_
      refine lv_isub hx hb dX7_count_87 ?_
      have := i_subr (a := a1) (b := 1) (n := 1) q_1 (by omega) (by omega)
      have ix_6 : vp_in (a1 - 1) 2 := ix_of (by omega) (by omega)
      refine l7_pieces (j := (a1 - 1).toNatClampNeg) hx hb hK hP ix_6 rfl dX7_count_88 ?_
      have f_6 := R7I_pieces hI (j := (a1 - 1).toNatClampNeg) (by have := ix_cl (x := a1 - 1) (by omega); omega)
      exact W.iret (v := w 10 ((a1 - 1).toNatClampNeg)) hx hb hr (fun t ht hW => ⟨_, rfl, E.symm, ht⟩) (fun q hq => by cases hq) dX7_count_89
    have E := E.trans (if_neg c_5)
    have fc_5 := i_ne c_5
    rw [q_1] at fc_5
    by_cases c_7 : a1 = 2
    · have E := E.trans (if_pos c_7)
      refine lv_tableIn (off := 59) (tgt := 81) hx hb dX7_count_22 (by rw [c_7]; decide) (by rw [c_7]; decide) (by rw [c_7]; rfl) (by decide) ?_
      have fc_7 := i_eq c_7
      rw [q_2] at fc_7
      refine lv_aload_n hx hb dX7_count_81 rfl (lv_at hl 0 rfl) ?_
      refine g7_pieces hx hb hts hin hown hK hP (hts (.fieldLink RX7 40 "LoadedForTheLaneModel" "pieces" "[I") (by decide +kernel)) dX7_count_82 ?_
      refine lv_iload_n hx hb dX7_count_85 rfl (lv_at hl 1 rfl) ?_
      refine lv_iconst (v := 1) hx hb dX7_count_86 (by decide) ?_
      refine lv_isub hx hb dX7_count_87 ?_
      have := i_subr (a := a1) (b := 1) (n := 1) q_1 (by omega) (by omega)
      have ix_8 : vp_in (a1 - 1) 2 := ix_of (by omega) (by omega)
      refine l7_pieces (j := (a1 - 1).toNatClampNeg) hx hb hK hP ix_8 rfl dX7_count_88 ?_
      have f_8 := R7I_pieces hI (j := (a1 - 1).toNatClampNeg) (by have := ix_cl (x := a1 - 1) (by omega); omega)
      exact W.iret (v := w 10 ((a1 - 1).toNatClampNeg)) hx hb hr (fun t ht hW => ⟨_, rfl, E.symm, ht⟩) (fun q hq => by cases hq) dX7_count_89
    have E := E.trans (if_neg c_7)
    have fc_7 := i_ne c_7
    rw [q_2] at fc_7
    by_cases c_9 : a1 = 3
    · have E := E.trans (if_pos c_9)
      refine lv_tableIn (off := 68) (tgt := 90) hx hb dX7_count_22 (by rw [c_9]; decide) (by rw [c_9]; decide) (by rw [c_9]; rfl) (by decide) ?_
      have fc_9 := i_eq c_9
      rw [q_3] at fc_9
      refine lv_aload_n hx hb dX7_count_90 rfl (lv_at hl 0 rfl) ?_
      refine vp_callSi (va_Run.run (va_runV (As := []) (rest := []) ⟨hx, hb, hml, hown, hts⟩ (kX7_heightNow l D cI ad w hI) (cwV 0 hts gX7_count_X7_heightNow rfl rfl rfl mdX7_heightNow ⟨Nat.le_of_ble_eq_true rfl, Nat.le_of_ble_eq_true rfl⟩) (r7_pre hK hP) rfl rfl hl.1 rfl (lv_room (Nat.le_of_ble_eq_true rfl)) dX7_count_91 ⟨Nat.zero_le _, Nat.zero_le _⟩)) (fun r_10 hr_10 => ?_)
      subst hr_10
      exact W.iret (v := (sX7_heightNow w)) hx hb hr (fun t ht hW => ⟨_, rfl, E.symm, ht⟩) (fun q hq => by cases hq) dX7_count_94
    have E := E.trans (if_neg c_9)
    have fc_9 := i_ne c_9
    rw [q_3] at fc_9
    by_cases c_11 : a1 = 4
    · have E := E.trans (if_pos c_11)
      refine lv_tableIn (off := 73) (tgt := 95) hx hb dX7_count_22 (by rw [c_11]; decide) (by rw [c_11]; decide) (by rw [c_11]; rfl) (by decide) ?_
      have fc_11 := i_eq c_11
      rw [q_4] at fc_11
      refine lv_aload_n hx hb dX7_count_95 rfl (lv_at hl 0 rfl) ?_
      refine vp_callSi (va_Run.run (va_runV (As := []) (rest := []) ⟨hx, hb, hml, hown, hts⟩ (kX7_widthNow l D cI ad w hI) (cwV 0 hts gX7_count_X7_widthNow rfl rfl rfl mdX7_widthNow ⟨Nat.le_of_ble_eq_true rfl, Nat.le_of_ble_eq_true rfl⟩) (r7_pre hK hP) rfl rfl hl.1 rfl (lv_room (Nat.le_of_ble_eq_true rfl)) dX7_count_96 ⟨Nat.zero_le _, Nat.zero_le _⟩)) (fun r_12 hr_12 => ?_)
      subst hr_12
      exact W.iret (v := (sX7_widthNow w)) hx hb hr (fun t ht hW => ⟨_, rfl, E.symm, ht⟩) (fun q hq => by cases hq) dX7_count_99
    have E := E.trans (if_neg c_11)
    have fc_11 := i_ne c_11
    rw [q_4] at fc_11
    by_cases c_13 : a1 = 5
    · have E := E.trans (if_pos c_13)
      refine lv_tableIn (off := 78) (tgt := 100) hx hb dX7_count_22 (by rw [c_13]; decide) (by rw [c_13]; decide) (by rw [c_13]; rfl) (by decide) ?_
      have fc_13 := i_eq c_13
      rw [q_5] at fc_13
      refine lv_aload_n hx hb dX7_count_100 rfl (lv_at hl 0 rfl) ?_
      refine vp_callSi (va_Run.run (va_runV (As := []) (rest := []) ⟨hx, hb, hml, hown, hts⟩ (kX7_allWeight l D cI ad w hI) (cwV 0 hts gX7_count_X7_allWeight rfl rfl rfl mdX7_allWeight ⟨Nat.le_of_ble_eq_true rfl, Nat.le_of_ble_eq_true rfl⟩) (r7_pre hK hP) rfl rfl hl.1 rfl (lv_room (Nat.le_of_ble_eq_true rfl)) dX7_count_101 ⟨Nat.zero_le _, Nat.zero_le _⟩)) (fun r_14 hr_14 => ?_)
      subst hr_14
      exact W.iret (v := (sX7_allWeight w)) hx hb hr (fun t ht hW => ⟨_, rfl, E.symm, ht⟩) (fun q hq => by cases hq) dX7_count_104
    have E := E.trans (if_neg c_13)
    have fc_13 := i_ne c_13
    rw [q_5] at fc_13
    by_cases c_15 : a1 = 6
    · have E := E.trans (if_pos c_15)
      refine lv_tableIn (off := 83) (tgt := 105) hx hb dX7_count_22 (by rw [c_15]; decide) (by rw [c_15]; decide) (by rw [c_15]; rfl) (by decide) ?_
      have fc_15 := i_eq c_15
      rw [q_6] at fc_15
      refine lv_aload_n hx hb dX7_count_105 rfl (lv_at hl 0 rfl) ?_
      refine vp_callSi (va_Run.run (va_runV (As := []) (rest := []) ⟨hx, hb, hml, hown, hts⟩ (kX7_allSheaves l D cI ad w hI) (cwV 0 hts gX7_count_X7_allSheaves rfl rfl rfl mdX7_allSheaves ⟨Nat.le_of_ble_eq_true rfl, Nat.le_of_ble_eq_true rfl⟩) (r7_pre hK hP) rfl rfl hl.1 rfl (lv_room (Nat.le_of_ble_eq_true rfl)) dX7_count_106 ⟨Nat.zero_le _, Nat.zero_le _⟩)) (fun r_16 hr_16 => ?_)
      subst hr_16
      exact W.iret (v := (sX7_allSheaves w)) hx hb hr (fun t ht hW => ⟨_, rfl, E.symm, ht⟩) (fun q hq => by cases hq) dX7_count_109
    have E := E.trans (if_neg c_15)
    have fc_15 := i_ne c_15
    rw [q_6] at fc_15
    by_cases c_17 : a1 = 7
    · have E := E.trans (if_pos c_17)
      refine lv_tableIn (off := 88) (tgt := 110) hx hb dX7_count_22 (by rw [c_17]; decide) (by rw [c_17]; decide) (by rw [c_17]; rfl) (by decide) ?_
      have fc_17 := i_eq c_17
      rw [q_7] at fc_17
      refine lv_aload_n hx hb dX7_count_110 rfl (lv_at hl 0 rfl) ?_
      refine g7_setting hx hb hts hin hown hK hP (hts (.fieldLink RX7 13 "LoadedForTheLaneModel" "setting" "[I") (by decide +kernel)) dX7_count_111 ?_
      refine lv_iconst (v := 0) hx hb dX7_count_114 (by decide) ?_
      have ix_18 : vp_in 0 4 := by unfold vp_in; decide
      refine l7_setting (j := 0) hx hb hK hP ix_18 (by decide) dX7_count_115 ?_
      exact W.iret (v := w 1 0) hx hb hr (fun t ht hW => ⟨_, rfl, E.symm, ht⟩) (fun q hq => by cases hq) dX7_count_116
    have E := E.trans (if_neg c_17)
    have fc_17 := i_ne c_17
    rw [q_7] at fc_17
    by_cases c_19 : a1 = 8
    · have E := E.trans (if_pos c_19)
      refine lv_tableIn (off := 95) (tgt := 117) hx hb dX7_count_22 (by rw [c_19]; decide) (by rw [c_19]; decide) (by rw [c_19]; rfl) (by decide) ?_
      have fc_19 := i_eq c_19
      rw [q_8] at fc_19
      refine lv_aload_n hx hb dX7_count_117 rfl (lv_at hl 0 rfl) ?_
      refine g7_rowMany hx hb hts hin hown hK hP (hts (.fieldLink RX7 262 "LoadedForTheLaneModel" "rowMany" "I") (by decide +kernel)) dX7_count_118 ?_
      have f_20 := R7I_rowMany hI
      exact W.iret (v := w 27 0) hx hb hr (fun t ht hW => ⟨_, rfl, E.symm, ht⟩) (fun q hq => by cases hq) dX7_count_121
    have E := E.trans (if_neg c_19)
    have fc_19 := i_ne c_19
    rw [q_8] at fc_19
    by_cases c_21 : a1 = 9
    · have E := E.trans (if_pos c_21)
      refine lv_tableIn (off := 100) (tgt := 122) hx hb dX7_count_22 (by rw [c_21]; decide) (by rw [c_21]; decide) (by rw [c_21]; rfl) (by decide) ?_
      have fc_21 := i_eq c_21
      rw [q_9] at fc_21
      refine lv_aload_n hx hb dX7_count_122 rfl (lv_at hl 0 rfl) ?_
      refine g7_taped hx hb hts hin hown hK hP (hts (.fieldLink RX7 79 "LoadedForTheLaneModel" "taped" "I") (by decide +kernel)) dX7_count_123 ?_
      have f_22 := R7I_taped hI
      exact W.iret (v := w 16 0) hx hb hr (fun t ht hW => ⟨_, rfl, E.symm, ht⟩) (fun q hq => by cases hq) dX7_count_126
    have E := E.trans (if_neg c_21)
    have fc_21 := i_ne c_21
    rw [q_9] at fc_21
    refine lv_tableOut (tgt := 127) hx hb dX7_count_22 (by omega) (by decide) ?_
    refine lv_bipush (v := (-9)) hx hb dX7_count_127 (by decide +kernel) ?_
    exact W.iret (v := (-9)) hx hb hr (fun t ht hW => ⟨_, rfl, E.symm, ht⟩) (fun q hq => by cases hq) dX7_count_129
  · have E := E.trans (if_neg c_2)
    have fc_2 := i_ne c_2
    rw [q_0] at fc_2
    have gc_2 := fX7_isIn c_2
    have := q_11
    have := q_16
    refine lv_aload_n hx hb dX7_count_11 rfl (lv_at hl 0 rfl) ?_
    refine g7_refused hx hb hts hin hown hK hP (hts (.fieldLink RX7 7 "LoadedForTheLaneModel" "refused" "[I") (by decide +kernel)) dX7_count_12 ?_
    refine lv_iload_n hx hb dX7_count_15 rfl (lv_at hl 1 rfl) ?_
    refine lv_bipush (v := 10) hx hb dX7_count_16 (by decide +kernel) ?_
    refine lv_isub hx hb dX7_count_18 ?_
    have := i_subr (a := a1) (b := 10) (n := 10) q_10 (by omega) (by omega)
    have ix_23 : vp_in (a1 - 10) 7 := ix_of (by omega) (by omega)
    refine l7_refused (j := (a1 - 10).toNatClampNeg) hx hb hK hP ix_23 rfl dX7_count_19 ?_
    exact W.iret (v := w 0 ((a1 - 10).toNatClampNeg)) hx hb hr (fun t ht hW => ⟨_, rfl, E.symm, ht⟩) (fun q hq => by cases hq) dX7_count_20
abbrev rmX7_no : Room := { frames := 0, cells := 0, slots := 0, locals := 0 }
set_option maxHeartbeats 4000000 in
set_option maxRecDepth 100000 in
theorem kX7_no (l : Launch) (D : va_G) (cI : ClassId) (ad : Nat → Nat) (w : Nat → Nat → Int32) (a1 : Int32) (hd : RD ad) (hI : R7I w) (h1 : -6 ≤ a1.toInt) (h2 : a1.toInt ≤ -1) : Met l yX7_no wsX7_no rmX7_no (va_Pc [Value.ref (ad 0), Value.int a1] (fun U => va_P D vwCl (RM cI ad w) U.heap ∧ va_K D vwCl [(cI, .int)] U)) (va_Qi (fun r u => (r, u) = sX7_no w a1 ∧ R7I u) (fun u t => va_P D vwCl (RM cI ad u) t.heap) (RA ad)) 0 0 (RA ad) := by
  refine Met.ofW (cc := cX7_no) (maxL := 2) (ret := (some .int)) (by decide) rfl ?_
  intro p e s m args below meth c s₁ B hml hv
  obtain ⟨rfl, hP, hK⟩ := hv
  have hx := B.exec
  have hb := B.bytes
  have hr := B.returns
  have hts := atoms_spec (ws := wsX7_no) B.pre
  have hown : s.vm.findClass RX7 = some m.cls := findClass_of_methodNamed B.named
  have hlocks := B.notSynchronized
  have hin : ∀ q ∈ wsX70, q ∈ wsX7_no := by decide +kernel
  have hl := lv_entry ([.ref (ad 0), .int a1]) (n := 2) (Nat.le_of_ble_eq_true rfl)
  rw [lg_entry_eq]
  generalize (lg_sl ([.ref (ad 0), .int a1]) ++ List.replicate (2 - (lg_sl ([.ref (ad 0), .int a1])).length) Slot.unset).toArray = ls at hl ⊢
  have hl : lv_has ls 2 [(0, .ref (ad 0)), (1, .int a1)] := hl
  suffices hgo : ∀ (H : Heap) (locs : List Loc), va_P D vwCl (RM cI ad w) H → va_S (RA ad) s.heap H locs → W p l e (headSpec wsX7_no rmX7_no).room s m [Value.ref (ad 0), Value.int a1].toArray below meth c H locs 0 0 (MQ below (va_Qi (fun r u => (r, u) = sX7_no w a1 ∧ R7I u) (fun u t => va_P D vwCl (RM cI ad u) t.heap) (RA ad)) [Value.ref (ad 0), Value.int a1].toArray s 0 0 (RA ad)) (F0 m 0 ls []) from hgo s.heap [] hP va_S.rf
  intro H locs hP hS
  have E := sX7_no.eq_1 w a1
  refine lv_aload_n hx hb dX7_no_0 rfl (lv_at hl 0 rfl) ?_
  refine g7_refused hx hb hts hin hown hK hP (hts (.fieldLink RX7 7 "LoadedForTheLaneModel" "refused" "[I") (by decide +kernel)) dX7_no_1 ?_
  refine lv_iload_n hx hb dX7_no_4 rfl (lv_at hl 1 rfl) ?_
  refine lv_ineg hx hb dX7_no_5 ?_
  refine lv_dup2_11 hx hb dX7_no_6 rfl rfl ?_
  have := i_neg (a := a1) (by omega)
  have ix_1 : vp_in (-a1) 7 := ix_of (by omega) (by omega)
  refine l7_refused (j := (-a1).toNatClampNeg) hx hb hK hP ix_1 rfl dX7_no_7 ?_
  refine lv_iconst (v := 1) hx hb dX7_no_8 (by decide) ?_
  refine lv_iadd hx hb dX7_no_9 ?_
  have := i_neg (a := a1) (by omega)
  have ix_2 : vp_in (-a1) 7 := ix_of (by omega) (by omega)
  refine a7_refused (j := (-a1).toNatClampNeg) hx hb hK hP hd hS ix_2 rfl dX7_no_10 (fun H locs hP hS => ?_)
  obtain ⟨wn_2, hwn_2⟩ : ∃ x, x = st w 0 ((-a1).toNatClampNeg) ((w 0 ((-a1).toNatClampNeg)) + 1) := ⟨_, rfl⟩
  rw [← hwn_2] at hP
  have E := bns_e E hwn_2
  have hI_2 : R7I wn_2 := by rw [hwn_2]; exact R7I_put_refused hI
  refine lv_iload_n hx hb dX7_no_11 rfl (lv_at hl 1 rfl) ?_
  exact W.iret (v := a1) hx hb hr (fun t ht hW => ⟨⟨_, wn_2, rfl, ⟨E.symm, hI_2⟩, by show va_P _ _ _ t.heap; rw [ht]; exact hP⟩, hS.F ht⟩) hS.2.2 dX7_no_12
abbrev rmX7_lower : Room := { frames := 0, cells := 0, slots := 0, locals := 0 }
set_option maxHeartbeats 4000000 in
set_option maxRecDepth 100000 in
theorem kX7_lower (l : Launch) (D : va_G) (cI : ClassId) (ad : Nat → Nat) (w : Nat → Nat → Int32) (a1 : Int32) (hd : RD ad) (hI : R7I w) (h1 : -6 ≤ a1.toInt) (h2 : a1.toInt ≤ -1) : Met l yX7_lower wsX7_lower rmX7_lower (va_Pc [Value.ref (ad 0), Value.int a1] (fun U => va_P D vwCl (RM cI ad w) U.heap ∧ va_K D vwCl [(cI, .int)] U)) (va_Qi (fun r u => (r, u) = sX7_lower w a1 ∧ R7I u) (fun u t => va_P D vwCl (RM cI ad u) t.heap) (RA ad)) 0 0 (RA ad) := by
  refine Met.ofW (cc := cX7_lower) (maxL := 2) (ret := (some .int)) (by decide) rfl ?_
  intro p e s m args below meth c s₁ B hml hv
  obtain ⟨rfl, hP, hK⟩ := hv
  have hx := B.exec
  have hb := B.bytes
  have hr := B.returns
  have hts := atoms_spec (ws := wsX7_lower) B.pre
  have hown : s.vm.findClass RX7 = some m.cls := findClass_of_methodNamed B.named
  have hlocks := B.notSynchronized
  have hin : ∀ q ∈ wsX70, q ∈ wsX7_lower := by decide +kernel
  have hl := lv_entry ([.ref (ad 0), .int a1]) (n := 2) (Nat.le_of_ble_eq_true rfl)
  rw [lg_entry_eq]
  generalize (lg_sl ([.ref (ad 0), .int a1]) ++ List.replicate (2 - (lg_sl ([.ref (ad 0), .int a1])).length) Slot.unset).toArray = ls at hl ⊢
  have hl : lv_has ls 2 [(0, .ref (ad 0)), (1, .int a1)] := hl
  suffices hgo : ∀ (H : Heap) (locs : List Loc), va_P D vwCl (RM cI ad w) H → va_S (RA ad) s.heap H locs → W p l e (headSpec wsX7_lower rmX7_lower).room s m [Value.ref (ad 0), Value.int a1].toArray below meth c H locs 0 0 (MQ below (va_Qi (fun r u => (r, u) = sX7_lower w a1 ∧ R7I u) (fun u t => va_P D vwCl (RM cI ad u) t.heap) (RA ad)) [Value.ref (ad 0), Value.int a1].toArray s 0 0 (RA ad)) (F0 m 0 ls []) from hgo s.heap [] hP va_S.rf
  intro H locs hP hS
  have E := sX7_lower.eq_1 w a1
  refine lv_aload_n hx hb dX7_lower_0 rfl (lv_at hl 0 rfl) ?_
  refine g7_refused hx hb hts hin hown hK hP (hts (.fieldLink RX7 7 "LoadedForTheLaneModel" "refused" "[I") (by decide +kernel)) dX7_lower_1 ?_
  refine lv_iload_n hx hb dX7_lower_4 rfl (lv_at hl 1 rfl) ?_
  refine lv_ineg hx hb dX7_lower_5 ?_
  refine lv_dup2_11 hx hb dX7_lower_6 rfl rfl ?_
  have := i_neg (a := a1) (by omega)
  have ix_1 : vp_in (-a1) 7 := ix_of (by omega) (by omega)
  refine l7_refused (j := (-a1).toNatClampNeg) hx hb hK hP ix_1 rfl dX7_lower_7 ?_
  refine lv_iconst (v := 1) hx hb dX7_lower_8 (by decide) ?_
  refine lv_iadd hx hb dX7_lower_9 ?_
  have := i_neg (a := a1) (by omega)
  have ix_2 : vp_in (-a1) 7 := ix_of (by omega) (by omega)
  refine a7_refused (j := (-a1).toNatClampNeg) hx hb hK hP hd hS ix_2 rfl dX7_lower_10 (fun H locs hP hS => ?_)
  obtain ⟨wn_2, hwn_2⟩ : ∃ x, x = st w 0 ((-a1).toNatClampNeg) ((w 0 ((-a1).toNatClampNeg)) + 1) := ⟨_, rfl⟩
  rw [← hwn_2] at hP
  have E := bns_e E hwn_2
  have hI_2 : R7I wn_2 := by rw [hwn_2]; exact R7I_put_refused hI
  refine lv_ldc (own := RX7) (v := 1000000000) hx hb hown (hts (.constant RX7 64 (1000000000)) (by decide +kernel)) dX7_lower_11 ?_
  refine lv_iload_n hx hb dX7_lower_13 rfl (lv_at hl 1 rfl) ?_
  refine lv_isub hx hb dX7_lower_14 ?_
  exact W.iret (v := 1000000000 - a1) hx hb hr (fun t ht hW => ⟨⟨_, wn_2, rfl, ⟨E.symm, hI_2⟩, by show va_P _ _ _ t.heap; rw [ht]; exact hP⟩, hS.F ht⟩) hS.2.2 dX7_lower_15
abbrev rmX7_lowest : Room := { frames := 0, cells := 0, slots := 0, locals := 0 }
set_option maxHeartbeats 4000000 in
set_option maxRecDepth 100000 in
theorem kX7_lowest (l : Launch) (D : va_G) (cI : ClassId) (ad : Nat → Nat) (w : Nat → Nat → Int32) (a1 : Int32) (hd : RD ad) (hI : R7I w) (h1 : -6 ≤ a1.toInt) (h2 : a1.toInt ≤ -1) : Met l yX7_lowest wsX7_lowest rmX7_lowest (va_Pc [Value.ref (ad 0), Value.int a1] (fun U => va_P D vwCl (RM cI ad w) U.heap ∧ va_K D vwCl [(cI, .int)] U)) (va_Ql (fun r u => (r, u) = sX7_lowest w a1 ∧ R7I u) (fun u t => va_P D vwCl (RM cI ad u) t.heap) (RA ad)) 0 0 (RA ad) := by
  refine Met.ofW (cc := cX7_lowest) (maxL := 2) (ret := (some .long)) (by decide) rfl ?_
  intro p e s m args below meth c s₁ B hml hv
  obtain ⟨rfl, hP, hK⟩ := hv
  have hx := B.exec
  have hb := B.bytes
  have hr := B.returns
  have hts := atoms_spec (ws := wsX7_lowest) B.pre
  have hown : s.vm.findClass RX7 = some m.cls := findClass_of_methodNamed B.named
  have hlocks := B.notSynchronized
  have hin : ∀ q ∈ wsX70, q ∈ wsX7_lowest := by decide +kernel
  have hl := lv_entry ([.ref (ad 0), .int a1]) (n := 2) (Nat.le_of_ble_eq_true rfl)
  rw [lg_entry_eq]
  generalize (lg_sl ([.ref (ad 0), .int a1]) ++ List.replicate (2 - (lg_sl ([.ref (ad 0), .int a1])).length) Slot.unset).toArray = ls at hl ⊢
  have hl : lv_has ls 2 [(0, .ref (ad 0)), (1, .int a1)] := hl
  suffices hgo : ∀ (H : Heap) (locs : List Loc), va_P D vwCl (RM cI ad w) H → va_S (RA ad) s.heap H locs → W p l e (headSpec wsX7_lowest rmX7_lowest).room s m [Value.ref (ad 0), Value.int a1].toArray below meth c H locs 0 0 (MQ below (va_Ql (fun r u => (r, u) = sX7_lowest w a1 ∧ R7I u) (fun u t => va_P D vwCl (RM cI ad u) t.heap) (RA ad)) [Value.ref (ad 0), Value.int a1].toArray s 0 0 (RA ad)) (F0 m 0 ls []) from hgo s.heap [] hP va_S.rf
  intro H locs hP hS
  have E := sX7_lowest.eq_1 w a1
  refine lv_aload_n hx hb dX7_lowest_0 rfl (lv_at hl 0 rfl) ?_
  refine g7_refused hx hb hts hin hown hK hP (hts (.fieldLink RX7 7 "LoadedForTheLaneModel" "refused" "[I") (by decide +kernel)) dX7_lowest_1 ?_
  refine lv_iload_n hx hb dX7_lowest_4 rfl (lv_at hl 1 rfl) ?_
  refine lv_ineg hx hb dX7_lowest_5 ?_
  refine lv_dup2_11 hx hb dX7_lowest_6 rfl rfl ?_
  have := i_neg (a := a1) (by omega)
  have ix_1 : vp_in (-a1) 7 := ix_of (by omega) (by omega)
  refine l7_refused (j := (-a1).toNatClampNeg) hx hb hK hP ix_1 rfl dX7_lowest_7 ?_
  refine lv_iconst (v := 1) hx hb dX7_lowest_8 (by decide) ?_
  refine lv_iadd hx hb dX7_lowest_9 ?_
  have := i_neg (a := a1) (by omega)
  have ix_2 : vp_in (-a1) 7 := ix_of (by omega) (by omega)
  refine a7_refused (j := (-a1).toNatClampNeg) hx hb hK hP hd hS ix_2 rfl dX7_lowest_10 (fun H locs hP hS => ?_)
  obtain ⟨wn_2, hwn_2⟩ : ∃ x, x = st w 0 ((-a1).toNatClampNeg) ((w 0 ((-a1).toNatClampNeg)) + 1) := ⟨_, rfl⟩
  rw [← hwn_2] at hP
  have E := bns_e E hwn_2
  have hI_2 : R7I wn_2 := by rw [hwn_2]; exact R7I_put_refused hI
  refine lv_ldc2 (own := RX7) (v := 4000000000000000000) hx hb hown (hts (.constantLong RX7 65 (4000000000000000000)) (by decide +kernel)) dX7_lowest_11 ?_
  refine lv_iload_n hx hb dX7_lowest_14 rfl (lv_at hl 1 rfl) ?_
  refine lv_i2l (v := a1.toInt64) hx hb dX7_lowest_15 rfl ?_
  refine lv_lsub hx hb dX7_lowest_16 ?_
  exact W.lret (v := 4000000000000000000 - a1.toInt64) hx hb hr (fun t ht hW => ⟨⟨_, wn_2, rfl, ⟨E.symm, hI_2⟩, by show va_P _ _ _ t.heap; rw [ht]; exact hP⟩, hS.F ht⟩) hS.2.2 dX7_lowest_17
abbrev rmX7_letter : Room := { frames := 1, cells := 0, slots := 0, locals := 22 }
set_option maxHeartbeats 4000000 in
set_option maxRecDepth 100000 in
theorem kX7_letter (l : Launch) (D : va_G) (cI : ClassId) (ad : Nat → Nat) (w : Nat → Nat → Int32) (a1 : Int32) (hd : RD ad) (hI : R7I w)  : Met l yX7_letter wsX7_letter rmX7_letter (va_Pc [Value.ref (ad 0), Value.int a1] (fun U => va_P D vwCl (RM cI ad w) U.heap ∧ va_K D vwCl [(cI, .int)] U)) (va_Qi (fun r u => (r, u) = sX7_letter w a1 ∧ R7I u) (fun u t => va_P D vwCl (RM cI ad u) t.heap) (RA ad)) 0 0 (RA ad) := by
  refine Met.ofW (cc := cX7_letter) (maxL := 3) (ret := (some .int)) (by decide) rfl ?_
  intro p e s m args below meth c s₁ B hml hv
  obtain ⟨rfl, hP, hK⟩ := hv
  have hx := B.exec
  have hb := B.bytes
  have hr := B.returns
  have hts := atoms_spec (ws := wsX7_letter) B.pre
  have hown : s.vm.findClass RX7 = some m.cls := findClass_of_methodNamed B.named
  have hlocks := B.notSynchronized
  have hin : ∀ q ∈ wsX70, q ∈ wsX7_letter := by decide +kernel
  have hl := lv_entry ([.ref (ad 0), .int a1]) (n := 3) (Nat.le_of_ble_eq_true rfl)
  rw [lg_entry_eq]
  generalize (lg_sl ([.ref (ad 0), .int a1]) ++ List.replicate (3 - (lg_sl ([.ref (ad 0), .int a1])).length) Slot.unset).toArray = ls at hl ⊢
  have hl : lv_has ls 3 [(0, .ref (ad 0)), (1, .int a1)] := hl
  suffices hgo : ∀ (H : Heap) (locs : List Loc), va_P D vwCl (RM cI ad w) H → va_S (RA ad) s.heap H locs → W p l e (headSpec wsX7_letter rmX7_letter).room s m [Value.ref (ad 0), Value.int a1].toArray below meth c H locs 0 0 (MQ below (va_Qi (fun r u => (r, u) = sX7_letter w a1 ∧ R7I u) (fun u t => va_P D vwCl (RM cI ad u) t.heap) (RA ad)) [Value.ref (ad 0), Value.int a1].toArray s 0 0 (RA ad)) (F0 m 0 ls []) from hgo s.heap [] hP va_S.rf
  intro H locs hP hS
  have E := sX7_letter.eq_1 w a1
  refine lv_iload_n hx hb dX7_letter_0 rfl (lv_at hl 1 rfl) ?_
  refine lv_iconst (v := 0) hx hb dX7_letter_1 (by decide) ?_
  refine lv_sipush (v := 255) hx hb dX7_letter_2 (by decide +kernel) ?_
  refine vp_callSi (va_Run.run (va_runS (As := [.int a1, .int 0, .int 255]) (rest := []) ⟨hx, hb, hml, hown, hts⟩ (kX7_bound l a1 0 255) (va_cwS 3 hts gX7_letter_X7_bound rfl rfl rfl mdX7_bound ⟨Nat.le_of_ble_eq_true rfl, Nat.le_of_ble_eq_true rfl⟩) s_pre rfl rfl hl.1 rfl (lv_room (Nat.le_of_ble_eq_true rfl)) dX7_letter_5 ⟨Nat.zero_le _, Nat.zero_le _⟩)) (fun r_1 hr_1 => ?_)
  subst hr_1
  have rf_1 := rX7_bound a1 0 255
  have := q_0
  have := q_255
  refine lv_istore_n (lv' := [(2, .int (sX7_bound a1 0 255)), (0, .ref (ad 0)), (1, .int a1)]) hx hb dX7_letter_8 rfl hl (by decide) rfl (fun ls hl => ?_)
  refine lv_iload_n hx hb dX7_letter_9 rfl (lv_at hl 0 rfl) ?_
  refine lv_if_ne (tgt := 25) hx hb dX7_letter_10 (by decide) (fun c_2 => ?_) (fun c_2 => ?_)
  · have E := E.trans (if_neg c_2)
    have fc_2 := i_ne c_2
    rw [q_0] at fc_2
    refine lv_iload_n hx hb dX7_letter_25 rfl (lv_at hl 0 rfl) ?_
    refine lv_if_eq (tgt := 35) hx hb dX7_letter_26 (by decide) (fun z => absurd z c_2) (fun _ => ?_)
    refine lv_aload_n hx hb dX7_letter_29 rfl (lv_at hl 1 rfl) ?_
    refine lv_iload_n hx hb dX7_letter_30 rfl (lv_at hl 0 rfl) ?_
    refine va_calli (va_runV (As := [.int (sX7_bound a1 0 255)]) (rest := []) ⟨hx, hb, hml, hown, hts⟩ (kX7_no l D cI ad w (sX7_bound a1 0 255) hd hI (by omega) (by omega)) (cwV 1 hts gX7_letter_X7_no rfl rfl rfl mdX7_no ⟨Nat.le_of_ble_eq_true rfl, Nat.le_of_ble_eq_true rfl⟩) (r7_pre hK hP) rfl rfl hl.1 rfl (lv_room (Nat.le_of_ble_eq_true rfl)) dX7_letter_31 ⟨Nat.zero_le _, Nat.zero_le _⟩) hS (fun _ _ h => h) (fun _ h => h) (fun rn_3 wn_3 t H locs ht hvm hp_3 hB hz hfr hS => ?_)
    have hP : va_P D vwCl (RM cI ad wn_3) H := ht ▸ hB
    obtain ⟨hp_3, hI_3⟩ := hp_3
    have E := bnd_e E hp_3
    exact W.iret (v := rn_3) hx hb hr (fun t ht hW => ⟨⟨_, wn_3, rfl, ⟨E.symm, hI_3⟩, by show va_P _ _ _ t.heap; rw [ht]; exact hP⟩, hS.F ht⟩) hS.2.2 dX7_letter_34
  · have E := E.trans (if_pos c_2)
    have fc_2 := i_eq c_2
    rw [q_0] at fc_2
    refine lv_aload_n hx hb dX7_letter_13 rfl (lv_at hl 1 rfl) ?_
    refine g7_taped hx hb hts hin hown hK hP (hts (.fieldLink RX7 79 "LoadedForTheLaneModel" "taped" "I") (by decide +kernel)) dX7_letter_14 ?_
    have f_4 := R7I_taped hI
    refine lv_bipush (v := 96) hx hb dX7_letter_17 (by decide +kernel) ?_
    refine lv_icmp_ne (tgt := 25) hx hb dX7_letter_19 (by decide) (fun c_5 => ?_) (fun c_5 => ?_)
    · have E := E.trans (if_neg c_5)
      have fc_5 := i_ne c_5
      rw [q_96] at fc_5
      refine lv_iload_n hx hb dX7_letter_25 rfl (lv_at hl 0 rfl) ?_
      refine lv_if_eq (tgt := 35) hx hb dX7_letter_26 (by decide) (fun _ => ?_) (fun z => absurd c_2 z)
      refine lv_aload_n hx hb dX7_letter_35 rfl (lv_at hl 1 rfl) ?_
      refine g7_tape hx hb hts hin hown hK hP (hts (.fieldLink RX7 43 "LoadedForTheLaneModel" "tape" "[I") (by decide +kernel)) dX7_letter_36 ?_
      refine lv_aload_n hx hb dX7_letter_39 rfl (lv_at hl 1 rfl) ?_
      refine g7_taped hx hb hts hin hown hK hP (hts (.fieldLink RX7 79 "LoadedForTheLaneModel" "taped" "I") (by decide +kernel)) dX7_letter_40 ?_
      have f_6 := R7I_taped hI
      refine lv_iload_n hx hb dX7_letter_43 rfl (lv_at hl 2 rfl) ?_
      have ix_7 : vp_in (w 16 0) 96 := ix_of (by omega) (by omega)
      refine a7_tape (j := (w 16 0).toNatClampNeg) hx hb hK hP hd hS ix_7 rfl dX7_letter_44 (fun H locs hP hS => ?_)
      obtain ⟨wn_7, hwn_7⟩ : ∃ x, x = st w 12 ((w 16 0).toNatClampNeg) a1 := ⟨_, rfl⟩
      rw [← hwn_7] at hP
      have E := bns_e E hwn_7
      have ft7_taped : (wn_7 16 0).toInt = (w 16 0).toInt := by rw [hwn_7]; rfl
      have fv_7 : (wn_7 12 ((w 16 0).toNatClampNeg)).toInt = (a1 : Int32).toInt := by rw [hwn_7, st_rd]
      have hI_7 : R7I wn_7 := by rw [hwn_7]; exact R7I_put_tape hI
      refine lv_aload_n hx hb dX7_letter_45 rfl (lv_at hl 1 rfl) ?_
      refine lv_dup hx hb dX7_letter_46 rfl ?_
      refine g7_taped hx hb hts hin hown hK hP (hts (.fieldLink RX7 79 "LoadedForTheLaneModel" "taped" "I") (by decide +kernel)) dX7_letter_47 ?_
      have f_8 := R7I_taped hI_7
      refine lv_iconst (v := 1) hx hb dX7_letter_50 (by decide) ?_
      refine lv_iadd hx hb dX7_letter_51 ?_
      refine p7_taped hx hb hts hin hown hK hP hd hS (hts (.fieldLink RX7 79 "LoadedForTheLaneModel" "taped" "I") (by decide +kernel)) dX7_letter_52 (fun H locs hP hS => ?_)
      obtain ⟨wn_9, hwn_9⟩ : ∃ x, x = st wn_7 16 0 ((wn_7 16 0) + 1) := ⟨_, rfl⟩
      rw [← hwn_9] at hP
      have E := bns_e E hwn_9
      have ft9_taped : (wn_9 16 0).toInt = ((wn_7 16 0) + 1 : Int32).toInt := by rw [hwn_9]; rfl
      have := i_addr (a := wn_7 16 0) (b := 1) (n := 1) q_1 (by omega) (by omega)
      have := i_addr (a := wn_7 16 0) (b := 1) (n := 1) q_1 (by omega) (by omega)
      have hI_9 : R7I wn_9 := by rw [hwn_9]; exact R7I_put_taped hI_7 (by omega) (by omega)
      refine lv_aload_n hx hb dX7_letter_55 rfl (lv_at hl 1 rfl) ?_
      refine g7_taped hx hb hts hin hown hK hP (hts (.fieldLink RX7 79 "LoadedForTheLaneModel" "taped" "I") (by decide +kernel)) dX7_letter_56 ?_
      have f_10 := R7I_taped hI_9
      exact W.iret (v := wn_9 16 0) hx hb hr (fun t ht hW => ⟨⟨_, wn_9, rfl, ⟨E.symm, hI_9⟩, by show va_P _ _ _ t.heap; rw [ht]; exact hP⟩, hS.F ht⟩) hS.2.2 dX7_letter_59
    · have E := E.trans (if_pos c_5)
      have fc_5 := i_eq c_5
      rw [q_96] at fc_5
      refine lv_bipush (v := (-6)) hx hb dX7_letter_22 (by decide +kernel) ?_
      refine lv_istore_n (lv' := [(2, .int (-6)), (0, .ref (ad 0)), (1, .int a1)]) hx hb dX7_letter_24 rfl hl (by decide) rfl (fun ls hl => ?_)
      refine lv_iload_n hx hb dX7_letter_25 rfl (lv_at hl 0 rfl) ?_
      refine lv_if_eq (tgt := 35) hx hb dX7_letter_26 (by decide) (fun z => absurd z (by decide)) (fun _ => ?_)
      refine lv_aload_n hx hb dX7_letter_29 rfl (lv_at hl 1 rfl) ?_
      refine lv_iload_n hx hb dX7_letter_30 rfl (lv_at hl 0 rfl) ?_
      have := q_m6
      refine va_calli (va_runV (As := [.int (-6)]) (rest := []) ⟨hx, hb, hml, hown, hts⟩ (kX7_no l D cI ad w (-6) hd hI (by omega) (by omega)) (cwV 1 hts gX7_letter_X7_no rfl rfl rfl mdX7_no ⟨Nat.le_of_ble_eq_true rfl, Nat.le_of_ble_eq_true rfl⟩) (r7_pre hK hP) rfl rfl hl.1 rfl (lv_room (Nat.le_of_ble_eq_true rfl)) dX7_letter_31 ⟨Nat.zero_le _, Nat.zero_le _⟩) hS (fun _ _ h => h) (fun _ h => h) (fun rn_11 wn_11 t H locs ht hvm hp_11 hB hz hfr hS => ?_)
      have hP : va_P D vwCl (RM cI ad wn_11) H := ht ▸ hB
      obtain ⟨hp_11, hI_11⟩ := hp_11
      have E := bnd_e E hp_11
      exact W.iret (v := rn_11) hx hb hr (fun t ht hW => ⟨⟨_, wn_11, rfl, ⟨E.symm, hI_11⟩, by show va_P _ _ _ t.heap; rw [ht]; exact hP⟩, hS.F ht⟩) hS.2.2 dX7_letter_34
abbrev rmX7_readsNumber : Room := { frames := 1, cells := 0, slots := 0, locals := 22 }
set_option maxHeartbeats 4000000 in
set_option maxRecDepth 100000 in
theorem kX7_readsNumber (l : Launch) (D : va_G) (cI : ClassId) (ad : Nat → Nat) (w : Nat → Nat → Int32) (a1 : Int32) (a2 : Int32) (a3 : Int32) (hd : RD ad) (hI : R7I w) (h1 : 0 ≤ a1.toInt) (h2 : a1.toInt < 192) : Met l yX7_readsNumber wsX7_readsNumber rmX7_readsNumber (va_Pc [Value.ref (ad 0), Value.int a1, Value.int a2, Value.int a3] (fun U => va_P D vwCl (RM cI ad w) U.heap ∧ va_K D vwCl [(cI, .int)] U)) (va_Qi (fun r u => (r, u) = sX7_readsNumber w a1 a2 a3 ∧ (r = 0 ∨ r = 1) ∧ R7I u ∧ ((w 17 0).toInt ≤ (u 17 0).toInt) ∧ ((u 16 0).toInt = (w 16 0).toInt) ∧ ((u 18 0).toInt = (w 18 0).toInt) ∧ ((u 11 0).toInt = (w 11 0).toInt)) (fun u t => va_P D vwCl (RM cI ad u) t.heap) (RA ad)) 0 0 (RA ad) := by
  refine Met.ofW (cc := cX7_readsNumber) (maxL := 6) (ret := (some .boolean)) (by decide) rfl ?_
  intro p e s m args below meth c s₁ B hml hv
  obtain ⟨rfl, hP, hK⟩ := hv
  have hx := B.exec
  have hb := B.bytes
  have hr := B.returns
  have hts := atoms_spec (ws := wsX7_readsNumber) B.pre
  have hown : s.vm.findClass RX7 = some m.cls := findClass_of_methodNamed B.named
  have hlocks := B.notSynchronized
  have hin : ∀ q ∈ wsX70, q ∈ wsX7_readsNumber := by decide +kernel
  have hl := lv_entry ([.ref (ad 0), .int a1, .int a2, .int a3]) (n := 6) (Nat.le_of_ble_eq_true rfl)
  rw [lg_entry_eq]
  generalize (lg_sl ([.ref (ad 0), .int a1, .int a2, .int a3]) ++ List.replicate (6 - (lg_sl ([.ref (ad 0), .int a1, .int a2, .int a3])).length) Slot.unset).toArray = ls at hl ⊢
  have hl : lv_has ls 6 [(0, .ref (ad 0)), (1, .int a1), (2, .int a2), (3, .int a3)] := hl
  suffices hgo : ∀ (H : Heap) (locs : List Loc), va_P D vwCl (RM cI ad w) H → va_S (RA ad) s.heap H locs → W p l e (headSpec wsX7_readsNumber rmX7_readsNumber).room s m [Value.ref (ad 0), Value.int a1, Value.int a2, Value.int a3].toArray below meth c H locs 0 0 (MQ below (va_Qi (fun r u => (r, u) = sX7_readsNumber w a1 a2 a3 ∧ (r = 0 ∨ r = 1) ∧ R7I u ∧ ((w 17 0).toInt ≤ (u 17 0).toInt) ∧ ((u 16 0).toInt = (w 16 0).toInt) ∧ ((u 18 0).toInt = (w 18 0).toInt) ∧ ((u 11 0).toInt = (w 11 0).toInt)) (fun u t => va_P D vwCl (RM cI ad u) t.heap) (RA ad)) [Value.ref (ad 0), Value.int a1, Value.int a2, Value.int a3].toArray s 0 0 (RA ad)) (F0 m 0 ls []) from hgo s.heap [] hP va_S.rf
  intro H locs hP hS
  have E := sX7_readsNumber.eq_1 w a1 a2 a3
  refine lv_iconst (v := 0) hx hb dX7_readsNumber_0 (by decide) ?_
  refine lv_istore (lv' := [(4, .int 0), (0, .ref (ad 0)), (1, .int a1), (2, .int a2), (3, .int a3)]) hx hb dX7_readsNumber_1 hl (by decide) rfl (fun ls hl => ?_)
  refine lv_iconst (v := 0) hx hb dX7_readsNumber_3 (by decide) ?_
  refine lv_istore (lv' := [(5, .int 0), (4, .int 0), (0, .ref (ad 0)), (1, .int a1), (2, .int a2), (3, .int a3)]) hx hb dX7_readsNumber_4 hl (by decide) rfl (fun ls hl => ?_)
  have L_6 : ∀ (n_6 : Nat) (x4_6 : Int32) (x5_6 : Int32) (w_6 : Nat → Nat → Int32) (H : Heap) (locs : List Loc) (ls : Array Slot), ((0 ≤ (w_6 17 0).toInt) ∧ ((w_6 17 0).toInt ≤ 96) ∧ ((w 17 0).toInt ≤ (w_6 17 0).toInt) ∧ ((w_6 16 0).toInt = (w 16 0).toInt) ∧ ((w_6 18 0).toInt = (w 18 0).toInt) ∧ ((w_6 11 0).toInt = (w 11 0).toInt)) → (96 - (w_6 17 0).toInt < (n_6 : Int)) → R7I w_6 → va_P D vwCl (RM cI ad w_6) H → va_S (RA ad) s.heap H locs → lv_has ls 6 [(5, .int x5_6), (4, .int x4_6), (0, .ref (ad 0)), (1, .int a1), (2, .int a2), (3, .int a3)] → sX7_readsNumber w a1 a2 a3 = sX7_readsNumber_6 a1 a2 a3 n_6 x4_6 x5_6 w_6 → W p l e (headSpec wsX7_readsNumber rmX7_readsNumber).room s m [Value.ref (ad 0), Value.int a1, Value.int a2, Value.int a3].toArray below meth c H locs 0 0 (MQ below (va_Qi (fun r u => (r, u) = sX7_readsNumber w a1 a2 a3 ∧ (r = 0 ∨ r = 1) ∧ R7I u ∧ ((w 17 0).toInt ≤ (u 17 0).toInt) ∧ ((u 16 0).toInt = (w 16 0).toInt) ∧ ((u 18 0).toInt = (w 18 0).toInt) ∧ ((u 11 0).toInt = (w 11 0).toInt)) (fun u t => va_P D vwCl (RM cI ad u) t.heap) (RA ad)) [Value.ref (ad 0), Value.int a1, Value.int a2, Value.int a3].toArray s 0 0 (RA ad)) (F0 m 6 ls []) := by
    intro n_6
    induction n_6 with
    | zero =>
      intro x4_6 x5_6 w_6 H locs ls hinv hm
      obtain ⟨v0_6, v1_6, v2_6, v3_6, v4_6, v5_6⟩ := hinv
      exact absurd hm (by omega)
    | succ n_6 ih_6 =>
      intro x4_6 x5_6 w_6 H locs ls hinv hm_6 hI_6 hP hS hl E
      obtain ⟨v0_6, v1_6, v2_6, v3_6, v4_6, v5_6⟩ := hinv
      have E := E.trans (sX7_readsNumber_6.eq_2 ..)
      refine lv_iload hx hb dX7_readsNumber_6 (lv_at hl 0 rfl) ?_
      refine lv_iload_n hx hb dX7_readsNumber_8 rfl (lv_at hl 5 rfl) ?_
      refine lv_icmp_ge (tgt := 57) hx hb dX7_readsNumber_9 (by decide) (fun c_1 => ?_) (fun c_1 => ?_)
      · have E := E.trans (if_pos c_1)
        have fc_1 := i_le c_1
        refine lv_aload_n hx hb dX7_readsNumber_57 rfl (lv_at hl 2 rfl) ?_
        refine g7_told hx hb hts hin hown hK hP (hts (.fieldLink RX7 52 "LoadedForTheLaneModel" "told" "[I") (by decide +kernel)) dX7_readsNumber_58 ?_
        refine lv_iload_n hx hb dX7_readsNumber_61 rfl (lv_at hl 3 rfl) ?_
        refine lv_iload hx hb dX7_readsNumber_62 (lv_at hl 1 rfl) ?_
        have ix_2 : vp_in a1 192 := ix_of (by omega) (by omega)
        refine a7_told (j := a1.toNatClampNeg) hx hb hK hP hd hS ix_2 rfl dX7_readsNumber_64 (fun H locs hP hS => ?_)
        obtain ⟨wn_2, hwn_2⟩ : ∃ x, x = st w_6 15 (a1.toNatClampNeg) x4_6 := ⟨_, rfl⟩
        rw [← hwn_2] at hP
        have E := bns_e E hwn_2
        have ft2_taped : (wn_2 16 0).toInt = (w_6 16 0).toInt := by rw [hwn_2]; rfl
        have ft2_at : (wn_2 17 0).toInt = (w_6 17 0).toInt := by rw [hwn_2]; rfl
        have ft2_statements : (wn_2 18 0).toInt = (w_6 18 0).toInt := by rw [hwn_2]; rfl
        have ft2_layers : (wn_2 11 0).toInt = (w_6 11 0).toInt := by rw [hwn_2]; rfl
        have fv_2 : (wn_2 15 (a1.toNatClampNeg)).toInt = (x4_6 : Int32).toInt := by rw [hwn_2, st_rd]
        have hI_2 : R7I wn_2 := by rw [hwn_2]; exact R7I_put_told hI_6
        refine lv_iload hx hb dX7_readsNumber_65 (lv_at hl 0 rfl) ?_
        refine lv_iload_n hx hb dX7_readsNumber_67 rfl (lv_at hl 4 rfl) ?_
        refine lv_icmp_lt (tgt := 75) hx hb dX7_readsNumber_68 (by decide) (fun c_3 => ?_) (fun c_3 => ?_)
        · have E := E.trans (if_pos c_3)
          have fc_3 := i_lt c_3
          refine lv_iconst (v := 0) hx hb dX7_readsNumber_75 (by decide) ?_
          have := q_0
          exact W.zret (ty := .boolean) (v := 0) hx hb hr (z_nar (Or.inl rfl)) (fun t ht hW => ⟨⟨_, wn_2, rfl, ⟨E.symm, (Or.inl rfl), hI_2, by omega, by omega, by omega, by omega⟩, by show va_P _ _ _ t.heap; rw [ht]; exact hP⟩, hS.F ht⟩) hS.2.2 dX7_readsNumber_76
        · have E := E.trans (if_neg c_3)
          have fc_3 := i_nlt c_3
          refine lv_iconst (v := 1) hx hb dX7_readsNumber_71 (by decide) ?_
          refine lv_goto (tgt := 76) hx hb dX7_readsNumber_72 (by decide) ?_
          have := q_1
          exact W.zret (ty := .boolean) (v := 1) hx hb hr (z_nar (Or.inr rfl)) (fun t ht hW => ⟨⟨_, wn_2, rfl, ⟨E.symm, (Or.inr rfl), hI_2, by omega, by omega, by omega, by omega⟩, by show va_P _ _ _ t.heap; rw [ht]; exact hP⟩, hS.F ht⟩) hS.2.2 dX7_readsNumber_76
      · have E := E.trans (if_neg c_1)
        have fc_1 := i_nle c_1
        refine lv_aload_n hx hb dX7_readsNumber_12 rfl (lv_at hl 2 rfl) ?_
        refine vp_callSi (va_Run.run (va_runV (As := []) (rest := []) ⟨hx, hb, hml, hown, hts⟩ (kX7_next l D cI ad w_6 hI_6) (cwV 0 hts gX7_readsNumber_X7_next rfl rfl rfl mdX7_next ⟨Nat.le_of_ble_eq_true rfl, Nat.le_of_ble_eq_true rfl⟩) (r7_pre hK hP) rfl rfl hl.1 rfl (lv_room (Nat.le_of_ble_eq_true rfl)) dX7_readsNumber_13 ⟨Nat.zero_le _, Nat.zero_le _⟩)) (fun r_4 hr_4 => ?_)
        subst hr_4
        have rf_4 := rX7_next w_6
        have rt_4 := R7I_taped hI_6
        refine lv_bipush (v := 48) hx hb dX7_readsNumber_16 (by decide +kernel) ?_
        refine lv_bipush (v := 57) hx hb dX7_readsNumber_18 (by decide +kernel) ?_
        refine vp_callSi (va_Run.run (va_runS (As := [.int (sX7_next w_6), .int 48, .int 57]) (rest := []) ⟨hx, hb, hml, hown, hts⟩ (kX7_isIn l (sX7_next w_6) 48 57) (va_cwS 3 hts gX7_readsNumber_X7_isIn rfl rfl rfl mdX7_isIn ⟨Nat.le_of_ble_eq_true rfl, Nat.le_of_ble_eq_true rfl⟩) s_pre rfl rfl hl.1 rfl (lv_room (Nat.le_of_ble_eq_true rfl)) dX7_readsNumber_20 ⟨Nat.zero_le _, Nat.zero_le _⟩)) (fun r_5 hr_5 => ?_)
        obtain ⟨rfl, hz_5⟩ := hr_5
        refine lv_if_eq (tgt := 57) hx hb dX7_readsNumber_23 (by decide) (fun c_6 => ?_) (fun c_6 => ?_)
        · have E := E.trans (if_pos c_6)
          have fc_6 := i_eq c_6
          rw [q_0] at fc_6
          refine lv_aload_n hx hb dX7_readsNumber_57 rfl (lv_at hl 2 rfl) ?_
          refine g7_told hx hb hts hin hown hK hP (hts (.fieldLink RX7 52 "LoadedForTheLaneModel" "told" "[I") (by decide +kernel)) dX7_readsNumber_58 ?_
          refine lv_iload_n hx hb dX7_readsNumber_61 rfl (lv_at hl 3 rfl) ?_
          refine lv_iload hx hb dX7_readsNumber_62 (lv_at hl 1 rfl) ?_
          have ix_7 : vp_in a1 192 := ix_of (by omega) (by omega)
          refine a7_told (j := a1.toNatClampNeg) hx hb hK hP hd hS ix_7 rfl dX7_readsNumber_64 (fun H locs hP hS => ?_)
          obtain ⟨wn_7, hwn_7⟩ : ∃ x, x = st w_6 15 (a1.toNatClampNeg) x4_6 := ⟨_, rfl⟩
          rw [← hwn_7] at hP
          have E := bns_e E hwn_7
          have ft7_taped : (wn_7 16 0).toInt = (w_6 16 0).toInt := by rw [hwn_7]; rfl
          have ft7_at : (wn_7 17 0).toInt = (w_6 17 0).toInt := by rw [hwn_7]; rfl
          have ft7_statements : (wn_7 18 0).toInt = (w_6 18 0).toInt := by rw [hwn_7]; rfl
          have ft7_layers : (wn_7 11 0).toInt = (w_6 11 0).toInt := by rw [hwn_7]; rfl
          have fv_7 : (wn_7 15 (a1.toNatClampNeg)).toInt = (x4_6 : Int32).toInt := by rw [hwn_7, st_rd]
          have hI_7 : R7I wn_7 := by rw [hwn_7]; exact R7I_put_told hI_6
          refine lv_iload hx hb dX7_readsNumber_65 (lv_at hl 0 rfl) ?_
          refine lv_iload_n hx hb dX7_readsNumber_67 rfl (lv_at hl 4 rfl) ?_
          refine lv_icmp_lt (tgt := 75) hx hb dX7_readsNumber_68 (by decide) (fun c_8 => ?_) (fun c_8 => ?_)
          · have E := E.trans (if_pos c_8)
            have fc_8 := i_lt c_8
            refine lv_iconst (v := 0) hx hb dX7_readsNumber_75 (by decide) ?_
            have := q_0
            exact W.zret (ty := .boolean) (v := 0) hx hb hr (z_nar (Or.inl rfl)) (fun t ht hW => ⟨⟨_, wn_7, rfl, ⟨E.symm, (Or.inl rfl), hI_7, by omega, by omega, by omega, by omega⟩, by show va_P _ _ _ t.heap; rw [ht]; exact hP⟩, hS.F ht⟩) hS.2.2 dX7_readsNumber_76
          · have E := E.trans (if_neg c_8)
            have fc_8 := i_nlt c_8
            refine lv_iconst (v := 1) hx hb dX7_readsNumber_71 (by decide) ?_
            refine lv_goto (tgt := 76) hx hb dX7_readsNumber_72 (by decide) ?_
            have := q_1
            exact W.zret (ty := .boolean) (v := 1) hx hb hr (z_nar (Or.inr rfl)) (fun t ht hW => ⟨⟨_, wn_7, rfl, ⟨E.symm, (Or.inr rfl), hI_7, by omega, by omega, by omega, by omega⟩, by show va_P _ _ _ t.heap; rw [ht]; exact hP⟩, hS.F ht⟩) hS.2.2 dX7_readsNumber_76
        · have E := E.trans (if_neg c_6)
          have fc_6 := i_ne c_6
          rw [q_0] at fc_6
          have gc_6 := fX7_isIn c_6
          have := q_48
          have := q_57
          refine lv_bipush (v := 10) hx hb dX7_readsNumber_26 (by decide +kernel) ?_
          refine lv_iload hx hb dX7_readsNumber_28 (lv_at hl 1 rfl) ?_
          refine lv_imul hx hb dX7_readsNumber_30 ?_
          refine lv_aload_n hx hb dX7_readsNumber_31 rfl (lv_at hl 2 rfl) ?_
          refine vp_callSi (va_Run.run (va_runV (As := []) (rest := [.int (10 * x4_6)]) ⟨hx, hb, hml, hown, hts⟩ (kX7_next l D cI ad w_6 hI_6) (cwV 0 hts gX7_readsNumber_X7_next rfl rfl rfl mdX7_next ⟨Nat.le_of_ble_eq_true rfl, Nat.le_of_ble_eq_true rfl⟩) (r7_pre hK hP) rfl rfl hl.1 rfl (lv_room (Nat.le_of_ble_eq_true rfl)) dX7_readsNumber_32 ⟨Nat.zero_le _, Nat.zero_le _⟩)) (fun r_9 hr_9 => ?_)
          subst hr_9
          have rf_9 := rX7_next w_6
          have rt_9 := R7I_taped hI_6
          refine lv_iadd hx hb dX7_readsNumber_35 ?_
          refine lv_bipush (v := 48) hx hb dX7_readsNumber_36 (by decide +kernel) ?_
          refine lv_isub hx hb dX7_readsNumber_38 ?_
          refine lv_istore (lv' := [(4, .int (((10 * x4_6) + (sX7_next w_6)) - 48)), (5, .int x5_6), (0, .ref (ad 0)), (1, .int a1), (2, .int a2), (3, .int a3)]) hx hb dX7_readsNumber_39 hl (by decide) rfl (fun ls hl => ?_)
          refine lv_aload_n hx hb dX7_readsNumber_41 rfl (lv_at hl 2 rfl) ?_
          refine lv_dup hx hb dX7_readsNumber_42 rfl ?_
          refine g7_at hx hb hts hin hown hK hP (hts (.fieldLink RX7 86 "LoadedForTheLaneModel" "at" "I") (by decide +kernel)) dX7_readsNumber_43 ?_
          have f_10 := R7I_at hI_6
          refine lv_iconst (v := 1) hx hb dX7_readsNumber_46 (by decide) ?_
          refine lv_iadd hx hb dX7_readsNumber_47 ?_
          refine p7_at hx hb hts hin hown hK hP hd hS (hts (.fieldLink RX7 86 "LoadedForTheLaneModel" "at" "I") (by decide +kernel)) dX7_readsNumber_48 (fun H locs hP hS => ?_)
          obtain ⟨wn_11, hwn_11⟩ : ∃ x, x = st w_6 17 0 ((w_6 17 0) + 1) := ⟨_, rfl⟩
          rw [← hwn_11] at hP
          have E := bns_e E hwn_11
          have ft11_taped : (wn_11 16 0).toInt = (w_6 16 0).toInt := by rw [hwn_11]; rfl
          have ft11_at : (wn_11 17 0).toInt = ((w_6 17 0) + 1 : Int32).toInt := by rw [hwn_11]; rfl
          have := i_addr (a := w_6 17 0) (b := 1) (n := 1) q_1 (by omega) (by omega)
          have ft11_statements : (wn_11 18 0).toInt = (w_6 18 0).toInt := by rw [hwn_11]; rfl
          have ft11_layers : (wn_11 11 0).toInt = (w_6 11 0).toInt := by rw [hwn_11]; rfl
          have := i_addr (a := w_6 17 0) (b := 1) (n := 1) q_1 (by omega) (by omega)
          have hI_11 : R7I wn_11 := by rw [hwn_11]; exact R7I_put_at hI_6 (by omega) (by omega)
          refine lv_iinc (v := x5_6 + 1) (lv' := [(5, .int (x5_6 + 1)), (4, .int (((10 * x4_6) + (sX7_next w_6)) - 48)), (0, .ref (ad 0)), (1, .int a1), (2, .int a2), (3, .int a3)]) hx hb dX7_readsNumber_51 hl (k := 1) rfl rfl (by decide) rfl (fun ls hl => ?_)
          refine lv_goto (tgt := 6) hx hb dX7_readsNumber_54 (by decide) ?_
          exact ih_6 (((10 * x4_6) + (sX7_next w_6)) - 48) (x5_6 + 1) wn_11 H locs ls ⟨by omega, by omega, by omega, by omega, by omega, by omega⟩ (by omega) hI_11 hP hS (lv_sub hl [0, 1, 2, 3, 4, 5] rfl) E
  have := R7I_at hI
  exact L_6 97 0 0 w H locs ls ⟨by omega, by omega, by omega, by omega, by omega, by omega⟩ (by omega) hI hP hS (lv_sub hl [0, 1, 2, 3, 4, 5] rfl) E
abbrev rmX7_readsLayer : Room := { frames := 2, cells := 0, slots := 0, locals := 47 }
set_option maxHeartbeats 4000000 in
set_option maxRecDepth 100000 in
theorem kX7_readsLayer (l : Launch) (D : va_G) (cI : ClassId) (ad : Nat → Nat) (w : Nat → Nat → Int32) (a1 : Int32) (hd : RD ad) (hI : R7I w) (h1 : 0 ≤ a1.toInt) (h2 : a1.toInt ≤ 188) : Met l yX7_readsLayer wsX7_readsLayer rmX7_readsLayer (va_Pc [Value.ref (ad 0), Value.int a1] (fun U => va_P D vwCl (RM cI ad w) U.heap ∧ va_K D vwCl [(cI, .int)] U)) (va_Qi (fun r u => (r, u) = sX7_readsLayer w a1 ∧ (r = 0 ∨ r = 1) ∧ R7I u ∧ ((w 17 0).toInt ≤ (u 17 0).toInt) ∧ ((u 16 0).toInt = (w 16 0).toInt) ∧ ((u 18 0).toInt = (w 18 0).toInt) ∧ ((u 11 0).toInt = (w 11 0).toInt)) (fun u t => va_P D vwCl (RM cI ad u) t.heap) (RA ad)) 0 0 (RA ad) := by
  refine Met.ofW (cc := cX7_readsLayer) (maxL := 3) (ret := (some .boolean)) (by decide) rfl ?_
  intro p e s m args below meth c s₁ B hml hv
  obtain ⟨rfl, hP, hK⟩ := hv
  have hx := B.exec
  have hb := B.bytes
  have hr := B.returns
  have hts := atoms_spec (ws := wsX7_readsLayer) B.pre
  have hown : s.vm.findClass RX7 = some m.cls := findClass_of_methodNamed B.named
  have hlocks := B.notSynchronized
  have hin : ∀ q ∈ wsX70, q ∈ wsX7_readsLayer := by decide +kernel
  have hl := lv_entry ([.ref (ad 0), .int a1]) (n := 3) (Nat.le_of_ble_eq_true rfl)
  rw [lg_entry_eq]
  generalize (lg_sl ([.ref (ad 0), .int a1]) ++ List.replicate (3 - (lg_sl ([.ref (ad 0), .int a1])).length) Slot.unset).toArray = ls at hl ⊢
  have hl : lv_has ls 3 [(0, .ref (ad 0)), (1, .int a1)] := hl
  suffices hgo : ∀ (H : Heap) (locs : List Loc), va_P D vwCl (RM cI ad w) H → va_S (RA ad) s.heap H locs → W p l e (headSpec wsX7_readsLayer rmX7_readsLayer).room s m [Value.ref (ad 0), Value.int a1].toArray below meth c H locs 0 0 (MQ below (va_Qi (fun r u => (r, u) = sX7_readsLayer w a1 ∧ (r = 0 ∨ r = 1) ∧ R7I u ∧ ((w 17 0).toInt ≤ (u 17 0).toInt) ∧ ((u 16 0).toInt = (w 16 0).toInt) ∧ ((u 18 0).toInt = (w 18 0).toInt) ∧ ((u 11 0).toInt = (w 11 0).toInt)) (fun u t => va_P D vwCl (RM cI ad u) t.heap) (RA ad)) [Value.ref (ad 0), Value.int a1].toArray s 0 0 (RA ad)) (F0 m 0 ls []) from hgo s.heap [] hP va_S.rf
  intro H locs hP hS
  have E := sX7_readsLayer.eq_1 w a1
  refine lv_aload_n hx hb dX7_readsLayer_0 rfl (lv_at hl 0 rfl) ?_
  refine g7_told hx hb hts hin hown hK hP (hts (.fieldLink RX7 52 "LoadedForTheLaneModel" "told" "[I") (by decide +kernel)) dX7_readsLayer_1 ?_
  refine lv_iload_n hx hb dX7_readsLayer_4 rfl (lv_at hl 1 rfl) ?_
  refine lv_aload_n hx hb dX7_readsLayer_5 rfl (lv_at hl 0 rfl) ?_
  refine vp_callSi (va_Run.run (va_runV (As := []) (rest := [.int a1, .ref (ad 15)]) ⟨hx, hb, hml, hown, hts⟩ (kX7_next l D cI ad w hI) (cwV 0 hts gX7_readsLayer_X7_next rfl rfl rfl mdX7_next ⟨Nat.le_of_ble_eq_true rfl, Nat.le_of_ble_eq_true rfl⟩) (r7_pre hK hP) rfl rfl hl.1 rfl (lv_room (Nat.le_of_ble_eq_true rfl)) dX7_readsLayer_6 ⟨Nat.zero_le _, Nat.zero_le _⟩)) (fun r_1 hr_1 => ?_)
  subst hr_1
  have rf_1 := rX7_next w
  have rt_1 := R7I_taped hI
  refine vp_callSi (va_Run.run (va_runS (As := [.int (sX7_next w)]) (rest := [.int a1, .ref (ad 15)]) ⟨hx, hb, hml, hown, hts⟩ (kX7_layerOf l (sX7_next w)) (va_cwS 1 hts gX7_readsLayer_X7_layerOf rfl rfl rfl mdX7_layerOf ⟨Nat.le_of_ble_eq_true rfl, Nat.le_of_ble_eq_true rfl⟩) s_pre rfl rfl hl.1 rfl (lv_room (Nat.le_of_ble_eq_true rfl)) dX7_readsLayer_9 ⟨Nat.zero_le _, Nat.zero_le _⟩)) (fun r_2 hr_2 => ?_)
  subst hr_2
  have rf_2 := rX7_layerOf (sX7_next w)
  have ix_3 : vp_in a1 192 := ix_of (by omega) (by omega)
  refine a7_told (j := a1.toNatClampNeg) hx hb hK hP hd hS ix_3 rfl dX7_readsLayer_12 (fun H locs hP hS => ?_)
  obtain ⟨wn_3, hwn_3⟩ : ∃ x, x = st w 15 (a1.toNatClampNeg) (sX7_layerOf (sX7_next w)) := ⟨_, rfl⟩
  rw [← hwn_3] at hP
  have E := bns_e E hwn_3
  have ft3_taped : (wn_3 16 0).toInt = (w 16 0).toInt := by rw [hwn_3]; rfl
  have ft3_at : (wn_3 17 0).toInt = (w 17 0).toInt := by rw [hwn_3]; rfl
  have ft3_statements : (wn_3 18 0).toInt = (w 18 0).toInt := by rw [hwn_3]; rfl
  have ft3_layers : (wn_3 11 0).toInt = (w 11 0).toInt := by rw [hwn_3]; rfl
  have fv_3 : (wn_3 15 (a1.toNatClampNeg)).toInt = ((sX7_layerOf (sX7_next w)) : Int32).toInt := by rw [hwn_3, st_rd]
  have hI_3 : R7I wn_3 := by rw [hwn_3]; exact R7I_put_told hI
  refine lv_aload_n hx hb dX7_readsLayer_13 rfl (lv_at hl 0 rfl) ?_
  refine g7_told hx hb hts hin hown hK hP (hts (.fieldLink RX7 52 "LoadedForTheLaneModel" "told" "[I") (by decide +kernel)) dX7_readsLayer_14 ?_
  refine lv_iload_n hx hb dX7_readsLayer_17 rfl (lv_at hl 1 rfl) ?_
  have ix_4 : vp_in a1 192 := ix_of (by omega) (by omega)
  refine l7_told (j := a1.toNatClampNeg) hx hb hK hP ix_4 rfl dX7_readsLayer_18 ?_
  refine lv_if_ge (tgt := 24) hx hb dX7_readsLayer_19 (by decide) (fun c_5 => ?_) (fun c_5 => ?_)
  · have E := E.trans (if_pos c_5)
    have fc_5 := i_le c_5
    rw [q_0] at fc_5
    refine lv_aload_n hx hb dX7_readsLayer_24 rfl (lv_at hl 0 rfl) ?_
    refine lv_dup hx hb dX7_readsLayer_25 rfl ?_
    refine g7_at hx hb hts hin hown hK hP (hts (.fieldLink RX7 86 "LoadedForTheLaneModel" "at" "I") (by decide +kernel)) dX7_readsLayer_26 ?_
    have f_6 := R7I_at hI_3
    refine lv_iconst (v := 1) hx hb dX7_readsLayer_29 (by decide) ?_
    refine lv_iadd hx hb dX7_readsLayer_30 ?_
    refine p7_at hx hb hts hin hown hK hP hd hS (hts (.fieldLink RX7 86 "LoadedForTheLaneModel" "at" "I") (by decide +kernel)) dX7_readsLayer_31 (fun H locs hP hS => ?_)
    obtain ⟨wn_7, hwn_7⟩ : ∃ x, x = st wn_3 17 0 ((wn_3 17 0) + 1) := ⟨_, rfl⟩
    rw [← hwn_7] at hP
    have E := bns_e E hwn_7
    have ft7_taped : (wn_7 16 0).toInt = (wn_3 16 0).toInt := by rw [hwn_7]; rfl
    have ft7_at : (wn_7 17 0).toInt = ((wn_3 17 0) + 1 : Int32).toInt := by rw [hwn_7]; rfl
    have := i_addr (a := wn_3 17 0) (b := 1) (n := 1) q_1 (by omega) (by omega)
    have ft7_statements : (wn_7 18 0).toInt = (wn_3 18 0).toInt := by rw [hwn_7]; rfl
    have ft7_layers : (wn_7 11 0).toInt = (wn_3 11 0).toInt := by rw [hwn_7]; rfl
    have := i_addr (a := wn_3 17 0) (b := 1) (n := 1) q_1 (by omega) (by omega)
    have hI_7 : R7I wn_7 := by rw [hwn_7]; exact R7I_put_at hI_3 (by omega) (by omega)
    refine lv_aload_n hx hb dX7_readsLayer_34 rfl (lv_at hl 0 rfl) ?_
    refine lv_iload_n hx hb dX7_readsLayer_35 rfl (lv_at hl 1 rfl) ?_
    refine lv_iconst (v := 1) hx hb dX7_readsLayer_36 (by decide) ?_
    refine lv_iadd hx hb dX7_readsLayer_37 ?_
    refine lv_iconst (v := 2) hx hb dX7_readsLayer_38 (by decide) ?_
    refine lv_iconst (v := 2) hx hb dX7_readsLayer_39 (by decide) ?_
    have := i_addr (a := a1) (b := 1) (n := 1) q_1 (by omega) (by omega)
    have := q_2
    refine va_calli (va_runV (As := [.int (a1 + 1), .int 2, .int 2]) (rest := []) ⟨hx, hb, hml, hown, hts⟩ (kX7_readsNumber l D cI ad wn_7 (a1 + 1) 2 2 hd hI_7 (by omega) (by omega)) (cwV 3 hts gX7_readsLayer_X7_readsNumber rfl rfl rfl mdX7_readsNumber ⟨Nat.le_of_ble_eq_true rfl, Nat.le_of_ble_eq_true rfl⟩) (r7_pre hK hP) rfl rfl hl.1 rfl (lv_room (Nat.le_of_ble_eq_true rfl)) dX7_readsLayer_40 ⟨Nat.zero_le _, Nat.zero_le _⟩) hS (fun _ _ h => h) (fun _ h => h) (fun rn_8 wn_8 t H locs ht hvm hp_8 hB hz hfr hS => ?_)
    have hP : va_P D vwCl (RM cI ad wn_8) H := ht ▸ hB
    obtain ⟨hp_8, hz_8, hI_8, hq0_8, hq1_8, hq2_8, hq3_8⟩ := hp_8
    have E := bnd_e E hp_8
    have hzi_8 := z_int hz_8
    refine lv_if_eq (tgt := 58) hx hb dX7_readsLayer_43 (by decide) (fun c_9 => ?_) (fun c_9 => ?_)
    · have E := E.trans (if_pos c_9)
      have fc_9 := i_eq c_9
      rw [q_0] at fc_9
      refine lv_iconst (v := 0) hx hb dX7_readsLayer_58 (by decide) ?_
      have := q_0
      exact W.zret (ty := .boolean) (v := 0) hx hb hr (z_nar (Or.inl rfl)) (fun t ht hW => ⟨⟨_, wn_8, rfl, ⟨E.symm, (Or.inl rfl), hI_8, by omega, by omega, by omega, by omega⟩, by show va_P _ _ _ t.heap; rw [ht]; exact hP⟩, hS.F ht⟩) hS.2.2 dX7_readsLayer_59
    · have E := E.trans (if_neg c_9)
      have fc_9 := i_ne c_9
      rw [q_0] at fc_9
      refine lv_aload_n hx hb dX7_readsLayer_46 rfl (lv_at hl 0 rfl) ?_
      refine lv_iload_n hx hb dX7_readsLayer_47 rfl (lv_at hl 1 rfl) ?_
      refine lv_iconst (v := 2) hx hb dX7_readsLayer_48 (by decide) ?_
      refine lv_iadd hx hb dX7_readsLayer_49 ?_
      refine lv_iconst (v := 1) hx hb dX7_readsLayer_50 (by decide) ?_
      refine lv_iconst (v := 1) hx hb dX7_readsLayer_51 (by decide) ?_
      have := i_addr (a := a1) (b := 2) (n := 2) q_2 (by omega) (by omega)
      have := q_1
      refine va_calli (va_runV (As := [.int (a1 + 2), .int 1, .int 1]) (rest := []) ⟨hx, hb, hml, hown, hts⟩ (kX7_readsNumber l D cI ad wn_8 (a1 + 2) 1 1 hd hI_8 (by omega) (by omega)) (cwV 3 hts gX7_readsLayer_X7_readsNumber rfl rfl rfl mdX7_readsNumber ⟨Nat.le_of_ble_eq_true rfl, Nat.le_of_ble_eq_true rfl⟩) (r7_pre hK hP) rfl rfl hl.1 rfl (lv_room (Nat.le_of_ble_eq_true rfl)) dX7_readsLayer_52 ⟨Nat.zero_le _, Nat.zero_le _⟩) hS (fun _ _ h => h) (fun _ h => h) (fun rn_10 wn_10 t H locs ht hvm hp_10 hB hz hfr hS => ?_)
      have hP : va_P D vwCl (RM cI ad wn_10) H := ht ▸ hB
      obtain ⟨hp_10, hz_10, hI_10, hq0_10, hq1_10, hq2_10, hq3_10⟩ := hp_10
      have E := bnd_e E hp_10
      have hzi_10 := z_int hz_10
      refine lv_if_ne (tgt := 60) hx hb dX7_readsLayer_55 (by decide) (fun c_11 => ?_) (fun c_11 => ?_)
      · have E := E.trans (if_neg c_11)
        have fc_11 := i_ne c_11
        rw [q_0] at fc_11
        refine lv_aload_n hx hb dX7_readsLayer_60 rfl (lv_at hl 0 rfl) ?_
        refine vp_callSi (va_Run.run (va_runV (As := []) (rest := []) ⟨hx, hb, hml, hown, hts⟩ (kX7_next l D cI ad wn_10 hI_10) (cwV 0 hts gX7_readsLayer_X7_next rfl rfl rfl mdX7_next ⟨Nat.le_of_ble_eq_true rfl, Nat.le_of_ble_eq_true rfl⟩) (r7_pre hK hP) rfl rfl hl.1 rfl (lv_room (Nat.le_of_ble_eq_true rfl)) dX7_readsLayer_61 ⟨Nat.zero_le _, Nat.zero_le _⟩)) (fun r_12 hr_12 => ?_)
        subst hr_12
        have rf_12 := rX7_next wn_10
        have rt_12 := R7I_taped hI_10
        refine lv_bipush (v := 43) hx hb dX7_readsLayer_64 (by decide +kernel) ?_
        refine lv_icmp_ne (tgt := 73) hx hb dX7_readsLayer_66 (by decide) (fun c_13 => ?_) (fun c_13 => ?_)
        · have E := E.trans (if_neg c_13)
          have fc_13 := i_ne c_13
          rw [q_43] at fc_13
          refine lv_aload_n hx hb dX7_readsLayer_73 rfl (lv_at hl 0 rfl) ?_
          refine vp_callSi (va_Run.run (va_runV (As := []) (rest := []) ⟨hx, hb, hml, hown, hts⟩ (kX7_next l D cI ad wn_10 hI_10) (cwV 0 hts gX7_readsLayer_X7_next rfl rfl rfl mdX7_next ⟨Nat.le_of_ble_eq_true rfl, Nat.le_of_ble_eq_true rfl⟩) (r7_pre hK hP) rfl rfl hl.1 rfl (lv_room (Nat.le_of_ble_eq_true rfl)) dX7_readsLayer_74 ⟨Nat.zero_le _, Nat.zero_le _⟩)) (fun r_14 hr_14 => ?_)
          subst hr_14
          have rf_14 := rX7_next wn_10
          have rt_14 := R7I_taped hI_10
          refine lv_bipush (v := 45) hx hb dX7_readsLayer_77 (by decide +kernel) ?_
          refine lv_icmp_ne (tgt := 86) hx hb dX7_readsLayer_79 (by decide) (fun c_15 => ?_) (fun c_15 => ?_)
          · have E := E.trans (if_neg c_15)
            have fc_15 := i_ne c_15
            rw [q_45] at fc_15
            refine lv_iconst (v := 0) hx hb dX7_readsLayer_86 (by decide) ?_
            refine lv_istore_n (lv' := [(2, .int 0), (0, .ref (ad 0)), (1, .int a1)]) hx hb dX7_readsLayer_87 rfl hl (by decide) rfl (fun ls hl => ?_)
            refine lv_iload_n hx hb dX7_readsLayer_88 rfl (lv_at hl 0 rfl) ?_
            refine lv_if_ne (tgt := 94) hx hb dX7_readsLayer_89 (by decide) (fun z => absurd z (by decide)) (fun _ => ?_)
            refine lv_iconst (v := 0) hx hb dX7_readsLayer_92 (by decide) ?_
            have := q_0
            exact W.zret (ty := .boolean) (v := 0) hx hb hr (z_nar (Or.inl rfl)) (fun t ht hW => ⟨⟨_, wn_10, rfl, ⟨E.symm, (Or.inl rfl), hI_10, by omega, by omega, by omega, by omega⟩, by show va_P _ _ _ t.heap; rw [ht]; exact hP⟩, hS.F ht⟩) hS.2.2 dX7_readsLayer_93
          · have E := E.trans (if_pos c_15)
            have fc_15 := i_eq c_15
            rw [q_45] at fc_15
            refine lv_iconst (v := (-1)) hx hb dX7_readsLayer_82 (by decide) ?_
            refine lv_goto (tgt := 87) hx hb dX7_readsLayer_83 (by decide) ?_
            refine lv_istore_n (lv' := [(2, .int (-1)), (0, .ref (ad 0)), (1, .int a1)]) hx hb dX7_readsLayer_87 rfl hl (by decide) rfl (fun ls hl => ?_)
            refine lv_iload_n hx hb dX7_readsLayer_88 rfl (lv_at hl 0 rfl) ?_
            refine lv_if_ne (tgt := 94) hx hb dX7_readsLayer_89 (by decide) (fun _ => ?_) (fun z => absurd z (by decide))
            refine lv_aload_n hx hb dX7_readsLayer_94 rfl (lv_at hl 1 rfl) ?_
            refine lv_dup hx hb dX7_readsLayer_95 rfl ?_
            refine g7_at hx hb hts hin hown hK hP (hts (.fieldLink RX7 86 "LoadedForTheLaneModel" "at" "I") (by decide +kernel)) dX7_readsLayer_96 ?_
            have f_16 := R7I_at hI_10
            refine lv_iconst (v := 1) hx hb dX7_readsLayer_99 (by decide) ?_
            refine lv_iadd hx hb dX7_readsLayer_100 ?_
            refine p7_at hx hb hts hin hown hK hP hd hS (hts (.fieldLink RX7 86 "LoadedForTheLaneModel" "at" "I") (by decide +kernel)) dX7_readsLayer_101 (fun H locs hP hS => ?_)
            obtain ⟨wn_17, hwn_17⟩ : ∃ x, x = st wn_10 17 0 ((wn_10 17 0) + 1) := ⟨_, rfl⟩
            rw [← hwn_17] at hP
            have E := bns_e E hwn_17
            have ft17_taped : (wn_17 16 0).toInt = (wn_10 16 0).toInt := by rw [hwn_17]; rfl
            have ft17_at : (wn_17 17 0).toInt = ((wn_10 17 0) + 1 : Int32).toInt := by rw [hwn_17]; rfl
            have := i_addr (a := wn_10 17 0) (b := 1) (n := 1) q_1 (by omega) (by omega)
            have ft17_statements : (wn_17 18 0).toInt = (wn_10 18 0).toInt := by rw [hwn_17]; rfl
            have ft17_layers : (wn_17 11 0).toInt = (wn_10 11 0).toInt := by rw [hwn_17]; rfl
            have := i_addr (a := wn_10 17 0) (b := 1) (n := 1) q_1 (by omega) (by omega)
            have hI_17 : R7I wn_17 := by rw [hwn_17]; exact R7I_put_at hI_10 (by omega) (by omega)
            refine lv_aload_n hx hb dX7_readsLayer_104 rfl (lv_at hl 1 rfl) ?_
            refine lv_iload_n hx hb dX7_readsLayer_105 rfl (lv_at hl 2 rfl) ?_
            refine lv_iconst (v := 3) hx hb dX7_readsLayer_106 (by decide) ?_
            refine lv_iadd hx hb dX7_readsLayer_107 ?_
            refine lv_iconst (v := 1) hx hb dX7_readsLayer_108 (by decide) ?_
            refine lv_iconst (v := 1) hx hb dX7_readsLayer_109 (by decide) ?_
            have := i_addr (a := a1) (b := 3) (n := 3) q_3 (by omega) (by omega)
            have := q_1
            refine va_calli (va_runV (As := [.int (a1 + 3), .int 1, .int 1]) (rest := []) ⟨hx, hb, hml, hown, hts⟩ (kX7_readsNumber l D cI ad wn_17 (a1 + 3) 1 1 hd hI_17 (by omega) (by omega)) (cwV 3 hts gX7_readsLayer_X7_readsNumber rfl rfl rfl mdX7_readsNumber ⟨Nat.le_of_ble_eq_true rfl, Nat.le_of_ble_eq_true rfl⟩) (r7_pre hK hP) rfl rfl hl.1 rfl (lv_room (Nat.le_of_ble_eq_true rfl)) dX7_readsLayer_110 ⟨Nat.zero_le _, Nat.zero_le _⟩) hS (fun _ _ h => h) (fun _ h => h) (fun rn_18 wn_18 t H locs ht hvm hp_18 hB hz hfr hS => ?_)
            have hP : va_P D vwCl (RM cI ad wn_18) H := ht ▸ hB
            obtain ⟨hp_18, hz_18, hI_18, hq0_18, hq1_18, hq2_18, hq3_18⟩ := hp_18
            have E := bnd_e E hp_18
            have hzi_18 := z_int hz_18
            refine lv_if_ne (tgt := 118) hx hb dX7_readsLayer_113 (by decide) (fun c_19 => ?_) (fun c_19 => ?_)
            · have E := E.trans (if_neg c_19)
              have fc_19 := i_ne c_19
              rw [q_0] at fc_19
              refine lv_aload_n hx hb dX7_readsLayer_118 rfl (lv_at hl 1 rfl) ?_
              refine g7_told hx hb hts hin hown hK hP (hts (.fieldLink RX7 52 "LoadedForTheLaneModel" "told" "[I") (by decide +kernel)) dX7_readsLayer_119 ?_
              refine lv_iload_n hx hb dX7_readsLayer_122 rfl (lv_at hl 2 rfl) ?_
              refine lv_iconst (v := 3) hx hb dX7_readsLayer_123 (by decide) ?_
              refine lv_iadd hx hb dX7_readsLayer_124 ?_
              refine lv_dup2_11 hx hb dX7_readsLayer_125 rfl rfl ?_
              have := i_addr (a := a1) (b := 3) (n := 3) q_3 (by omega) (by omega)
              have ix_20 : vp_in (a1 + 3) 192 := ix_of (by omega) (by omega)
              refine l7_told (j := (a1 + 3).toNatClampNeg) hx hb hK hP ix_20 rfl dX7_readsLayer_126 ?_
              refine lv_iload_n hx hb dX7_readsLayer_127 rfl (lv_at hl 0 rfl) ?_
              refine lv_imul hx hb dX7_readsLayer_128 ?_
              have := i_addr (a := a1) (b := 3) (n := 3) q_3 (by omega) (by omega)
              have ix_21 : vp_in (a1 + 3) 192 := ix_of (by omega) (by omega)
              refine a7_told (j := (a1 + 3).toNatClampNeg) hx hb hK hP hd hS ix_21 rfl dX7_readsLayer_129 (fun H locs hP hS => ?_)
              obtain ⟨wn_21, hwn_21⟩ : ∃ x, x = st wn_18 15 ((a1 + 3).toNatClampNeg) ((wn_18 15 ((a1 + 3).toNatClampNeg)) * (-1)) := ⟨_, rfl⟩
              rw [← hwn_21] at hP
              have E := bns_e E hwn_21
              have ft21_taped : (wn_21 16 0).toInt = (wn_18 16 0).toInt := by rw [hwn_21]; rfl
              have ft21_at : (wn_21 17 0).toInt = (wn_18 17 0).toInt := by rw [hwn_21]; rfl
              have ft21_statements : (wn_21 18 0).toInt = (wn_18 18 0).toInt := by rw [hwn_21]; rfl
              have ft21_layers : (wn_21 11 0).toInt = (wn_18 11 0).toInt := by rw [hwn_21]; rfl
              have fv_21 : (wn_21 15 ((a1 + 3).toNatClampNeg)).toInt = ((wn_18 15 ((a1 + 3).toNatClampNeg)) * (-1) : Int32).toInt := by rw [hwn_21, st_rd]
              have hI_21 : R7I wn_21 := by rw [hwn_21]; exact R7I_put_told hI_18
              refine lv_iconst (v := 1) hx hb dX7_readsLayer_130 (by decide) ?_
              have := q_1
              exact W.zret (ty := .boolean) (v := 1) hx hb hr (z_nar (Or.inr rfl)) (fun t ht hW => ⟨⟨_, wn_21, rfl, ⟨E.symm, (Or.inr rfl), hI_21, by omega, by omega, by omega, by omega⟩, by show va_P _ _ _ t.heap; rw [ht]; exact hP⟩, hS.F ht⟩) hS.2.2 dX7_readsLayer_131
            · have E := E.trans (if_pos c_19)
              have fc_19 := i_eq c_19
              rw [q_0] at fc_19
              refine lv_iconst (v := 0) hx hb dX7_readsLayer_116 (by decide) ?_
              have := q_0
              exact W.zret (ty := .boolean) (v := 0) hx hb hr (z_nar (Or.inl rfl)) (fun t ht hW => ⟨⟨_, wn_18, rfl, ⟨E.symm, (Or.inl rfl), hI_18, by omega, by omega, by omega, by omega⟩, by show va_P _ _ _ t.heap; rw [ht]; exact hP⟩, hS.F ht⟩) hS.2.2 dX7_readsLayer_117
        · have E := E.trans (if_pos c_13)
          have fc_13 := i_eq c_13
          rw [q_43] at fc_13
          refine lv_iconst (v := 1) hx hb dX7_readsLayer_69 (by decide) ?_
          refine lv_goto (tgt := 87) hx hb dX7_readsLayer_70 (by decide) ?_
          refine lv_istore_n (lv' := [(2, .int 1), (0, .ref (ad 0)), (1, .int a1)]) hx hb dX7_readsLayer_87 rfl hl (by decide) rfl (fun ls hl => ?_)
          refine lv_iload_n hx hb dX7_readsLayer_88 rfl (lv_at hl 0 rfl) ?_
          refine lv_if_ne (tgt := 94) hx hb dX7_readsLayer_89 (by decide) (fun _ => ?_) (fun z => absurd z (by decide))
          refine lv_aload_n hx hb dX7_readsLayer_94 rfl (lv_at hl 1 rfl) ?_
          refine lv_dup hx hb dX7_readsLayer_95 rfl ?_
          refine g7_at hx hb hts hin hown hK hP (hts (.fieldLink RX7 86 "LoadedForTheLaneModel" "at" "I") (by decide +kernel)) dX7_readsLayer_96 ?_
          have f_22 := R7I_at hI_10
          refine lv_iconst (v := 1) hx hb dX7_readsLayer_99 (by decide) ?_
          refine lv_iadd hx hb dX7_readsLayer_100 ?_
          refine p7_at hx hb hts hin hown hK hP hd hS (hts (.fieldLink RX7 86 "LoadedForTheLaneModel" "at" "I") (by decide +kernel)) dX7_readsLayer_101 (fun H locs hP hS => ?_)
          obtain ⟨wn_23, hwn_23⟩ : ∃ x, x = st wn_10 17 0 ((wn_10 17 0) + 1) := ⟨_, rfl⟩
          rw [← hwn_23] at hP
          have E := bns_e E hwn_23
          have ft23_taped : (wn_23 16 0).toInt = (wn_10 16 0).toInt := by rw [hwn_23]; rfl
          have ft23_at : (wn_23 17 0).toInt = ((wn_10 17 0) + 1 : Int32).toInt := by rw [hwn_23]; rfl
          have := i_addr (a := wn_10 17 0) (b := 1) (n := 1) q_1 (by omega) (by omega)
          have ft23_statements : (wn_23 18 0).toInt = (wn_10 18 0).toInt := by rw [hwn_23]; rfl
          have ft23_layers : (wn_23 11 0).toInt = (wn_10 11 0).toInt := by rw [hwn_23]; rfl
          have := i_addr (a := wn_10 17 0) (b := 1) (n := 1) q_1 (by omega) (by omega)
          have hI_23 : R7I wn_23 := by rw [hwn_23]; exact R7I_put_at hI_10 (by omega) (by omega)
          refine lv_aload_n hx hb dX7_readsLayer_104 rfl (lv_at hl 1 rfl) ?_
          refine lv_iload_n hx hb dX7_readsLayer_105 rfl (lv_at hl 2 rfl) ?_
          refine lv_iconst (v := 3) hx hb dX7_readsLayer_106 (by decide) ?_
          refine lv_iadd hx hb dX7_readsLayer_107 ?_
          refine lv_iconst (v := 1) hx hb dX7_readsLayer_108 (by decide) ?_
          refine lv_iconst (v := 1) hx hb dX7_readsLayer_109 (by decide) ?_
          have := i_addr (a := a1) (b := 3) (n := 3) q_3 (by omega) (by omega)
          have := q_1
          refine va_calli (va_runV (As := [.int (a1 + 3), .int 1, .int 1]) (rest := []) ⟨hx, hb, hml, hown, hts⟩ (kX7_readsNumber l D cI ad wn_23 (a1 + 3) 1 1 hd hI_23 (by omega) (by omega)) (cwV 3 hts gX7_readsLayer_X7_readsNumber rfl rfl rfl mdX7_readsNumber ⟨Nat.le_of_ble_eq_true rfl, Nat.le_of_ble_eq_true rfl⟩) (r7_pre hK hP) rfl rfl hl.1 rfl (lv_room (Nat.le_of_ble_eq_true rfl)) dX7_readsLayer_110 ⟨Nat.zero_le _, Nat.zero_le _⟩) hS (fun _ _ h => h) (fun _ h => h) (fun rn_24 wn_24 t H locs ht hvm hp_24 hB hz hfr hS => ?_)
          have hP : va_P D vwCl (RM cI ad wn_24) H := ht ▸ hB
          obtain ⟨hp_24, hz_24, hI_24, hq0_24, hq1_24, hq2_24, hq3_24⟩ := hp_24
          have E := bnd_e E hp_24
          have hzi_24 := z_int hz_24
          refine lv_if_ne (tgt := 118) hx hb dX7_readsLayer_113 (by decide) (fun c_25 => ?_) (fun c_25 => ?_)
          · have E := E.trans (if_neg c_25)
            have fc_25 := i_ne c_25
            rw [q_0] at fc_25
            refine lv_aload_n hx hb dX7_readsLayer_118 rfl (lv_at hl 1 rfl) ?_
            refine g7_told hx hb hts hin hown hK hP (hts (.fieldLink RX7 52 "LoadedForTheLaneModel" "told" "[I") (by decide +kernel)) dX7_readsLayer_119 ?_
            refine lv_iload_n hx hb dX7_readsLayer_122 rfl (lv_at hl 2 rfl) ?_
            refine lv_iconst (v := 3) hx hb dX7_readsLayer_123 (by decide) ?_
            refine lv_iadd hx hb dX7_readsLayer_124 ?_
            refine lv_dup2_11 hx hb dX7_readsLayer_125 rfl rfl ?_
            have := i_addr (a := a1) (b := 3) (n := 3) q_3 (by omega) (by omega)
            have ix_26 : vp_in (a1 + 3) 192 := ix_of (by omega) (by omega)
            refine l7_told (j := (a1 + 3).toNatClampNeg) hx hb hK hP ix_26 rfl dX7_readsLayer_126 ?_
            refine lv_iload_n hx hb dX7_readsLayer_127 rfl (lv_at hl 0 rfl) ?_
            refine lv_imul hx hb dX7_readsLayer_128 ?_
            have := i_addr (a := a1) (b := 3) (n := 3) q_3 (by omega) (by omega)
            have ix_27 : vp_in (a1 + 3) 192 := ix_of (by omega) (by omega)
            refine a7_told (j := (a1 + 3).toNatClampNeg) hx hb hK hP hd hS ix_27 rfl dX7_readsLayer_129 (fun H locs hP hS => ?_)
            obtain ⟨wn_27, hwn_27⟩ : ∃ x, x = st wn_24 15 ((a1 + 3).toNatClampNeg) ((wn_24 15 ((a1 + 3).toNatClampNeg)) * 1) := ⟨_, rfl⟩
            rw [← hwn_27] at hP
            have E := bns_e E hwn_27
            have ft27_taped : (wn_27 16 0).toInt = (wn_24 16 0).toInt := by rw [hwn_27]; rfl
            have ft27_at : (wn_27 17 0).toInt = (wn_24 17 0).toInt := by rw [hwn_27]; rfl
            have ft27_statements : (wn_27 18 0).toInt = (wn_24 18 0).toInt := by rw [hwn_27]; rfl
            have ft27_layers : (wn_27 11 0).toInt = (wn_24 11 0).toInt := by rw [hwn_27]; rfl
            have fv_27 : (wn_27 15 ((a1 + 3).toNatClampNeg)).toInt = ((wn_24 15 ((a1 + 3).toNatClampNeg)) * 1 : Int32).toInt := by rw [hwn_27, st_rd]
            have hI_27 : R7I wn_27 := by rw [hwn_27]; exact R7I_put_told hI_24
            refine lv_iconst (v := 1) hx hb dX7_readsLayer_130 (by decide) ?_
            have := q_1
            exact W.zret (ty := .boolean) (v := 1) hx hb hr (z_nar (Or.inr rfl)) (fun t ht hW => ⟨⟨_, wn_27, rfl, ⟨E.symm, (Or.inr rfl), hI_27, by omega, by omega, by omega, by omega⟩, by show va_P _ _ _ t.heap; rw [ht]; exact hP⟩, hS.F ht⟩) hS.2.2 dX7_readsLayer_131
          · have E := E.trans (if_pos c_25)
            have fc_25 := i_eq c_25
            rw [q_0] at fc_25
            refine lv_iconst (v := 0) hx hb dX7_readsLayer_116 (by decide) ?_
            have := q_0
            exact W.zret (ty := .boolean) (v := 0) hx hb hr (z_nar (Or.inl rfl)) (fun t ht hW => ⟨⟨_, wn_24, rfl, ⟨E.symm, (Or.inl rfl), hI_24, by omega, by omega, by omega, by omega⟩, by show va_P _ _ _ t.heap; rw [ht]; exact hP⟩, hS.F ht⟩) hS.2.2 dX7_readsLayer_117
      · have E := E.trans (if_pos c_11)
        have fc_11 := i_eq c_11
        rw [q_0] at fc_11
        refine lv_iconst (v := 0) hx hb dX7_readsLayer_58 (by decide) ?_
        have := q_0
        exact W.zret (ty := .boolean) (v := 0) hx hb hr (z_nar (Or.inl rfl)) (fun t ht hW => ⟨⟨_, wn_10, rfl, ⟨E.symm, (Or.inl rfl), hI_10, by omega, by omega, by omega, by omega⟩, by show va_P _ _ _ t.heap; rw [ht]; exact hP⟩, hS.F ht⟩) hS.2.2 dX7_readsLayer_59
  · have E := E.trans (if_neg c_5)
    have fc_5 := i_nle c_5
    rw [q_0] at fc_5
    refine lv_iconst (v := 0) hx hb dX7_readsLayer_22 (by decide) ?_
    have := q_0
    exact W.zret (ty := .boolean) (v := 0) hx hb hr (z_nar (Or.inl rfl)) (fun t ht hW => ⟨⟨_, wn_3, rfl, ⟨E.symm, (Or.inl rfl), hI_3, by omega, by omega, by omega, by omega⟩, by show va_P _ _ _ t.heap; rw [ht]; exact hP⟩, hS.F ht⟩) hS.2.2 dX7_readsLayer_23
