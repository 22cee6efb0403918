abbrev rmX7_lots : Room := { frames := 7, cells := 0, slots := 0, locals := 159 }
set_option maxHeartbeats 4000000 in
set_option maxRecDepth 100000 in
theorem kX7_lots (l : Launch) (D : va_G) (cI : ClassId) (ad : Nat → Nat) (w : Nat → Nat → Int32) (a1 : Int32) (a2 : Int32) (a3 : Int32) (hd : RD ad) (hI : R7I w)  : Met l yX7_lots wsX7_lots rmX7_lots (va_Pc [Value.ref (ad 0), Value.int a1, Value.int a2, Value.int a3] (fun U => va_P D vwCl (RM cI ad w) U.heap ∧ va_K D vwCl [(cI, .int)] U)) (va_Qi (fun r u => (r, u) = sX7_lots w a1 a2 a3) (fun u t => va_P D vwCl (RM cI ad u) t.heap) (RA ad)) 0 0 (RA ad) := by
  refine Met.ofW (cc := cX7_lots) (maxL := 8) (ret := (some .int)) (by decide) rfl ?_
  intro p e s m args below meth c s₁ B hml hv
  obtain ⟨rfl, hP, hK⟩ := hv
  have hx := B.exec
  have hb := B.bytes
  have hr := B.returns
  have hts := atoms_spec (ws := wsX7_lots) B.pre
  have hown : s.vm.findClass RX7 = some m.cls := findClass_of_methodNamed B.named
  have hlocks := B.notSynchronized
  have hin : ∀ q ∈ wsX70, q ∈ wsX7_lots := by decide +kernel
  have hl := lv_entry ([.ref (ad 0), .int a1, .int a2, .int a3]) (n := 8) (Nat.le_of_ble_eq_true rfl)
  rw [lg_entry_eq]
  generalize (lg_sl ([.ref (ad 0), .int a1, .int a2, .int a3]) ++ List.replicate (8 - (lg_sl ([.ref (ad 0), .int a1, .int a2, .int a3])).length) Slot.unset).toArray = ls at hl ⊢
  have hl : lv_has ls 8 [(0, .ref (ad 0)), (1, .int a1), (2, .int a2), (3, .int a3)] := hl
  suffices hgo : ∀ (H : Heap) (locs : List Loc), va_P D vwCl (RM cI ad w) H → va_S (RA ad) s.heap H locs → W p l e (headSpec wsX7_lots rmX7_lots).room s m [Value.ref (ad 0), Value.int a1, Value.int a2, Value.int a3].toArray below meth c H locs 0 0 (MQ below (va_Qi (fun r u => (r, u) = sX7_lots w a1 a2 a3) (fun u t => va_P D vwCl (RM cI ad u) t.heap) (RA ad)) [Value.ref (ad 0), Value.int a1, Value.int a2, Value.int a3].toArray s 0 0 (RA ad)) (F0 m 0 ls []) from hgo s.heap [] hP va_S.rf
  intro H locs hP hS
  have E := sX7_lots.eq_1 w a1 a2 a3
  refine lv_iload_n hx hb dX7_lots_0 rfl (lv_at hl 1 rfl) ?_
  refine vp_callSi (va_Run.run (va_runS (As := [.int a1]) (rest := []) ⟨hx, hb, hml, hown, hts⟩ (kX7_isWay l a1) (va_cwS 1 hts gX7_lots_X7_isWay rfl rfl rfl mdX7_isWay ⟨Nat.le_of_ble_eq_true rfl, Nat.le_of_ble_eq_true rfl⟩) s_pre rfl rfl hl.1 rfl (lv_room (Nat.le_of_ble_eq_true rfl)) dX7_lots_1 ⟨Nat.zero_le _, Nat.zero_le _⟩)) (fun r_1 hr_1 => ?_)
  obtain ⟨rfl, hz_1⟩ := hr_1
  refine lv_if_ne (tgt := 11) hx hb dX7_lots_4 (by decide) (fun c_2 => ?_) (fun c_2 => ?_)
  · have E := E.trans (if_neg c_2)
    have fc_2 := i_ne c_2
    rw [q_0] at fc_2
    have gc_2 := fX7_isWay c_2
    refine lv_iload_n hx hb dX7_lots_11 rfl (lv_at hl 2 rfl) ?_
    refine lv_iconst (v := 1) hx hb dX7_lots_12 (by decide) ?_
    refine lv_bipush (v := 30) hx hb dX7_lots_13 (by decide +kernel) ?_
    refine vp_callSi (va_Run.run (va_runS (As := [.int a2, .int 1, .int 30]) (rest := []) ⟨hx, hb, hml, hown, hts⟩ (kX7_bound l a2 1 30) (va_cwS 3 hts gX7_lots_X7_bound rfl rfl rfl mdX7_bound ⟨Nat.le_of_ble_eq_true rfl, Nat.le_of_ble_eq_true rfl⟩) s_pre rfl rfl hl.1 rfl (lv_room (Nat.le_of_ble_eq_true rfl)) dX7_lots_15 ⟨Nat.zero_le _, Nat.zero_le _⟩)) (fun r_3 hr_3 => ?_)
    subst hr_3
    have rf_3 := rX7_bound a2 1 30
    have := q_1
    have := q_30
    refine lv_istore (lv' := [(4, .int (sX7_bound a2 1 30)), (0, .ref (ad 0)), (1, .int a1), (2, .int a2), (3, .int a3)]) hx hb dX7_lots_18 hl (by decide) rfl (fun ls hl => ?_)
    refine lv_iload hx hb dX7_lots_20 (lv_at hl 0 rfl) ?_
    refine lv_if_eq (tgt := 32) hx hb dX7_lots_22 (by decide) (fun c_4 => ?_) (fun c_4 => ?_)
    · have E := E.trans (if_pos c_4)
      have fc_4 := i_eq c_4
      rw [q_0] at fc_4
      refine lv_aload_n hx hb dX7_lots_32 rfl (lv_at hl 1 rfl) ?_
      refine lv_iconst (v := 1) hx hb dX7_lots_33 (by decide) ?_
      refine lv_iconst (v := 1) hx hb dX7_lots_34 (by decide) ?_
      have := q_1
      refine va_callv (va_runV (As := [.int 1, .int 1]) (rest := []) ⟨hx, hb, hml, hown, hts⟩ (kX7_passesAll l D cI ad w 1 1 hd (by omega) (by omega) (Or.inr rfl)) (cwV 2 hts gX7_lots_X7_passesAll rfl rfl rfl mdX7_passesAll ⟨Nat.le_of_ble_eq_true rfl, Nat.le_of_ble_eq_true rfl⟩) (r7_pre hK hP) rfl rfl hl.1 rfl (lv_room (Nat.le_of_ble_eq_true rfl)) dX7_lots_35 ⟨Nat.zero_le _, Nat.zero_le _⟩) hS (fun _ _ h => h) (fun _ h => h) (fun wn_5 t H locs ht hvm hp_5 hB hz hfr hS => ?_)
      have hP : va_P D vwCl (RM cI ad wn_5) H := ht ▸ hB
      have E := bns_e E hp_5
      have e_5 := fun k h1 h2 h3 => (congrFun hp_5 k).trans (iX7_save (w := w) (a := 1) k h1 h2 h3)
      have hI_5 : R7I wn_5 := R7I_eq hI (e_5 10 (by decide) (by decide) (by decide)) (e_5 11 (by decide) (by decide) (by decide)) (e_5 16 (by decide) (by decide) (by decide)) (e_5 17 (by decide) (by decide) (by decide)) (e_5 18 (by decide) (by decide) (by decide)) (e_5 27 (by decide) (by decide) (by decide))
      have el_5 : (wn_5 11 0).toInt = (w 11 0).toInt := by rw [e_5 11 (by decide) (by decide) (by decide)]
      have es_5 : (wn_5 18 0).toInt = (w 18 0).toInt := by rw [e_5 18 (by decide) (by decide) (by decide)]
      refine lv_aload_n hx hb dX7_lots_38 rfl (lv_at hl 1 rfl) ?_
      refine lv_iload_n hx hb dX7_lots_39 rfl (lv_at hl 4 rfl) ?_
      refine p7_lots hx hb hts hin hown hK hP hd hS (hts (.fieldLink RX7 271 "LoadedForTheLaneModel" "lots" "I") (by decide +kernel)) dX7_lots_40 (fun H locs hP hS => ?_)
      obtain ⟨wn_6, hwn_6⟩ : ∃ x, x = st wn_5 28 0 a3 := ⟨_, rfl⟩
      rw [← hwn_6] at hP
      have E := bns_e E hwn_6
      have hI_6 : R7I wn_6 := by rw [hwn_6]; exact R7I_put_lots hI_5
      refine lv_iconst (v := 0) hx hb dX7_lots_43 (by decide) ?_
      refine lv_istore (lv' := [(5, .int 0), (4, .int (sX7_bound a2 1 30)), (0, .ref (ad 0)), (1, .int a1), (2, .int a2), (3, .int a3)]) hx hb dX7_lots_44 hl (by decide) rfl (fun ls hl => ?_)
      refine lv_iconst (v := 0) hx hb dX7_lots_46 (by decide) ?_
      refine lv_istore (lv' := [(6, .int 0), (5, .int 0), (4, .int (sX7_bound a2 1 30)), (0, .ref (ad 0)), (1, .int a1), (2, .int a2), (3, .int a3)]) hx hb dX7_lots_47 hl (by decide) rfl (fun ls hl => ?_)
      have L_49 : ∀ (n_49 : Nat) (x5_49 : Int32) (x6_49 : Int32) (w_49 : Nat → Nat → Int32) (H : Heap) (locs : List Loc) (ls : Array Slot), ((0 ≤ x6_49.toInt) ∧ (x6_49.toInt ≤ 30)) → (30 - x6_49.toInt < (n_49 : Int)) → R7I w_49 → va_P D vwCl (RM cI ad w_49) H → va_S (RA ad) s.heap H locs → lv_has ls 8 [(6, .int x6_49), (5, .int x5_49), (0, .ref (ad 0)), (1, .int a1), (2, .int a2)] → sX7_lots w a1 a2 a3 = sX7_lots_49 a1 a2 n_49 x5_49 x6_49 w_49 → W p l e (headSpec wsX7_lots rmX7_lots).room s m [Value.ref (ad 0), Value.int a1, Value.int a2, Value.int a3].toArray below meth c H locs 0 0 (MQ below (va_Qi (fun r u => (r, u) = sX7_lots w a1 a2 a3) (fun u t => va_P D vwCl (RM cI ad u) t.heap) (RA ad)) [Value.ref (ad 0), Value.int a1, Value.int a2, Value.int a3].toArray s 0 0 (RA ad)) (F0 m 49 ls []) := by
        intro n_49
        induction n_49 with
        | zero =>
          intro x5_49 x6_49 w_49 H locs ls hinv hm
          obtain ⟨v0_49, v1_49⟩ := hinv
          exact absurd hm (by omega)
        | succ n_49 ih_49 =>
          intro x5_49 x6_49 w_49 H locs ls hinv hm_49 hI_49 hP hS hl E
          obtain ⟨v0_49, v1_49⟩ := hinv
          have E := E.trans (sX7_lots_49.eq_2 ..)
          refine lv_iload hx hb dX7_lots_49 (lv_at hl 0 rfl) ?_
          refine lv_iload_n hx hb dX7_lots_51 rfl (lv_at hl 4 rfl) ?_
          refine lv_icmp_ge (tgt := 125) hx hb dX7_lots_52 (by decide) (fun c_7 => ?_) (fun c_7 => ?_)
          · have E := E.trans (if_pos c_7)
            have fc_7 := i_le c_7
            refine lv_aload_n hx hb dX7_lots_125 rfl (lv_at hl 2 rfl) ?_
            refine lv_iconst (v := 1) hx hb dX7_lots_126 (by decide) ?_
            refine lv_iconst (v := 0) hx hb dX7_lots_127 (by decide) ?_
            have := q_1
            have := q_0
            refine va_callv (va_runV (As := [.int 1, .int 0]) (rest := []) ⟨hx, hb, hml, hown, hts⟩ (kX7_passesAll l D cI ad w_49 1 0 hd (by omega) (by omega) (Or.inl rfl)) (cwV 2 hts gX7_lots_X7_passesAll rfl rfl rfl mdX7_passesAll ⟨Nat.le_of_ble_eq_true rfl, Nat.le_of_ble_eq_true rfl⟩) (r7_pre hK hP) rfl rfl hl.1 rfl (lv_room (Nat.le_of_ble_eq_true rfl)) dX7_lots_128 ⟨Nat.zero_le _, Nat.zero_le _⟩) hS (fun _ _ h => h) (fun _ h => h) (fun wn_8 t H locs ht hvm hp_8 hB hz hfr hS => ?_)
            have hP : va_P D vwCl (RM cI ad wn_8) H := ht ▸ hB
            have E := bns_e E hp_8
            refine lv_iload hx hb dX7_lots_131 (lv_at hl 1 rfl) ?_
            exact W.iret (v := x5_49) hx hb hr (fun t ht hW => ⟨⟨_, wn_8, rfl, E.symm, by show va_P _ _ _ t.heap; rw [ht]; exact hP⟩, hS.F ht⟩) hS.2.2 dX7_lots_133
          · have E := E.trans (if_neg c_7)
            have fc_7 := i_nle c_7
            refine lv_iconst (v := 0) hx hb dX7_lots_55 (by decide) ?_
            refine lv_istore (lv' := [(7, .int 0), (6, .int x6_49), (5, .int x5_49), (0, .ref (ad 0)), (1, .int a1), (2, .int a2)]) hx hb dX7_lots_56 hl (by decide) rfl (fun ls hl => ?_)
            have L_58 : ∀ (n_58 : Nat) (x7_58 : Int32) (w_58 : Nat → Nat → Int32) (H : Heap) (locs : List Loc) (ls : Array Slot), ((0 ≤ x7_58.toInt) ∧ (x7_58.toInt ≤ 12)) → (12 - x7_58.toInt < (n_58 : Int)) → R7I w_58 → va_P D vwCl (RM cI ad w_58) H → va_S (RA ad) s.heap H locs → lv_has ls 8 [(7, .int x7_58), (6, .int x6_49), (5, .int x5_49), (0, .ref (ad 0)), (1, .int a1), (2, .int a2)] → sX7_lots w a1 a2 a3 = sX7_lots_58 a1 x5_49 x6_49 (sX7_lots_49 a1 a2 n_49) n_58 x7_58 w_58 → W p l e (headSpec wsX7_lots rmX7_lots).room s m [Value.ref (ad 0), Value.int a1, Value.int a2, Value.int a3].toArray below meth c H locs 0 0 (MQ below (va_Qi (fun r u => (r, u) = sX7_lots w a1 a2 a3) (fun u t => va_P D vwCl (RM cI ad u) t.heap) (RA ad)) [Value.ref (ad 0), Value.int a1, Value.int a2, Value.int a3].toArray s 0 0 (RA ad)) (F0 m 58 ls []) := by
              intro n_58
              induction n_58 with
              | zero =>
                intro x7_58 w_58 H locs ls hinv hm
                obtain ⟨v0_58, v1_58⟩ := hinv
                exact absurd hm (by omega)
              | succ n_58 ih_58 =>
                intro x7_58 w_58 H locs ls hinv hm_58 hI_58 hP hS hl E
                obtain ⟨v0_58, v1_58⟩ := hinv
                have E := E.trans (sX7_lots_58.eq_2 ..)
                refine lv_iload hx hb dX7_lots_58 (lv_at hl 0 rfl) ?_
                refine lv_aload_n hx hb dX7_lots_60 rfl (lv_at hl 3 rfl) ?_
                refine g7_layers hx hb hts hin hown hK hP (hts (.fieldLink RX7 67 "LoadedForTheLaneModel" "layers" "I") (by decide +kernel)) dX7_lots_61 ?_
                have f_9 := R7I_layers hI_58
                refine lv_icmp_ge (tgt := 101) hx hb dX7_lots_64 (by decide) (fun c_10 => ?_) (fun c_10 => ?_)
                · have E := E.trans (if_pos c_10)
                  have fc_10 := i_le c_10
                  refine lv_iload hx hb dX7_lots_101 (lv_at hl 2 rfl) ?_
                  refine lv_aload_n hx hb dX7_lots_103 rfl (lv_at hl 3 rfl) ?_
                  refine lv_iload_n hx hb dX7_lots_104 rfl (lv_at hl 4 rfl) ?_
                  refine va_calli (va_runV (As := [.int a1]) (rest := [.int x5_49]) ⟨hx, hb, hml, hown, hts⟩ (kX7_doesHold l D cI ad w_58 a1 hd hI_58 (by omega) (by omega)) (cwV 1 hts gX7_lots_X7_doesHold rfl rfl rfl mdX7_doesHold ⟨Nat.le_of_ble_eq_true rfl, Nat.le_of_ble_eq_true rfl⟩) (r7_pre hK hP) rfl rfl hl.1 rfl (lv_room (Nat.le_of_ble_eq_true rfl)) dX7_lots_105 ⟨Nat.zero_le _, Nat.zero_le _⟩) hS (fun _ _ h => h) (fun _ h => h) (fun rn_11 wn_11 t H locs ht hvm hp_11 hB hz hfr hS => ?_)
                  have hP : va_P D vwCl (RM cI ad wn_11) H := ht ▸ hB
                  obtain ⟨hp_11, hz_11, hI_11, hq0_11⟩ := hp_11
                  have E := bnd_e E hp_11
                  have hzi_11 := z_int hz_11
                  refine lv_if_eq (tgt := 115) hx hb dX7_lots_108 (by decide) (fun c_12 => ?_) (fun c_12 => ?_)
                  · have E := E.trans (if_pos c_12)
                    have fc_12 := i_eq c_12
                    rw [q_0] at fc_12
                    refine lv_iconst (v := 0) hx hb dX7_lots_115 (by decide) ?_
                    refine lv_iadd hx hb dX7_lots_116 ?_
                    refine lv_istore (lv' := [(5, .int (x5_49 + 0)), (7, .int x7_58), (6, .int x6_49), (0, .ref (ad 0)), (1, .int a1), (2, .int a2)]) hx hb dX7_lots_117 hl (by decide) rfl (fun ls hl => ?_)
                    refine lv_iinc (v := x6_49 + 1) (lv' := [(6, .int (x6_49 + 1)), (5, .int (x5_49 + 0)), (7, .int x7_58), (0, .ref (ad 0)), (1, .int a1), (2, .int a2)]) hx hb dX7_lots_119 hl (k := 2) rfl rfl (by decide) rfl (fun ls hl => ?_)
                    refine lv_goto (tgt := 49) hx hb dX7_lots_122 (by decide) ?_
                    try have := i_addr (a := x6_49) (b := 1) (n := 1) q_1 (by omega) (by omega)
                    exact ih_49 (x5_49 + 0) (x6_49 + 1) wn_11 H locs ls ⟨by omega, by omega⟩ (by omega) hI_11 hP hS (lv_sub hl [0, 1, 3, 4, 5] rfl) E
                  · have E := E.trans (if_neg c_12)
                    have fc_12 := i_ne c_12
                    rw [q_0] at fc_12
                    refine lv_iconst (v := 1) hx hb dX7_lots_111 (by decide) ?_
                    refine lv_goto (tgt := 116) hx hb dX7_lots_112 (by decide) ?_
                    refine lv_iadd hx hb dX7_lots_116 ?_
                    refine lv_istore (lv' := [(5, .int (x5_49 + 1)), (7, .int x7_58), (6, .int x6_49), (0, .ref (ad 0)), (1, .int a1), (2, .int a2)]) hx hb dX7_lots_117 hl (by decide) rfl (fun ls hl => ?_)
                    refine lv_iinc (v := x6_49 + 1) (lv' := [(6, .int (x6_49 + 1)), (5, .int (x5_49 + 1)), (7, .int x7_58), (0, .ref (ad 0)), (1, .int a1), (2, .int a2)]) hx hb dX7_lots_119 hl (k := 2) rfl rfl (by decide) rfl (fun ls hl => ?_)
                    refine lv_goto (tgt := 49) hx hb dX7_lots_122 (by decide) ?_
                    try have := i_addr (a := x6_49) (b := 1) (n := 1) q_1 (by omega) (by omega)
                    exact ih_49 (x5_49 + 1) (x6_49 + 1) wn_11 H locs ls ⟨by omega, by omega⟩ (by omega) hI_11 hP hS (lv_sub hl [0, 1, 3, 4, 5] rfl) E
                · have E := E.trans (if_neg c_10)
                  have fc_10 := i_nle c_10
                  refine lv_aload_n hx hb dX7_lots_67 rfl (lv_at hl 3 rfl) ?_
                  refine g7_out hx hb hts hin hown hK hP (hts (.fieldLink RX7 22 "LoadedForTheLaneModel" "out" "[I") (by decide +kernel)) dX7_lots_68 ?_
                  refine lv_iload hx hb dX7_lots_71 (lv_at hl 0 rfl) ?_
                  refine lv_aload_n hx hb dX7_lots_73 rfl (lv_at hl 3 rfl) ?_
                  refine lv_bipush (v := 10) hx hb dX7_lots_74 (by decide +kernel) ?_
                  have := q_10
                  refine va_calli (va_runV (As := [.int 10]) (rest := [.int x7_58, .ref (ad 5)]) ⟨hx, hb, hml, hown, hts⟩ (kX7_draw l D cI ad w_58 10 hd hI_58 (by omega)) (cwV 1 hts gX7_lots_X7_draw rfl rfl rfl mdX7_draw ⟨Nat.le_of_ble_eq_true rfl, Nat.le_of_ble_eq_true rfl⟩) (r7_pre hK hP) rfl rfl hl.1 rfl (lv_room (Nat.le_of_ble_eq_true rfl)) dX7_lots_76 ⟨Nat.zero_le _, Nat.zero_le _⟩) hS (fun _ _ h => h) (fun _ h => h) (fun rn_13 wn_13 t H locs ht hvm hp_13 hB hz hfr hS => ?_)
                  have hP : va_P D vwCl (RM cI ad wn_13) H := ht ▸ hB
                  obtain ⟨hp_13, hI_13⟩ := hp_13
                  have E := bnd_e E hp_13
                  have ix_14 : vp_in x7_58 12 := ix_of (by omega) (by omega)
                  refine a7_out (j := x7_58.toNatClampNeg) hx hb hK hP hd hS ix_14 rfl dX7_lots_79 (fun H locs hP hS => ?_)
                  obtain ⟨wn_14, hwn_14⟩ : ∃ x, x = st wn_13 4 (x7_58.toNatClampNeg) rn_13 := ⟨_, rfl⟩
                  rw [← hwn_14] at hP
                  have E := bns_e E hwn_14
                  have hI_14 : R7I wn_14 := by rw [hwn_14]; exact R7I_put_out hI_13
                  refine lv_aload_n hx hb dX7_lots_80 rfl (lv_at hl 3 rfl) ?_
                  refine g7_lean hx hb hts hin hown hK hP (hts (.fieldLink RX7 25 "LoadedForTheLaneModel" "lean" "[I") (by decide +kernel)) dX7_lots_81 ?_
                  refine lv_iload hx hb dX7_lots_84 (lv_at hl 0 rfl) ?_
                  refine lv_aload_n hx hb dX7_lots_86 rfl (lv_at hl 3 rfl) ?_
                  refine lv_bipush (v := 11) hx hb dX7_lots_87 (by decide +kernel) ?_
                  have := q_11
                  refine va_calli (va_runV (As := [.int 11]) (rest := [.int x7_58, .ref (ad 6)]) ⟨hx, hb, hml, hown, hts⟩ (kX7_draw l D cI ad wn_14 11 hd hI_14 (by omega)) (cwV 1 hts gX7_lots_X7_draw rfl rfl rfl mdX7_draw ⟨Nat.le_of_ble_eq_true rfl, Nat.le_of_ble_eq_true rfl⟩) (r7_pre hK hP) rfl rfl hl.1 rfl (lv_room (Nat.le_of_ble_eq_true rfl)) dX7_lots_89 ⟨Nat.zero_le _, Nat.zero_le _⟩) hS (fun _ _ h => h) (fun _ h => h) (fun rn_15 wn_15 t H locs ht hvm hp_15 hB hz hfr hS => ?_)
                  have hP : va_P D vwCl (RM cI ad wn_15) H := ht ▸ hB
                  obtain ⟨hp_15, hI_15⟩ := hp_15
                  have E := bnd_e E hp_15
                  refine lv_iconst (v := 5) hx hb dX7_lots_92 (by decide) ?_
                  refine lv_isub hx hb dX7_lots_93 ?_
                  have ix_16 : vp_in x7_58 12 := ix_of (by omega) (by omega)
                  refine a7_lean (j := x7_58.toNatClampNeg) hx hb hK hP hd hS ix_16 rfl dX7_lots_94 (fun H locs hP hS => ?_)
                  obtain ⟨wn_16, hwn_16⟩ : ∃ x, x = st wn_15 5 (x7_58.toNatClampNeg) (rn_15 - 5) := ⟨_, rfl⟩
                  rw [← hwn_16] at hP
                  have E := bns_e E hwn_16
                  have hI_16 : R7I wn_16 := by rw [hwn_16]; exact R7I_put_lean hI_15
                  refine lv_iinc (v := x7_58 + 1) (lv' := [(7, .int (x7_58 + 1)), (6, .int x6_49), (5, .int x5_49), (0, .ref (ad 0)), (1, .int a1), (2, .int a2)]) hx hb dX7_lots_95 hl (k := 0) rfl rfl (by decide) rfl (fun ls hl => ?_)
                  refine lv_goto (tgt := 58) hx hb dX7_lots_98 (by decide) ?_
                  try have := i_addr (a := x7_58) (b := 1) (n := 1) q_1 (by omega) (by omega)
                  exact ih_58 (x7_58 + 1) wn_16 H locs ls ⟨by omega, by omega⟩ (by omega) hI_16 hP hS (lv_sub hl [0, 1, 2, 3, 4, 5] rfl) E
            have := q_0
            exact L_58 13 0 w_49 H locs ls ⟨by omega, by omega⟩ (by omega) hI_49 hP hS (lv_sub hl [0, 1, 2, 3, 4, 5] rfl) E
      have := q_0
      exact L_49 31 0 0 wn_6 H locs ls ⟨by omega, by omega⟩ (by omega) hI_6 hP hS (lv_sub hl [0, 1, 3, 4, 5] rfl) E
    · have E := E.trans (if_neg c_4)
      have fc_4 := i_ne c_4
      rw [q_0] at fc_4
      refine lv_aload_n hx hb dX7_lots_25 rfl (lv_at hl 1 rfl) ?_
      refine lv_iload hx hb dX7_lots_26 (lv_at hl 0 rfl) ?_
      refine va_calli (va_runV (As := [.int (sX7_bound a2 1 30)]) (rest := []) ⟨hx, hb, hml, hown, hts⟩ (kX7_no l D cI ad w (sX7_bound a2 1 30) hd hI (by omega) (by omega)) (cwV 1 hts gX7_lots_X7_no rfl rfl rfl mdX7_no ⟨Nat.le_of_ble_eq_true rfl, Nat.le_of_ble_eq_true rfl⟩) (r7_pre hK hP) rfl rfl hl.1 rfl (lv_room (Nat.le_of_ble_eq_true rfl)) dX7_lots_28 ⟨Nat.zero_le _, Nat.zero_le _⟩) hS (fun _ _ h => h) (fun _ h => h) (fun rn_17 wn_17 t H locs ht hvm hp_17 hB hz hfr hS => ?_)
      have hP : va_P D vwCl (RM cI ad wn_17) H := ht ▸ hB
      obtain ⟨hp_17, hI_17⟩ := hp_17
      have E := bnd_e E hp_17
      exact W.iret (v := rn_17) hx hb hr (fun t ht hW => ⟨⟨_, wn_17, rfl, E.symm, by show va_P _ _ _ t.heap; rw [ht]; exact hP⟩, hS.F ht⟩) hS.2.2 dX7_lots_31
  · have E := E.trans (if_pos c_2)
    have fc_2 := i_eq c_2
    rw [q_0] at fc_2
    refine lv_iconst (v := (-1)) hx hb dX7_lots_7 (by decide) ?_
    refine lv_goto (tgt := 18) hx hb dX7_lots_8 (by decide) ?_
    refine lv_istore (lv' := [(4, .int (-1)), (0, .ref (ad 0)), (1, .int a1), (2, .int a2), (3, .int a3)]) hx hb dX7_lots_18 hl (by decide) rfl (fun ls hl => ?_)
    refine lv_iload hx hb dX7_lots_20 (lv_at hl 0 rfl) ?_
    refine lv_if_eq (tgt := 32) hx hb dX7_lots_22 (by decide) (fun z => absurd z (by decide)) (fun _ => ?_)
    refine lv_aload_n hx hb dX7_lots_25 rfl (lv_at hl 1 rfl) ?_
    refine lv_iload hx hb dX7_lots_26 (lv_at hl 0 rfl) ?_
    have := q_m1
    refine va_calli (va_runV (As := [.int (-1)]) (rest := []) ⟨hx, hb, hml, hown, hts⟩ (kX7_no l D cI ad w (-1) hd hI (by omega) (by omega)) (cwV 1 hts gX7_lots_X7_no rfl rfl rfl mdX7_no ⟨Nat.le_of_ble_eq_true rfl, Nat.le_of_ble_eq_true rfl⟩) (r7_pre hK hP) rfl rfl hl.1 rfl (lv_room (Nat.le_of_ble_eq_true rfl)) dX7_lots_28 ⟨Nat.zero_le _, Nat.zero_le _⟩) hS (fun _ _ h => h) (fun _ h => h) (fun rn_18 wn_18 t H locs ht hvm hp_18 hB hz hfr hS => ?_)
    have hP : va_P D vwCl (RM cI ad wn_18) H := ht ▸ hB
    obtain ⟨hp_18, hI_18⟩ := hp_18
    have E := bnd_e E hp_18
    exact W.iret (v := rn_18) hx hb hr (fun t ht hW => ⟨⟨_, wn_18, rfl, E.symm, by show va_P _ _ _ t.heap; rw [ht]; exact hP⟩, hS.F ht⟩) hS.2.2 dX7_lots_31
