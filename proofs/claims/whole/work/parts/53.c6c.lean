abbrev rmX6_whose : Room := { frames := 3, cells := 0, slots := 0, locals := 67 }
set_option maxHeartbeats 4000000 in
set_option maxRecDepth 100000 in
theorem kX6_whose (l : Launch) (D : va_G) (cI cC cQ : ClassId) (ad : Nat → Nat → Nat) (sd aK aV : Nat → Nat) (w : Nat → Nat → Nat → Int32) (a1 : Int32) (a2 : Int32) (hd : MD ad) (hI : R6I w)  : Met l yX6_whose wsX6_whose rmX6_whose (va_Pc [Value.ref (ad 5 0), Value.int a1, Value.int a2] (fun U => va_P D vwCl (MWL cI cC cQ ad w) U.heap ∧ va_K D vwCl [(cI, .int), (cC, .char), (cQ, .object "LoadedForTheLane$Way")] U ∧ NW U ∧ SE sd (MA ad) U U.heap ∧ STR aK aV (MA ad) U U.heap)) (va_Qi (fun r u => (r, u) = sX6_whose w a1 a2 ∧ R6I u) (fun u t => va_P D vwCl (MWL cI cC cQ ad u) t.heap) (MA ad)) 0 0 (MA ad) := by
  refine Met.ofW (cc := cX6_whose) (maxL := 7) (ret := (some .int)) (by decide) rfl ?_
  intro p e s m args below meth c s₁ B hml hv
  obtain ⟨rfl, hP, hK, hN, hSE, hST⟩ := hv
  have hx := B.exec
  have hb := B.bytes
  have hr := B.returns
  have hts := atoms_spec (ws := wsX6_whose) B.pre
  have hown : s.vm.findClass RX6 = some m.cls := findClass_of_methodNamed B.named
  have hlocks := B.notSynchronized
  have hin4 : ∀ q ∈ wsX40, q ∈ wsX6_whose := by decide +kernel
  have hin6 : ∀ q ∈ wsX60, q ∈ wsX6_whose := by decide +kernel
  have hl := lv_entry ([.ref (ad 5 0), .int a1, .int a2]) (n := 7) (Nat.le_of_ble_eq_true rfl)
  rw [lg_entry_eq]
  generalize (lg_sl ([.ref (ad 5 0), .int a1, .int a2]) ++ List.replicate (7 - (lg_sl ([.ref (ad 5 0), .int a1, .int a2])).length) Slot.unset).toArray = ls at hl ⊢
  have hl : lv_has ls 7 [(0, .ref (ad 5 0)), (1, .int a1), (2, .int a2)] := hl
  suffices hgo : ∀ (H : Heap) (locs : List Loc), va_P D vwCl (MWL cI cC cQ ad w) H → va_S (MA ad) s.heap H locs → W p l e (headSpec wsX6_whose rmX6_whose).room s m [Value.ref (ad 5 0), Value.int a1, Value.int a2].toArray below meth c H locs 0 0 (MQ below (va_Qi (fun r u => (r, u) = sX6_whose w a1 a2 ∧ R6I u) (fun u t => va_P D vwCl (MWL cI cC cQ ad u) t.heap) (MA ad)) [Value.ref (ad 5 0), Value.int a1, Value.int a2].toArray s 0 0 (MA ad)) (F0 m 0 ls []) from hgo s.heap [] hP va_S.rf
  intro H locs hP hS
  have E := sX6_whose.eq_1 w a1 a2
  refine lv_aload_n hx hb dX6_whose_0 rfl (lv_at hl 0 rfl) ?_
  refine g6_wagon hx hb hts hin6 hown hK hP (hts (.fieldLink RX6 10 "LoadedForTheLane" "wagon" "LLoadedForTheLane$Wagon;") (by decide +kernel)) dX6_whose_1 ?_
  refine lv_iload_n hx hb dX6_whose_4 rfl (lv_at hl 1 rfl) ?_
  refine lv_iload_n hx hb dX6_whose_5 rfl (lv_at hl 2 rfl) ?_
  refine vp_callSi (va_Run.run (va_runVN (As := [.int a1, .int a2]) (rest := []) ⟨hx, hb, hml, hown, hts⟩ (kX4_hasPiece l D cI cC cQ (ad 0) (w 0) a1 a2) ⟨va_cnB 2 hts gX6_whose_X4_hasPiece_n157 rfl rfl rfl (nm_RX6_157 hN) (hts (.initialized RX4) (by decide +kernel)) mdsX4_hasPiece ⟨Nat.le_of_ble_eq_true rfl, Nat.le_of_ble_eq_true rfl⟩, hts (.instanceMethod yX4_hasPiece) (by decide +kernel), hts (.selects RX4 yX4_hasPiece yX4_hasPiece) (by decide +kernel)⟩ (x4_pre hK (mp_0 hP) hN) rfl rfl hl.1 rfl (lv_room (Nat.le_of_ble_eq_true rfl)) dX6_whose_6 ⟨Nat.zero_le _, Nat.zero_le _⟩)) (fun rn_1 hr_1 => ?_)
  obtain ⟨rfl, hz_1⟩ := hr_1
  refine lv_if_ne (tgt := 18) hx hb dX6_whose_9 (by decide) (fun c_2 => ?_) (fun c_2 => ?_)
  · have E := E.trans (if_neg c_2)
    have fc_2 := i_ne c_2
    rw [q_0] at fc_2
    have gc_2 := fX4_hasPiece c_2
    have gpc_2 := R4I_pieces (R6I_0 hI) (k := a1.toNatClampNeg) (by have := ix_cl (x := a1) (by omega); omega)
    refine lv_bipush (v := (-9)) hx hb dX6_whose_18 (by decide +kernel) ?_
    refine lv_istore_n (lv' := [(3, .int (-9)), (0, .ref (ad 5 0)), (1, .int a1), (2, .int a2)]) hx hb dX6_whose_20 rfl hl (by decide) rfl (fun ls hl => ?_)
    refine lv_ldc (own := RX6) (v := 2147483647) hx hb hown (hts (.constant RX6 206 (2147483647)) (by decide +kernel)) dX6_whose_21 ?_
    refine lv_istore (lv' := [(4, .int 2147483647), (3, .int (-9)), (0, .ref (ad 5 0)), (1, .int a1), (2, .int a2)]) hx hb dX6_whose_23 hl (by decide) rfl (fun ls hl => ?_)
    refine lv_iconst (v := 0) hx hb dX6_whose_25 (by decide) ?_
    refine lv_istore (lv' := [(5, .int 0), (4, .int 2147483647), (3, .int (-9)), (0, .ref (ad 5 0)), (1, .int a1), (2, .int a2)]) hx hb dX6_whose_26 hl (by decide) rfl (fun ls hl => ?_)
    have L_28 : ∀ (n_28 : Nat) (x3_28 : Int32) (x4_28 : Int32) (x5_28 : Int32) (ls : Array Slot), ((0 ≤ x5_28.toInt) ∧ (x5_28.toInt ≤ 12)) → (12 - x5_28.toInt < (n_28 : Int)) → lv_has ls 7 [(5, .int x5_28), (4, .int x4_28), (3, .int x3_28), (0, .ref (ad 5 0)), (1, .int a1), (2, .int a2)] → sX6_whose w a1 a2 = sX6_whose_28 w a1 a2 n_28 x3_28 x4_28 x5_28 → W p l e (headSpec wsX6_whose rmX6_whose).room s m [Value.ref (ad 5 0), Value.int a1, Value.int a2].toArray below meth c H locs 0 0 (MQ below (va_Qi (fun r u => (r, u) = sX6_whose w a1 a2 ∧ R6I u) (fun u t => va_P D vwCl (MWL cI cC cQ ad u) t.heap) (MA ad)) [Value.ref (ad 5 0), Value.int a1, Value.int a2].toArray s 0 0 (MA ad)) (F0 m 28 ls []) := by
      intro n_28
      induction n_28 with
      | zero =>
        intro x3_28 x4_28 x5_28 ls hinv hm
        obtain ⟨v0_28, v1_28⟩ := hinv
        exact absurd hm (by omega)
      | succ n_28 ih_28 =>
        intro x3_28 x4_28 x5_28 ls hinv hm_28 hl E
        obtain ⟨v0_28, v1_28⟩ := hinv
        have E := E.trans (sX6_whose_28.eq_2 ..)
        refine lv_iload hx hb dX6_whose_28 (lv_at hl 0 rfl) ?_
        refine lv_aload_n hx hb dX6_whose_30 rfl (lv_at hl 3 rfl) ?_
        refine g6_wagon hx hb hts hin6 hown hK hP (hts (.fieldLink RX6 10 "LoadedForTheLane" "wagon" "LLoadedForTheLane$Wagon;") (by decide +kernel)) dX6_whose_31 ?_
        refine g4_layersn hx hb hts hin4 hown hK (mp_0 hP) (nf_RX6_99 hN) dX6_whose_34 ?_
        have f_3 := R4I_layers (R6I_0 hI)
        refine lv_icmp_ge (tgt := 97) hx hb dX6_whose_37 (by decide) (fun c_4 => ?_) (fun c_4 => ?_)
        · have E := E.trans (if_pos c_4)
          have fc_4 := i_le c_4
          refine lv_iload_n hx hb dX6_whose_97 rfl (lv_at hl 2 rfl) ?_
          exact W.iret (v := x3_28) hx hb hr (fun t ht hW => ⟨⟨_, w, rfl, ⟨E.symm, hI⟩, by show va_P _ _ _ t.heap; rw [ht]; exact hP⟩, hS.F ht⟩) hS.2.2 dX6_whose_98
        · have E := E.trans (if_neg c_4)
          have fc_4 := i_nle c_4
          refine lv_aload_n hx hb dX6_whose_40 rfl (lv_at hl 3 rfl) ?_
          refine g6_wagon hx hb hts hin6 hown hK hP (hts (.fieldLink RX6 10 "LoadedForTheLane" "wagon" "LLoadedForTheLane$Wagon;") (by decide +kernel)) dX6_whose_41 ?_
          refine lv_iload_n hx hb dX6_whose_44 rfl (lv_at hl 4 rfl) ?_
          refine lv_iload_n hx hb dX6_whose_45 rfl (lv_at hl 5 rfl) ?_
          refine lv_iload hx hb dX6_whose_46 (lv_at hl 0 rfl) ?_
          refine vp_callSi (va_Run.run (va_runVN (As := [.int a1, .int a2, .int x5_28]) (rest := []) ⟨hx, hb, hml, hown, hts⟩ (kX4_shiftOf l D cI cC cQ (ad 0) (w 0) a1 a2 x5_28 (by omega) (by omega) (by omega) (by omega) (by omega) (by omega)) ⟨va_cnB 3 hts gX6_whose_X4_shiftOf_n176 rfl rfl rfl (nm_RX6_176 hN) (hts (.initialized RX4) (by decide +kernel)) mdsX4_shiftOf ⟨Nat.le_of_ble_eq_true rfl, Nat.le_of_ble_eq_true rfl⟩, hts (.instanceMethod yX4_shiftOf) (by decide +kernel), hts (.selects RX4 yX4_shiftOf yX4_shiftOf) (by decide +kernel)⟩ (x4_pre hK (mp_0 hP) hN) rfl rfl hl.1 rfl (lv_room (Nat.le_of_ble_eq_true rfl)) dX6_whose_48 ⟨Nat.zero_le _, Nat.zero_le _⟩)) (fun rn_5 hr_5 => ?_)
          subst hr_5
          refine lv_aload_n hx hb dX6_whose_51 rfl (lv_at hl 3 rfl) ?_
          refine g6_wagon hx hb hts hin6 hown hK hP (hts (.fieldLink RX6 10 "LoadedForTheLane" "wagon" "LLoadedForTheLane$Wagon;") (by decide +kernel)) dX6_whose_52 ?_
          refine lv_iload hx hb dX6_whose_55 (lv_at hl 0 rfl) ?_
          refine vp_callSi (va_Run.run (va_runVN (As := [.int x5_28]) (rest := [.int (sX4_shiftOf (w 0) a1 a2 x5_28)]) ⟨hx, hb, hml, hown, hts⟩ (kX4_strengthOf l D cI cC cQ (ad 0) (w 0) x5_28 (by omega) (by omega)) ⟨va_cnB 1 hts gX6_whose_X4_strengthOf_n239 rfl rfl rfl (nm_RX6_239 hN) (hts (.initialized RX4) (by decide +kernel)) mdsX4_strengthOf ⟨Nat.le_of_ble_eq_true rfl, Nat.le_of_ble_eq_true rfl⟩, hts (.instanceMethod yX4_strengthOf) (by decide +kernel), hts (.selects RX4 yX4_strengthOf yX4_strengthOf) (by decide +kernel)⟩ (x4_pre hK (mp_0 hP) hN) rfl rfl hl.1 rfl (lv_room (Nat.le_of_ble_eq_true rfl)) dX6_whose_57 ⟨Nat.zero_le _, Nat.zero_le _⟩)) (fun rn_6 hr_6 => ?_)
          subst hr_6
          refine lv_isub hx hb dX6_whose_60 ?_
          refine lv_istore (lv' := [(6, .int ((sX4_shiftOf (w 0) a1 a2 x5_28) - (sX4_strengthOf (w 0) x5_28))), (5, .int x5_28), (4, .int x4_28), (3, .int x3_28), (0, .ref (ad 5 0)), (1, .int a1), (2, .int a2)]) hx hb dX6_whose_61 hl (by decide) rfl (fun ls hl => ?_)
          refine lv_aload_n hx hb dX6_whose_63 rfl (lv_at hl 4 rfl) ?_
          refine g6_wagon hx hb hts hin6 hown hK hP (hts (.fieldLink RX6 10 "LoadedForTheLane" "wagon" "LLoadedForTheLane$Wagon;") (by decide +kernel)) dX6_whose_64 ?_
          refine lv_iload_n hx hb dX6_whose_67 rfl (lv_at hl 5 rfl) ?_
          refine lv_iload_n hx hb dX6_whose_68 rfl (lv_at hl 6 rfl) ?_
          refine lv_iload hx hb dX6_whose_69 (lv_at hl 1 rfl) ?_
          refine vp_callSi (va_Run.run (va_runVN (As := [.int a1, .int a2, .int x5_28]) (rest := []) ⟨hx, hb, hml, hown, hts⟩ (kX4_slipsAt l D cI cC cQ (ad 0) (w 0) a1 a2 x5_28 (R6I_0 hI) (by omega) (by omega) (by omega) (by omega) (by omega) (by omega)) ⟨va_cnB 3 hts gX6_whose_X4_slipsAt_n236 rfl rfl rfl (nm_RX6_236 hN) (hts (.initialized RX4) (by decide +kernel)) mdsX4_slipsAt ⟨Nat.le_of_ble_eq_true rfl, Nat.le_of_ble_eq_true rfl⟩, hts (.instanceMethod yX4_slipsAt) (by decide +kernel), hts (.selects RX4 yX4_slipsAt yX4_slipsAt) (by decide +kernel)⟩ (x4_pre hK (mp_0 hP) hN) rfl rfl hl.1 rfl (lv_room (Nat.le_of_ble_eq_true rfl)) dX6_whose_71 ⟨Nat.zero_le _, Nat.zero_le _⟩)) (fun rn_7 hr_7 => ?_)
          obtain ⟨rfl, hz_7⟩ := hr_7
          refine lv_if_eq (tgt := 91) hx hb dX6_whose_74 (by decide) (fun c_8 => ?_) (fun c_8 => ?_)
          · have E := E.trans (if_pos c_8)
            have fc_8 := i_eq c_8
            rw [q_0] at fc_8
            refine lv_iinc (v := x5_28 + 1) (lv' := [(5, .int (x5_28 + 1)), (6, .int ((sX4_shiftOf (w 0) a1 a2 x5_28) - (sX4_strengthOf (w 0) x5_28))), (4, .int x4_28), (3, .int x3_28), (0, .ref (ad 5 0)), (1, .int a1), (2, .int a2)]) hx hb dX6_whose_91 hl (k := 1) rfl rfl (by decide) rfl (fun ls hl => ?_)
            refine lv_goto (tgt := 28) hx hb dX6_whose_94 (by decide) ?_
            try have := i_addr (a := x5_28) (b := 1) (n := 1) q_1 (by omega) (by omega)
            exact ih_28 x3_28 x4_28 (x5_28 + 1) ls ⟨by omega, by omega⟩ (by omega) (lv_sub hl [0, 2, 3, 4, 5, 6] rfl) E
          · have E := E.trans (if_neg c_8)
            have fc_8 := i_ne c_8
            rw [q_0] at fc_8
            refine lv_iload hx hb dX6_whose_77 (lv_at hl 0 rfl) ?_
            refine lv_iload hx hb dX6_whose_79 (lv_at hl 2 rfl) ?_
            try have := i_sub (a := (sX4_shiftOf (w 0) a1 a2 x5_28)) (b := (sX4_strengthOf (w 0) x5_28)) (by omega) (by omega)
            refine lv_icmp_ge (tgt := 91) hx hb dX6_whose_81 (by decide) (fun c_9 => ?_) (fun c_9 => ?_)
            · have E := E.trans (if_pos c_9)
              have fc_9 := i_le c_9
              refine lv_iinc (v := x5_28 + 1) (lv' := [(5, .int (x5_28 + 1)), (6, .int ((sX4_shiftOf (w 0) a1 a2 x5_28) - (sX4_strengthOf (w 0) x5_28))), (4, .int x4_28), (3, .int x3_28), (0, .ref (ad 5 0)), (1, .int a1), (2, .int a2)]) hx hb dX6_whose_91 hl (k := 1) rfl rfl (by decide) rfl (fun ls hl => ?_)
              refine lv_goto (tgt := 28) hx hb dX6_whose_94 (by decide) ?_
              try have := i_addr (a := x5_28) (b := 1) (n := 1) q_1 (by omega) (by omega)
              exact ih_28 x3_28 x4_28 (x5_28 + 1) ls ⟨by omega, by omega⟩ (by omega) (lv_sub hl [0, 2, 3, 4, 5, 6] rfl) E
            · have E := E.trans (if_neg c_9)
              have fc_9 := i_nle c_9
              refine lv_iload hx hb dX6_whose_84 (lv_at hl 1 rfl) ?_
              refine lv_istore_n (lv' := [(3, .int x5_28), (6, .int ((sX4_shiftOf (w 0) a1 a2 x5_28) - (sX4_strengthOf (w 0) x5_28))), (5, .int x5_28), (4, .int x4_28), (0, .ref (ad 5 0)), (1, .int a1), (2, .int a2)]) hx hb dX6_whose_86 rfl hl (by decide) rfl (fun ls hl => ?_)
              refine lv_iload hx hb dX6_whose_87 (lv_at hl 1 rfl) ?_
              refine lv_istore (lv' := [(4, .int ((sX4_shiftOf (w 0) a1 a2 x5_28) - (sX4_strengthOf (w 0) x5_28))), (3, .int x5_28), (6, .int ((sX4_shiftOf (w 0) a1 a2 x5_28) - (sX4_strengthOf (w 0) x5_28))), (5, .int x5_28), (0, .ref (ad 5 0)), (1, .int a1), (2, .int a2)]) hx hb dX6_whose_89 hl (by decide) rfl (fun ls hl => ?_)
              refine lv_iinc (v := x5_28 + 1) (lv' := [(5, .int (x5_28 + 1)), (4, .int ((sX4_shiftOf (w 0) a1 a2 x5_28) - (sX4_strengthOf (w 0) x5_28))), (3, .int x5_28), (6, .int ((sX4_shiftOf (w 0) a1 a2 x5_28) - (sX4_strengthOf (w 0) x5_28))), (0, .ref (ad 5 0)), (1, .int a1), (2, .int a2)]) hx hb dX6_whose_91 hl (k := 3) rfl rfl (by decide) rfl (fun ls hl => ?_)
              refine lv_goto (tgt := 28) hx hb dX6_whose_94 (by decide) ?_
              try have := i_addr (a := x5_28) (b := 1) (n := 1) q_1 (by omega) (by omega)
              exact ih_28 x5_28 ((sX4_shiftOf (w 0) a1 a2 x5_28) - (sX4_strengthOf (w 0) x5_28)) (x5_28 + 1) ls ⟨by omega, by omega⟩ (by omega) (lv_sub hl [0, 1, 2, 4, 5, 6] rfl) E
    have := q_0
    exact L_28 13 ((-9)) 2147483647 0 ls ⟨by omega, by omega⟩ (by omega) (lv_sub hl [0, 1, 2, 3, 4, 5] rfl) E
  · have E := E.trans (if_pos c_2)
    have fc_2 := i_eq c_2
    rw [q_0] at fc_2
    refine lv_aload_n hx hb dX6_whose_12 rfl (lv_at hl 0 rfl) ?_
    refine lv_iconst (v := (-1)) hx hb dX6_whose_13 (by decide) ?_
    refine va_calli (va_runV (As := [.int (-1)]) (rest := []) ⟨hx, hb, hml, hown, hts⟩ (kX6_refuse l D cI cC cQ ad sd aK aV w (-1) hd hI) (cwV 1 hts gX6_whose_X6_refuse rfl rfl rfl mdX6_refuse ⟨Nat.le_of_ble_eq_true rfl, Nat.le_of_ble_eq_true rfl⟩) (x6_pre hK hP hN hSE hST hS) rfl rfl hl.1 rfl (lv_room (Nat.le_of_ble_eq_true rfl)) dX6_whose_14 ⟨Nat.zero_le _, Nat.zero_le _⟩) hS (fun _ _ h => h) (fun _ h => h) (fun rn_10 wn_10 t H locs ht hvm hp_10 hB hz hfr hS => ?_)
    obtain ⟨hp_10, hJ_10⟩ := hp_10
    have E := bnd_e E hp_10
    have hP : va_P D vwCl (MWL cI cC cQ ad wn_10) H := ht ▸ hB
    exact W.iret (v := rn_10) hx hb hr (fun t ht hW => ⟨⟨_, wn_10, rfl, ⟨E.symm, hJ_10⟩, by show va_P _ _ _ t.heap; rw [ht]; exact hP⟩, hS.F ht⟩) hS.2.2 dX6_whose_17
abbrev rmX6_boundBy : Room := { frames := 2, cells := 0, slots := 0, locals := 46 }
set_option maxHeartbeats 4000000 in
set_option maxRecDepth 100000 in
theorem kX6_boundBy (l : Launch) (D : va_G) (cI cC cQ : ClassId) (ad : Nat → Nat → Nat) (sd aK aV : Nat → Nat) (w : Nat → Nat → Nat → Int32) (a1 : Int32) (a2 : Int32) (hd : MD ad) (hI : R6I w)  : Met l yX6_boundBy wsX6_boundBy rmX6_boundBy (va_Pc [Value.ref (ad 5 0), Value.int a1, Value.int a2] (fun U => va_P D vwCl (MWL cI cC cQ ad w) U.heap ∧ va_K D vwCl [(cI, .int), (cC, .char), (cQ, .object "LoadedForTheLane$Way")] U ∧ NW U ∧ SE sd (MA ad) U U.heap ∧ STR aK aV (MA ad) U U.heap)) (va_Qi (fun r u => (r, u) = sX6_boundBy w a1 a2 ∧ R6I u) (fun u t => va_P D vwCl (MWL cI cC cQ ad u) t.heap) (MA ad)) 0 0 (MA ad) := by
  refine Met.ofW (cc := cX6_boundBy) (maxL := 3) (ret := (some .int)) (by decide) rfl ?_
  intro p e s m args below meth c s₁ B hml hv
  obtain ⟨rfl, hP, hK, hN, hSE, hST⟩ := hv
  have hx := B.exec
  have hb := B.bytes
  have hr := B.returns
  have hts := atoms_spec (ws := wsX6_boundBy) B.pre
  have hown : s.vm.findClass RX6 = some m.cls := findClass_of_methodNamed B.named
  have hlocks := B.notSynchronized
  have hin6 : ∀ q ∈ wsX60, q ∈ wsX6_boundBy := by decide +kernel
  have hl := lv_entry ([.ref (ad 5 0), .int a1, .int a2]) (n := 3) (Nat.le_of_ble_eq_true rfl)
  rw [lg_entry_eq]
  generalize (lg_sl ([.ref (ad 5 0), .int a1, .int a2]) ++ List.replicate (3 - (lg_sl ([.ref (ad 5 0), .int a1, .int a2])).length) Slot.unset).toArray = ls at hl ⊢
  have hl : lv_has ls 3 [(0, .ref (ad 5 0)), (1, .int a1), (2, .int a2)] := hl
  suffices hgo : ∀ (H : Heap) (locs : List Loc), va_P D vwCl (MWL cI cC cQ ad w) H → va_S (MA ad) s.heap H locs → W p l e (headSpec wsX6_boundBy rmX6_boundBy).room s m [Value.ref (ad 5 0), Value.int a1, Value.int a2].toArray below meth c H locs 0 0 (MQ below (va_Qi (fun r u => (r, u) = sX6_boundBy w a1 a2 ∧ R6I u) (fun u t => va_P D vwCl (MWL cI cC cQ ad u) t.heap) (MA ad)) [Value.ref (ad 5 0), Value.int a1, Value.int a2].toArray s 0 0 (MA ad)) (F0 m 0 ls []) from hgo s.heap [] hP va_S.rf
  intro H locs hP hS
  have E := sX6_boundBy.eq_1 w a1 a2
  refine lv_iload_n hx hb dX6_boundBy_0 rfl (lv_at hl 1 rfl) ?_
  refine lv_if_ge (tgt := 11) hx hb dX6_boundBy_1 (by decide) (fun c_1 => ?_) (fun c_1 => ?_)
  · have E := E.trans (if_pos c_1)
    have fc_1 := i_le c_1
    rw [q_0] at fc_1
    refine lv_iload_n hx hb dX6_boundBy_11 rfl (lv_at hl 1 rfl) ?_
    refine lv_sipush (v := 999) hx hb dX6_boundBy_12 (by decide +kernel) ?_
    refine lv_icmp_le (tgt := 25) hx hb dX6_boundBy_15 (by decide) (fun c_2 => ?_) (fun c_2 => ?_)
    · have E := E.trans (if_pos c_2)
      have fc_2 := i_le c_2
      rw [q_999] at fc_2
      refine lv_iload_n hx hb dX6_boundBy_25 rfl (lv_at hl 2 rfl) ?_
      refine lv_if_lt (tgt := 34) hx hb dX6_boundBy_26 (by decide) (fun c_3 => ?_) (fun c_3 => ?_)
      · have E := E.trans (if_pos c_3)
        have fc_3 := i_lt c_3
        rw [q_0] at fc_3
        refine lv_aload_n hx hb dX6_boundBy_34 rfl (lv_at hl 0 rfl) ?_
        refine lv_bipush (v := (-2)) hx hb dX6_boundBy_35 (by decide +kernel) ?_
        refine va_calli (va_runV (As := [.int (-2)]) (rest := []) ⟨hx, hb, hml, hown, hts⟩ (kX6_refuse l D cI cC cQ ad sd aK aV w (-2) hd hI) (cwV 1 hts gX6_boundBy_X6_refuse rfl rfl rfl mdX6_refuse ⟨Nat.le_of_ble_eq_true rfl, Nat.le_of_ble_eq_true rfl⟩) (x6_pre hK hP hN hSE hST hS) rfl rfl hl.1 rfl (lv_room (Nat.le_of_ble_eq_true rfl)) dX6_boundBy_37 ⟨Nat.zero_le _, Nat.zero_le _⟩) hS (fun _ _ h => h) (fun _ h => h) (fun rn_4 wn_4 t H locs ht hvm hp_4 hB hz hfr hS => ?_)
        obtain ⟨hp_4, hJ_4⟩ := hp_4
        have E := bnd_e E hp_4
        have hP : va_P D vwCl (MWL cI cC cQ ad wn_4) H := ht ▸ hB
        exact W.iret (v := rn_4) hx hb hr (fun t ht hW => ⟨⟨_, wn_4, rfl, ⟨E.symm, hJ_4⟩, by show va_P _ _ _ t.heap; rw [ht]; exact hP⟩, hS.F ht⟩) hS.2.2 dX6_boundBy_40
      · have E := E.trans (if_neg c_3)
        have fc_3 := i_nlt c_3
        rw [q_0] at fc_3
        refine lv_iload_n hx hb dX6_boundBy_29 rfl (lv_at hl 2 rfl) ?_
        refine lv_iconst (v := 1) hx hb dX6_boundBy_30 (by decide) ?_
        refine lv_icmp_le (tgt := 41) hx hb dX6_boundBy_31 (by decide) (fun c_5 => ?_) (fun c_5 => ?_)
        · have E := E.trans (if_pos c_5)
          have fc_5 := i_le c_5
          rw [q_1] at fc_5
          refine lv_aload_n hx hb dX6_boundBy_41 rfl (lv_at hl 0 rfl) ?_
          refine g6_told hx hb hts hin6 hown hK hP (hts (.fieldLink RX6 36 "LoadedForTheLane" "told" "LLoadedForTheLane$Row;") (by decide +kernel)) dX6_boundBy_42 ?_
          refine vp_callSi (va_Run.run (va_runVN (As := []) (rest := []) ⟨hx, hb, hml, hown, hts⟩ (kX3_isOfTrials l D cI cC cQ (ad 4) (w 4) (R6I_4 hI)) ⟨va_cnB 0 hts gX6_boundBy_X3_isOfTrials_n242 rfl rfl rfl (nm_RX6_242 hN) (hts (.initialized RX3) (by decide +kernel)) mdsX3_isOfTrials ⟨Nat.le_of_ble_eq_true rfl, Nat.le_of_ble_eq_true rfl⟩, hts (.instanceMethod yX3_isOfTrials) (by decide +kernel), hts (.selects RX3 yX3_isOfTrials yX3_isOfTrials) (by decide +kernel)⟩ (x3_pre hK (mp_4 hP)) rfl rfl hl.1 rfl (lv_room (Nat.le_of_ble_eq_true rfl)) dX6_boundBy_45 ⟨Nat.zero_le _, Nat.zero_le _⟩)) (fun rn_6 hr_6 => ?_)
          obtain ⟨rfl, hz_6⟩ := hr_6
          refine lv_if_ne (tgt := 58) hx hb dX6_boundBy_48 (by decide) (fun c_7 => ?_) (fun c_7 => ?_)
          · have E := E.trans (if_neg c_7)
            have fc_7 := i_ne c_7
            rw [q_0] at fc_7
            refine lv_iload_n hx hb dX6_boundBy_58 rfl (lv_at hl 2 rfl) ?_
            refine lv_if_ne (tgt := 73) hx hb dX6_boundBy_59 (by decide) (fun c_8 => ?_) (fun c_8 => ?_)
            · have E := E.trans (if_neg c_8)
              have fc_8 := i_ne c_8
              rw [q_0] at fc_8
              refine lv_aload_n hx hb dX6_boundBy_73 rfl (lv_at hl 0 rfl) ?_
              refine g6_told hx hb hts hin6 hown hK hP (hts (.fieldLink RX6 36 "LoadedForTheLane" "told" "LLoadedForTheLane$Row;") (by decide +kernel)) dX6_boundBy_74 ?_
              refine lv_iload_n hx hb dX6_boundBy_77 rfl (lv_at hl 1 rfl) ?_
              refine vp_callSi (va_Run.run (va_runVN (As := [.int a1]) (rest := []) ⟨hx, hb, hml, hown, hts⟩ (kX3_greatestBinding l D cI cC cQ (ad 4) (w 4) a1 (R6I_4 hI)) ⟨va_cnB 1 hts gX6_boundBy_X3_greatestBinding_n248 rfl rfl rfl (nm_RX6_248 hN) (hts (.initialized RX3) (by decide +kernel)) mdsX3_greatestBinding ⟨Nat.le_of_ble_eq_true rfl, Nat.le_of_ble_eq_true rfl⟩, hts (.instanceMethod yX3_greatestBinding) (by decide +kernel), hts (.selects RX3 yX3_greatestBinding yX3_greatestBinding) (by decide +kernel)⟩ (x3_pre hK (mp_4 hP)) rfl rfl hl.1 rfl (lv_room (Nat.le_of_ble_eq_true rfl)) dX6_boundBy_78 ⟨Nat.zero_le _, Nat.zero_le _⟩)) (fun rn_9 hr_9 => ?_)
              subst hr_9
              exact W.iret (v := (sX3_greatestBinding (w 4) a1)) hx hb hr (fun t ht hW => ⟨⟨_, w, rfl, ⟨E.symm, hI⟩, by show va_P _ _ _ t.heap; rw [ht]; exact hP⟩, hS.F ht⟩) hS.2.2 dX6_boundBy_81
            · have E := E.trans (if_pos c_8)
              have fc_8 := i_eq c_8
              rw [q_0] at fc_8
              refine lv_aload_n hx hb dX6_boundBy_62 rfl (lv_at hl 0 rfl) ?_
              refine g6_told hx hb hts hin6 hown hK hP (hts (.fieldLink RX6 36 "LoadedForTheLane" "told" "LLoadedForTheLane$Row;") (by decide +kernel)) dX6_boundBy_63 ?_
              refine lv_iload_n hx hb dX6_boundBy_66 rfl (lv_at hl 1 rfl) ?_
              refine vp_callSi (va_Run.run (va_runVN (As := [.int a1]) (rest := []) ⟨hx, hb, hml, hown, hts⟩ (kX3_leastBinding l D cI cC cQ (ad 4) (w 4) a1 (R6I_4 hI)) ⟨va_cnB 1 hts gX6_boundBy_X3_leastBinding_n245 rfl rfl rfl (nm_RX6_245 hN) (hts (.initialized RX3) (by decide +kernel)) mdsX3_leastBinding ⟨Nat.le_of_ble_eq_true rfl, Nat.le_of_ble_eq_true rfl⟩, hts (.instanceMethod yX3_leastBinding) (by decide +kernel), hts (.selects RX3 yX3_leastBinding yX3_leastBinding) (by decide +kernel)⟩ (x3_pre hK (mp_4 hP)) rfl rfl hl.1 rfl (lv_room (Nat.le_of_ble_eq_true rfl)) dX6_boundBy_67 ⟨Nat.zero_le _, Nat.zero_le _⟩)) (fun rn_10 hr_10 => ?_)
              subst hr_10
              refine lv_goto (tgt := 81) hx hb dX6_boundBy_70 (by decide) ?_
              exact W.iret (v := (sX3_leastBinding (w 4) a1)) hx hb hr (fun t ht hW => ⟨⟨_, w, rfl, ⟨E.symm, hI⟩, by show va_P _ _ _ t.heap; rw [ht]; exact hP⟩, hS.F ht⟩) hS.2.2 dX6_boundBy_81
          · have E := E.trans (if_pos c_7)
            have fc_7 := i_eq c_7
            rw [q_0] at fc_7
            refine lv_aload_n hx hb dX6_boundBy_51 rfl (lv_at hl 0 rfl) ?_
            refine lv_bipush (v := (-3)) hx hb dX6_boundBy_52 (by decide +kernel) ?_
            refine va_calli (va_runV (As := [.int (-3)]) (rest := []) ⟨hx, hb, hml, hown, hts⟩ (kX6_refuse l D cI cC cQ ad sd aK aV w (-3) hd hI) (cwV 1 hts gX6_boundBy_X6_refuse rfl rfl rfl mdX6_refuse ⟨Nat.le_of_ble_eq_true rfl, Nat.le_of_ble_eq_true rfl⟩) (x6_pre hK hP hN hSE hST hS) rfl rfl hl.1 rfl (lv_room (Nat.le_of_ble_eq_true rfl)) dX6_boundBy_54 ⟨Nat.zero_le _, Nat.zero_le _⟩) hS (fun _ _ h => h) (fun _ h => h) (fun rn_11 wn_11 t H locs ht hvm hp_11 hB hz hfr hS => ?_)
            obtain ⟨hp_11, hJ_11⟩ := hp_11
            have E := bnd_e E hp_11
            have hP : va_P D vwCl (MWL cI cC cQ ad wn_11) H := ht ▸ hB
            exact W.iret (v := rn_11) hx hb hr (fun t ht hW => ⟨⟨_, wn_11, rfl, ⟨E.symm, hJ_11⟩, by show va_P _ _ _ t.heap; rw [ht]; exact hP⟩, hS.F ht⟩) hS.2.2 dX6_boundBy_57
        · have E := E.trans (if_neg c_5)
          have fc_5 := i_nle c_5
          rw [q_1] at fc_5
          refine lv_aload_n hx hb dX6_boundBy_34 rfl (lv_at hl 0 rfl) ?_
          refine lv_bipush (v := (-2)) hx hb dX6_boundBy_35 (by decide +kernel) ?_
          refine va_calli (va_runV (As := [.int (-2)]) (rest := []) ⟨hx, hb, hml, hown, hts⟩ (kX6_refuse l D cI cC cQ ad sd aK aV w (-2) hd hI) (cwV 1 hts gX6_boundBy_X6_refuse rfl rfl rfl mdX6_refuse ⟨Nat.le_of_ble_eq_true rfl, Nat.le_of_ble_eq_true rfl⟩) (x6_pre hK hP hN hSE hST hS) rfl rfl hl.1 rfl (lv_room (Nat.le_of_ble_eq_true rfl)) dX6_boundBy_37 ⟨Nat.zero_le _, Nat.zero_le _⟩) hS (fun _ _ h => h) (fun _ h => h) (fun rn_12 wn_12 t H locs ht hvm hp_12 hB hz hfr hS => ?_)
          obtain ⟨hp_12, hJ_12⟩ := hp_12
          have E := bnd_e E hp_12
          have hP : va_P D vwCl (MWL cI cC cQ ad wn_12) H := ht ▸ hB
          exact W.iret (v := rn_12) hx hb hr (fun t ht hW => ⟨⟨_, wn_12, rfl, ⟨E.symm, hJ_12⟩, by show va_P _ _ _ t.heap; rw [ht]; exact hP⟩, hS.F ht⟩) hS.2.2 dX6_boundBy_40
    · have E := E.trans (if_neg c_2)
      have fc_2 := i_nle c_2
      rw [q_999] at fc_2
      refine lv_aload_n hx hb dX6_boundBy_18 rfl (lv_at hl 0 rfl) ?_
      refine lv_bipush (v := (-6)) hx hb dX6_boundBy_19 (by decide +kernel) ?_
      refine va_calli (va_runV (As := [.int (-6)]) (rest := []) ⟨hx, hb, hml, hown, hts⟩ (kX6_refuse l D cI cC cQ ad sd aK aV w (-6) hd hI) (cwV 1 hts gX6_boundBy_X6_refuse rfl rfl rfl mdX6_refuse ⟨Nat.le_of_ble_eq_true rfl, Nat.le_of_ble_eq_true rfl⟩) (x6_pre hK hP hN hSE hST hS) rfl rfl hl.1 rfl (lv_room (Nat.le_of_ble_eq_true rfl)) dX6_boundBy_21 ⟨Nat.zero_le _, Nat.zero_le _⟩) hS (fun _ _ h => h) (fun _ h => h) (fun rn_13 wn_13 t H locs ht hvm hp_13 hB hz hfr hS => ?_)
      obtain ⟨hp_13, hJ_13⟩ := hp_13
      have E := bnd_e E hp_13
      have hP : va_P D vwCl (MWL cI cC cQ ad wn_13) H := ht ▸ hB
      exact W.iret (v := rn_13) hx hb hr (fun t ht hW => ⟨⟨_, wn_13, rfl, ⟨E.symm, hJ_13⟩, by show va_P _ _ _ t.heap; rw [ht]; exact hP⟩, hS.F ht⟩) hS.2.2 dX6_boundBy_24
  · have E := E.trans (if_neg c_1)
    have fc_1 := i_nle c_1
    rw [q_0] at fc_1
    refine lv_aload_n hx hb dX6_boundBy_4 rfl (lv_at hl 0 rfl) ?_
    refine lv_bipush (v := (-4)) hx hb dX6_boundBy_5 (by decide +kernel) ?_
    refine va_calli (va_runV (As := [.int (-4)]) (rest := []) ⟨hx, hb, hml, hown, hts⟩ (kX6_refuse l D cI cC cQ ad sd aK aV w (-4) hd hI) (cwV 1 hts gX6_boundBy_X6_refuse rfl rfl rfl mdX6_refuse ⟨Nat.le_of_ble_eq_true rfl, Nat.le_of_ble_eq_true rfl⟩) (x6_pre hK hP hN hSE hST hS) rfl rfl hl.1 rfl (lv_room (Nat.le_of_ble_eq_true rfl)) dX6_boundBy_7 ⟨Nat.zero_le _, Nat.zero_le _⟩) hS (fun _ _ h => h) (fun _ h => h) (fun rn_14 wn_14 t H locs ht hvm hp_14 hB hz hfr hS => ?_)
    obtain ⟨hp_14, hJ_14⟩ := hp_14
    have E := bnd_e E hp_14
    have hP : va_P D vwCl (MWL cI cC cQ ad wn_14) H := ht ▸ hB
    exact W.iret (v := rn_14) hx hb hr (fun t ht hW => ⟨⟨_, wn_14, rfl, ⟨E.symm, hJ_14⟩, by show va_P _ _ _ t.heap; rw [ht]; exact hP⟩, hS.F ht⟩) hS.2.2 dX6_boundBy_10
abbrev rmX6_row : Room := { frames := 1, cells := 0, slots := 0, locals := 22 }
set_option maxHeartbeats 4000000 in
set_option maxRecDepth 100000 in
theorem kX6_row (l : Launch) (D : va_G) (cI cC cQ : ClassId) (ad : Nat → Nat → Nat) (sd aK aV : Nat → Nat) (w : Nat → Nat → Nat → Int32) (a1 : Int32) (hd : MD ad) (hI : R6I w)  : Met l yX6_row wsX6_row rmX6_row (va_Pc [Value.ref (ad 5 0), Value.int a1] (fun U => va_P D vwCl (MWL cI cC cQ ad w) U.heap ∧ va_K D vwCl [(cI, .int), (cC, .char), (cQ, .object "LoadedForTheLane$Way")] U ∧ NW U ∧ SE sd (MA ad) U U.heap ∧ STR aK aV (MA ad) U U.heap)) (va_Qi (fun r u => (r, u) = sX6_row w a1 ∧ R6I u) (fun u t => va_P D vwCl (MWL cI cC cQ ad u) t.heap) (MA ad)) 0 0 (MA ad) := by
  refine Met.ofW (cc := cX6_row) (maxL := 2) (ret := (some .int)) (by decide) rfl ?_
  intro p e s m args below meth c s₁ B hml hv
  obtain ⟨rfl, hP, hK, hN, hSE, hST⟩ := hv
  have hx := B.exec
  have hb := B.bytes
  have hr := B.returns
  have hts := atoms_spec (ws := wsX6_row) B.pre
  have hown : s.vm.findClass RX6 = some m.cls := findClass_of_methodNamed B.named
  have hlocks := B.notSynchronized
  have hin3 : ∀ q ∈ wsX30, q ∈ wsX6_row := by decide +kernel
  have hin6 : ∀ q ∈ wsX60, q ∈ wsX6_row := by decide +kernel
  have hl := lv_entry ([.ref (ad 5 0), .int a1]) (n := 2) (Nat.le_of_ble_eq_true rfl)
  rw [lg_entry_eq]
  generalize (lg_sl ([.ref (ad 5 0), .int a1]) ++ List.replicate (2 - (lg_sl ([.ref (ad 5 0), .int a1])).length) Slot.unset).toArray = ls at hl ⊢
  have hl : lv_has ls 2 [(0, .ref (ad 5 0)), (1, .int a1)] := hl
  suffices hgo : ∀ (H : Heap) (locs : List Loc), va_P D vwCl (MWL cI cC cQ ad w) H → va_S (MA ad) s.heap H locs → W p l e (headSpec wsX6_row rmX6_row).room s m [Value.ref (ad 5 0), Value.int a1].toArray below meth c H locs 0 0 (MQ below (va_Qi (fun r u => (r, u) = sX6_row w a1 ∧ R6I u) (fun u t => va_P D vwCl (MWL cI cC cQ ad u) t.heap) (MA ad)) [Value.ref (ad 5 0), Value.int a1].toArray s 0 0 (MA ad)) (F0 m 0 ls []) from hgo s.heap [] hP va_S.rf
  intro H locs hP hS
  have E := sX6_row.eq_1 w a1
  refine lv_iload_n hx hb dX6_row_0 rfl (lv_at hl 1 rfl) ?_
  refine lv_if_ge (tgt := 11) hx hb dX6_row_1 (by decide) (fun c_1 => ?_) (fun c_1 => ?_)
  · have E := E.trans (if_pos c_1)
    have fc_1 := i_le c_1
    rw [q_0] at fc_1
    refine lv_iload_n hx hb dX6_row_11 rfl (lv_at hl 1 rfl) ?_
    refine lv_bipush (v := 99) hx hb dX6_row_12 (by decide +kernel) ?_
    refine lv_icmp_gt (tgt := 29) hx hb dX6_row_14 (by decide) (fun c_2 => ?_) (fun c_2 => ?_)
    · have E := E.trans (if_pos c_2)
      have fc_2 := i_lt c_2
      rw [q_99] at fc_2
      refine lv_aload_n hx hb dX6_row_29 rfl (lv_at hl 0 rfl) ?_
      refine lv_bipush (v := (-6)) hx hb dX6_row_30 (by decide +kernel) ?_
      refine va_calli (va_runV (As := [.int (-6)]) (rest := []) ⟨hx, hb, hml, hown, hts⟩ (kX6_refuse l D cI cC cQ ad sd aK aV w (-6) hd hI) (cwV 1 hts gX6_row_X6_refuse rfl rfl rfl mdX6_refuse ⟨Nat.le_of_ble_eq_true rfl, Nat.le_of_ble_eq_true rfl⟩) (x6_pre hK hP hN hSE hST hS) rfl rfl hl.1 rfl (lv_room (Nat.le_of_ble_eq_true rfl)) dX6_row_32 ⟨Nat.zero_le _, Nat.zero_le _⟩) hS (fun _ _ h => h) (fun _ h => h) (fun rn_3 wn_3 t H locs ht hvm hp_3 hB hz hfr hS => ?_)
      obtain ⟨hp_3, hJ_3⟩ := hp_3
      have E := bnd_e E hp_3
      have hP : va_P D vwCl (MWL cI cC cQ ad wn_3) H := ht ▸ hB
      exact W.iret (v := rn_3) hx hb hr (fun t ht hW => ⟨⟨_, wn_3, rfl, ⟨E.symm, hJ_3⟩, by show va_P _ _ _ t.heap; rw [ht]; exact hP⟩, hS.F ht⟩) hS.2.2 dX6_row_35
    · have E := E.trans (if_neg c_2)
      have fc_2 := i_nlt c_2
      rw [q_99] at fc_2
      refine lv_aload_n hx hb dX6_row_17 rfl (lv_at hl 0 rfl) ?_
      refine g6_told hx hb hts hin6 hown hK hP (hts (.fieldLink RX6 36 "LoadedForTheLane" "told" "LLoadedForTheLane$Row;") (by decide +kernel)) dX6_row_18 ?_
      refine g3_sizen hx hb hts hin3 hown hK (mp_4 hP) (nf_RX6_251 hN) dX6_row_21 ?_
      have f_4 := R3I_size (R6I_4 hI)
      refine lv_bipush (v := 12) hx hb dX6_row_24 (by decide +kernel) ?_
      refine lv_icmp_lt (tgt := 36) hx hb dX6_row_26 (by decide) (fun c_5 => ?_) (fun c_5 => ?_)
      · have E := E.trans (if_pos c_5)
        have fc_5 := i_lt c_5
        rw [q_12] at fc_5
        refine lv_aload_n hx hb dX6_row_36 rfl (lv_at hl 0 rfl) ?_
        refine g6_told hx hb hts hin6 hown hK hP (hts (.fieldLink RX6 36 "LoadedForTheLane" "told" "LLoadedForTheLane$Row;") (by decide +kernel)) dX6_row_37 ?_
        refine lv_iload_n hx hb dX6_row_40 rfl (lv_at hl 1 rfl) ?_
        refine va_callv (va_runVN (As := [.int a1]) (rest := []) ⟨hx, hb, hml, hown, hts⟩ (kX3_add l D cI cC cQ (ad 4) (w 4) a1 (MD_4 hd) (R6I_4 hI)) ⟨va_cnB 1 hts gX6_row_X3_add_n252 rfl rfl rfl (nm_RX6_252 hN) (hts (.initialized RX3) (by decide +kernel)) mdsX3_add ⟨Nat.le_of_ble_eq_true rfl, Nat.le_of_ble_eq_true rfl⟩, hts (.instanceMethod yX3_add) (by decide +kernel), hts (.selects RX3 yX3_add yX3_add) (by decide +kernel)⟩ (x3_pre hK (mp_4 hP)) rfl rfl hl.1 rfl (lv_room (Nat.le_of_ble_eq_true rfl)) dX6_row_41 ⟨Nat.zero_le _, Nat.zero_le _⟩) hS (fun _ _ h => MA_4 h) (fun _ h => MA_4 h) (fun un_6 t H locs ht hvm hp_6 hB hz hfr hS => ?_)
        obtain ⟨hp_6, hJ_6⟩ := hp_6
        have E := bns_e E hp_6
        have hP : va_P D vwCl (MWL cI cC cQ ad (sc w 4 un_6)) H := mp_up4 hd hP (ht ▸ hB) hfr
        obtain ⟨wn_6, hwn_6⟩ : ∃ x, x = sc w 4 un_6 := ⟨_, rfl⟩
        rw [← hwn_6] at hP
        have E := bns_e E hwn_6
        have hI_6 : R6I wn_6 := by rw [hwn_6]; exact R6I_up4 hI hJ_6
        refine lv_aload_n hx hb dX6_row_44 rfl (lv_at hl 0 rfl) ?_
        refine g6_told hx hb hts hin6 hown hK hP (hts (.fieldLink RX6 36 "LoadedForTheLane" "told" "LLoadedForTheLane$Row;") (by decide +kernel)) dX6_row_45 ?_
        refine g3_sizen hx hb hts hin3 hown hK (mp_4 hP) (nf_RX6_251 hN) dX6_row_48 ?_
        have f_7 := R3I_size (R6I_4 hI_6)
        exact W.iret (v := (wn_6 4) 1 0) hx hb hr (fun t ht hW => ⟨⟨_, wn_6, rfl, ⟨E.symm, hI_6⟩, by show va_P _ _ _ t.heap; rw [ht]; exact hP⟩, hS.F ht⟩) hS.2.2 dX6_row_51
      · have E := E.trans (if_neg c_5)
        have fc_5 := i_nlt c_5
        rw [q_12] at fc_5
        refine lv_aload_n hx hb dX6_row_29 rfl (lv_at hl 0 rfl) ?_
        refine lv_bipush (v := (-6)) hx hb dX6_row_30 (by decide +kernel) ?_
        refine va_calli (va_runV (As := [.int (-6)]) (rest := []) ⟨hx, hb, hml, hown, hts⟩ (kX6_refuse l D cI cC cQ ad sd aK aV w (-6) hd hI) (cwV 1 hts gX6_row_X6_refuse rfl rfl rfl mdX6_refuse ⟨Nat.le_of_ble_eq_true rfl, Nat.le_of_ble_eq_true rfl⟩) (x6_pre hK hP hN hSE hST hS) rfl rfl hl.1 rfl (lv_room (Nat.le_of_ble_eq_true rfl)) dX6_row_32 ⟨Nat.zero_le _, Nat.zero_le _⟩) hS (fun _ _ h => h) (fun _ h => h) (fun rn_8 wn_8 t H locs ht hvm hp_8 hB hz hfr hS => ?_)
        obtain ⟨hp_8, hJ_8⟩ := hp_8
        have E := bnd_e E hp_8
        have hP : va_P D vwCl (MWL cI cC cQ ad wn_8) H := ht ▸ hB
        exact W.iret (v := rn_8) hx hb hr (fun t ht hW => ⟨⟨_, wn_8, rfl, ⟨E.symm, hJ_8⟩, by show va_P _ _ _ t.heap; rw [ht]; exact hP⟩, hS.F ht⟩) hS.2.2 dX6_row_35
  · have E := E.trans (if_neg c_1)
    have fc_1 := i_nle c_1
    rw [q_0] at fc_1
    refine lv_aload_n hx hb dX6_row_4 rfl (lv_at hl 0 rfl) ?_
    refine lv_bipush (v := (-4)) hx hb dX6_row_5 (by decide +kernel) ?_
    refine va_calli (va_runV (As := [.int (-4)]) (rest := []) ⟨hx, hb, hml, hown, hts⟩ (kX6_refuse l D cI cC cQ ad sd aK aV w (-4) hd hI) (cwV 1 hts gX6_row_X6_refuse rfl rfl rfl mdX6_refuse ⟨Nat.le_of_ble_eq_true rfl, Nat.le_of_ble_eq_true rfl⟩) (x6_pre hK hP hN hSE hST hS) rfl rfl hl.1 rfl (lv_room (Nat.le_of_ble_eq_true rfl)) dX6_row_7 ⟨Nat.zero_le _, Nat.zero_le _⟩) hS (fun _ _ h => h) (fun _ h => h) (fun rn_9 wn_9 t H locs ht hvm hp_9 hB hz hfr hS => ?_)
    obtain ⟨hp_9, hJ_9⟩ := hp_9
    have E := bnd_e E hp_9
    have hP : va_P D vwCl (MWL cI cC cQ ad wn_9) H := ht ▸ hB
    exact W.iret (v := rn_9) hx hb hr (fun t ht hW => ⟨⟨_, wn_9, rfl, ⟨E.symm, hJ_9⟩, by show va_P _ _ _ t.heap; rw [ht]; exact hP⟩, hS.F ht⟩) hS.2.2 dX6_row_10
abbrev rmX6_slipAsTold : Room := { frames := 5, cells := 0, slots := 0, locals := 112 }
set_option maxHeartbeats 4000000 in
set_option maxRecDepth 100000 in
theorem kX6_slipAsTold (l : Launch) (D : va_G) (cI cC cQ : ClassId) (ad : Nat → Nat → Nat) (sd aK aV : Nat → Nat) (w : Nat → Nat → Nat → Int32) (a1 : Int32)  (hI : R6I w) (h1 : 0 ≤ a1.toInt) (h2 : a1.toInt < 2) : Met l yX6_slipAsTold wsX6_slipAsTold rmX6_slipAsTold (va_Pc [Value.ref (ad 5 0), Value.int a1] (fun U => va_P D vwCl (MWL cI cC cQ ad w) U.heap ∧ va_K D vwCl [(cI, .int), (cC, .char), (cQ, .object "LoadedForTheLane$Way")] U ∧ NW U ∧ SE sd (MA ad) U U.heap ∧ STR aK aV (MA ad) U U.heap)) (vp_Si (fun r => r = sX6_slipAsTold w a1)) 0 0 (fun _ => False) := by
  refine Met.ofW (cc := cX6_slipAsTold) (maxL := 3) (ret := (some .int)) (by decide) rfl ?_
  intro p e s m args below meth c s₁ B hml hv
  obtain ⟨rfl, hP, hK, hN, hSE, hST⟩ := hv
  have hx := B.exec
  have hb := B.bytes
  have hr := B.returns
  have hts := atoms_spec (ws := wsX6_slipAsTold) B.pre
  have hown : s.vm.findClass RX6 = some m.cls := findClass_of_methodNamed B.named
  have hlocks := B.notSynchronized
  have hin6 : ∀ q ∈ wsX60, q ∈ wsX6_slipAsTold := by decide +kernel
  have hl := lv_entry ([.ref (ad 5 0), .int a1]) (n := 3) (Nat.le_of_ble_eq_true rfl)
  rw [lg_entry_eq]
  generalize (lg_sl ([.ref (ad 5 0), .int a1]) ++ List.replicate (3 - (lg_sl ([.ref (ad 5 0), .int a1])).length) Slot.unset).toArray = ls at hl ⊢
  have hl : lv_has ls 3 [(0, .ref (ad 5 0)), (1, .int a1)] := hl
  have E := sX6_slipAsTold.eq_1 w a1
  refine lv_aload_n hx hb dX6_slipAsTold_0 rfl (lv_at hl 0 rfl) ?_
  refine g6_trial hx hb hts hin6 hown hK hP (hts (.fieldLink RX6 16 "LoadedForTheLane" "trial" "LLoadedForTheLane$Wagon;") (by decide +kernel)) dX6_slipAsTold_1 ?_
  refine lv_iload_n hx hb dX6_slipAsTold_4 rfl (lv_at hl 1 rfl) ?_
  refine vp_callSi (va_Run.run (va_runVN (As := [.int a1]) (rest := []) ⟨hx, hb, hml, hown, hts⟩ (kX4_pieceOfSlip l D cI cC cQ (ad 1) (w 1) a1 (R6I_1 hI) (by omega) (by omega)) ⟨va_cnB 1 hts gX6_slipAsTold_X4_pieceOfSlip_n180 rfl rfl rfl (nm_RX6_180 hN) (hts (.initialized RX4) (by decide +kernel)) mdsX4_pieceOfSlip ⟨Nat.le_of_ble_eq_true rfl, Nat.le_of_ble_eq_true rfl⟩, hts (.instanceMethod yX4_pieceOfSlip) (by decide +kernel), hts (.selects RX4 yX4_pieceOfSlip yX4_pieceOfSlip) (by decide +kernel)⟩ (x4_pre hK (mp_1 hP) hN) rfl rfl hl.1 rfl (lv_room (Nat.le_of_ble_eq_true rfl)) dX6_slipAsTold_5 ⟨Nat.zero_le _, Nat.zero_le _⟩)) (fun rn_1 hr_1 => ?_)
  subst hr_1
  have rf_1 := rX4_pieceOfSlip (w 1) a1
  have rg_1 := R4I_pieces (R6I_1 hI) (k := a1.toNatClampNeg) (by have := ix_cl (x := a1) (by omega); omega)
  refine lv_istore_n (lv' := [(2, .int (sX4_pieceOfSlip (w 1) a1)), (0, .ref (ad 5 0)), (1, .int a1)]) hx hb dX6_slipAsTold_8 rfl hl (by decide) rfl (fun ls hl => ?_)
  refine lv_iload_n hx hb dX6_slipAsTold_9 rfl (lv_at hl 0 rfl) ?_
  refine lv_if_ge (tgt := 18) hx hb dX6_slipAsTold_10 (by decide) (fun c_2 => ?_) (fun c_2 => ?_)
  · have E := E.trans (if_pos c_2)
    have fc_2 := i_le c_2
    rw [q_0] at fc_2
    refine lv_aload_n hx hb dX6_slipAsTold_18 rfl (lv_at hl 1 rfl) ?_
    refine g6_trial hx hb hts hin6 hown hK hP (hts (.fieldLink RX6 16 "LoadedForTheLane" "trial" "LLoadedForTheLane$Wagon;") (by decide +kernel)) dX6_slipAsTold_19 ?_
    refine lv_iload_n hx hb dX6_slipAsTold_22 rfl (lv_at hl 2 rfl) ?_
    refine lv_iload_n hx hb dX6_slipAsTold_23 rfl (lv_at hl 0 rfl) ?_
    refine vp_callSi (va_Run.run (va_runVN (As := [.int a1, .int (sX4_pieceOfSlip (w 1) a1)]) (rest := []) ⟨hx, hb, hml, hown, hts⟩ (kX4_layerOfSlip l D cI cC cQ (ad 1) (w 1) a1 (sX4_pieceOfSlip (w 1) a1) (R6I_1 hI) (by omega) (by omega) (by omega) (by omega)) ⟨va_cnB 2 hts gX6_slipAsTold_X4_layerOfSlip_n183 rfl rfl rfl (nm_RX6_183 hN) (hts (.initialized RX4) (by decide +kernel)) mdsX4_layerOfSlip ⟨Nat.le_of_ble_eq_true rfl, Nat.le_of_ble_eq_true rfl⟩, hts (.instanceMethod yX4_layerOfSlip) (by decide +kernel), hts (.selects RX4 yX4_layerOfSlip yX4_layerOfSlip) (by decide +kernel)⟩ (x4_pre hK (mp_1 hP) hN) rfl rfl hl.1 rfl (lv_room (Nat.le_of_ble_eq_true rfl)) dX6_slipAsTold_24 ⟨Nat.zero_le _, Nat.zero_le _⟩)) (fun rn_3 hr_3 => ?_)
    subst hr_3
    exact W.iret (v := (sX4_layerOfSlip (w 1) a1 (sX4_pieceOfSlip (w 1) a1))) hx hb hr (fun t ht hW => ⟨_, rfl, E.symm, ht⟩) (fun q hq => by cases hq) dX6_slipAsTold_27
  · have E := E.trans (if_neg c_2)
    have fc_2 := i_nle c_2
    rw [q_0] at fc_2
    refine lv_bipush (v := 99) hx hb dX6_slipAsTold_13 (by decide +kernel) ?_
    refine lv_goto (tgt := 27) hx hb dX6_slipAsTold_15 (by decide) ?_
    exact W.iret (v := 99) hx hb hr (fun t ht hW => ⟨_, rfl, E.symm, ht⟩) (fun q hq => by cases hq) dX6_slipAsTold_27
abbrev rmX6_judge : Room := { frames := 6, cells := 0, slots := 0, locals := 134 }
set_option maxHeartbeats 4000000 in
set_option maxRecDepth 100000 in
theorem kX6_judge (l : Launch) (D : va_G) (cI cC cQ : ClassId) (ad : Nat → Nat → Nat) (sd aK aV : Nat → Nat) (w : Nat → Nat → Nat → Int32) (a1 : Int32) (hd : MD ad) (hI : R6I w)  : Met l yX6_judge wsX6_judge rmX6_judge (va_Pc [Value.ref (ad 5 0), Value.int a1] (fun U => va_P D vwCl (MWL cI cC cQ ad w) U.heap ∧ va_K D vwCl [(cI, .int), (cC, .char), (cQ, .object "LoadedForTheLane$Way")] U ∧ NW U ∧ SE sd (MA ad) U U.heap ∧ STR aK aV (MA ad) U U.heap)) (va_Qi (fun r u => (r, u) = sX6_judge w a1 ∧ R6I u) (fun u t => va_P D vwCl (MWL cI cC cQ ad u) t.heap) (MA ad)) 0 0 (MA ad) := by
  refine Met.ofW (cc := cX6_judge) (maxL := 4) (ret := (some .int)) (by decide) rfl ?_
  intro p e s m args below meth c s₁ B hml hv
  obtain ⟨rfl, hP, hK, hN, hSE, hST⟩ := hv
  have hx := B.exec
  have hb := B.bytes
  have hr := B.returns
  have hts := atoms_spec (ws := wsX6_judge) B.pre
  have hown : s.vm.findClass RX6 = some m.cls := findClass_of_methodNamed B.named
  have hlocks := B.notSynchronized
  have hin3 : ∀ q ∈ wsX30, q ∈ wsX6_judge := by decide +kernel
  have hin4 : ∀ q ∈ wsX40, q ∈ wsX6_judge := by decide +kernel
  have hin6 : ∀ q ∈ wsX60, q ∈ wsX6_judge := by decide +kernel
  have hl := lv_entry ([.ref (ad 5 0), .int a1]) (n := 4) (Nat.le_of_ble_eq_true rfl)
  rw [lg_entry_eq]
  generalize (lg_sl ([.ref (ad 5 0), .int a1]) ++ List.replicate (4 - (lg_sl ([.ref (ad 5 0), .int a1])).length) Slot.unset).toArray = ls at hl ⊢
  have hl : lv_has ls 4 [(0, .ref (ad 5 0)), (1, .int a1)] := hl
  suffices hgo : ∀ (H : Heap) (locs : List Loc), va_P D vwCl (MWL cI cC cQ ad w) H → va_S (MA ad) s.heap H locs → W p l e (headSpec wsX6_judge rmX6_judge).room s m [Value.ref (ad 5 0), Value.int a1].toArray below meth c H locs 0 0 (MQ below (va_Qi (fun r u => (r, u) = sX6_judge w a1 ∧ R6I u) (fun u t => va_P D vwCl (MWL cI cC cQ ad u) t.heap) (MA ad)) [Value.ref (ad 5 0), Value.int a1].toArray s 0 0 (MA ad)) (F0 m 0 ls []) from hgo s.heap [] hP va_S.rf
  intro H locs hP hS
  have E := sX6_judge.eq_1 w a1
  refine lv_aload_n hx hb dX6_judge_0 rfl (lv_at hl 0 rfl) ?_
  refine g6_wagon hx hb hts hin6 hown hK hP (hts (.fieldLink RX6 10 "LoadedForTheLane" "wagon" "LLoadedForTheLane$Wagon;") (by decide +kernel)) dX6_judge_1 ?_
  refine lv_iload_n hx hb dX6_judge_4 rfl (lv_at hl 1 rfl) ?_
  refine vp_callSi (va_Run.run (va_runVN (As := [.int a1]) (rest := []) ⟨hx, hb, hml, hown, hts⟩ (kX4_hasWay l D cI cC cQ (ad 0) (w 0) a1) ⟨va_cnB 1 hts gX6_judge_X4_hasWay_n112 rfl rfl rfl (nm_RX6_112 hN) (hts (.initialized RX4) (by decide +kernel)) mdsX4_hasWay ⟨Nat.le_of_ble_eq_true rfl, Nat.le_of_ble_eq_true rfl⟩, hts (.instanceMethod yX4_hasWay) (by decide +kernel), hts (.selects RX4 yX4_hasWay yX4_hasWay) (by decide +kernel)⟩ (x4_pre hK (mp_0 hP) hN) rfl rfl hl.1 rfl (lv_room (Nat.le_of_ble_eq_true rfl)) dX6_judge_5 ⟨Nat.zero_le _, Nat.zero_le _⟩)) (fun rn_1 hr_1 => ?_)
  obtain ⟨rfl, hz_1⟩ := hr_1
  refine lv_if_ne (tgt := 17) hx hb dX6_judge_8 (by decide) (fun c_2 => ?_) (fun c_2 => ?_)
  · have E := E.trans (if_neg c_2)
    have fc_2 := i_ne c_2
    rw [q_0] at fc_2
    have gc_2 := fX4_hasWay c_2
    refine lv_aload_n hx hb dX6_judge_17 rfl (lv_at hl 0 rfl) ?_
    refine g6_trial hx hb hts hin6 hown hK hP (hts (.fieldLink RX6 16 "LoadedForTheLane" "trial" "LLoadedForTheLane$Wagon;") (by decide +kernel)) dX6_judge_18 ?_
    refine lv_aload_n hx hb dX6_judge_21 rfl (lv_at hl 0 rfl) ?_
    refine g6_wagon hx hb hts hin6 hown hK hP (hts (.fieldLink RX6 10 "LoadedForTheLane" "wagon" "LLoadedForTheLane$Wagon;") (by decide +kernel)) dX6_judge_22 ?_
    refine va_callv (va_runVN (As := [.ref (ad 0 0)]) (rest := []) ⟨hx, hb, hml, hown, hts⟩ (kX4_become l D cI cC cQ (ad 1) (ad 0) (w 1) (w 0) (mdd_10 hd) (R6I_1 hI) (R6I_0 hI)) ⟨va_cnB 1 hts gX6_judge_X4_become_n66 rfl rfl rfl (nm_RX6_66 hN) (hts (.initialized RX4) (by decide +kernel)) mdsX4_become ⟨Nat.le_of_ble_eq_true rfl, Nat.le_of_ble_eq_true rfl⟩, hts (.instanceMethod yX4_become) (by decide +kernel), hts (.selects RX4 yX4_become yX4_become) (by decide +kernel)⟩ (x4b_pre rfl hK ((mp_1 hP).app (mp_0 hP)) hN) rfl rfl hl.1 rfl (lv_room (Nat.le_of_ble_eq_true rfl)) dX6_judge_25 ⟨Nat.zero_le _, Nat.zero_le _⟩) hS (fun _ _ h => mab_10 h) (fun _ h => mab_10 h) (fun un_3 t H locs ht hvm hp_3 hB hz hfr hS => ?_)
    obtain ⟨hp_3, hJ_3⟩ := hp_3
    have E := bns_e E hp_3
    have hP : va_P D vwCl (MWL cI cC cQ ad (sc w 1 un_3)) H := mp_bc10 hd hP (ht ▸ hB) hfr
    obtain ⟨wn_3, hwn_3⟩ : ∃ x, x = sc w 1 un_3 := ⟨_, rfl⟩
    rw [← hwn_3] at hP
    have E := bns_e E hwn_3
    have hI_3 : R6I wn_3 := by rw [hwn_3]; exact R6I_up1 hI hJ_3
    refine lv_bipush (v := (-9)) hx hb dX6_judge_28 (by decide +kernel) ?_
    refine lv_istore_n (lv' := [(2, .int (-9)), (0, .ref (ad 5 0)), (1, .int a1)]) hx hb dX6_judge_30 rfl hl (by decide) rfl (fun ls hl => ?_)
    refine lv_iconst (v := 0) hx hb dX6_judge_31 (by decide) ?_
    refine lv_istore_n (lv' := [(3, .int 0), (2, .int (-9)), (0, .ref (ad 5 0)), (1, .int a1)]) hx hb dX6_judge_32 rfl hl (by decide) rfl (fun ls hl => ?_)
    have L_33 : ∀ (n_33 : Nat) (x2_33 : Int32) (x3_33 : Int32) (w_33 : Nat → Nat → Nat → Int32) (H : Heap) (locs : List Loc) (ls : Array Slot), ((0 ≤ x3_33.toInt) ∧ (x3_33.toInt ≤ 12)) → (12 - x3_33.toInt < (n_33 : Int)) → R6I w_33 → va_P D vwCl (MWL cI cC cQ ad w_33) H → va_S (MA ad) s.heap H locs → lv_has ls 4 [(3, .int x3_33), (2, .int x2_33), (0, .ref (ad 5 0)), (1, .int a1)] → sX6_judge w a1 = sX6_judge_33 a1 n_33 x2_33 x3_33 w_33 → W p l e (headSpec wsX6_judge rmX6_judge).room s m [Value.ref (ad 5 0), Value.int a1].toArray below meth c H locs 0 0 (MQ below (va_Qi (fun r u => (r, u) = sX6_judge w a1 ∧ R6I u) (fun u t => va_P D vwCl (MWL cI cC cQ ad u) t.heap) (MA ad)) [Value.ref (ad 5 0), Value.int a1].toArray s 0 0 (MA ad)) (F0 m 33 ls []) := by
      intro n_33
      induction n_33 with
      | zero =>
        intro x2_33 x3_33 w_33 H locs ls hinv hm
        obtain ⟨v0_33, v1_33⟩ := hinv
        exact absurd hm (by omega)
      | succ n_33 ih_33 =>
        intro x2_33 x3_33 w_33 H locs ls hinv hm_33 hI_33 hP hS hl E
        obtain ⟨v0_33, v1_33⟩ := hinv
        have E := E.trans (sX6_judge_33.eq_2 ..)
        refine lv_iload_n hx hb dX6_judge_33 rfl (lv_at hl 0 rfl) ?_
        refine lv_aload_n hx hb dX6_judge_34 rfl (lv_at hl 2 rfl) ?_
        refine g6_told hx hb hts hin6 hown hK hP (hts (.fieldLink RX6 36 "LoadedForTheLane" "told" "LLoadedForTheLane$Row;") (by decide +kernel)) dX6_judge_35 ?_
        refine g3_sizen hx hb hts hin3 hown hK (mp_4 hP) (nf_RX6_251 hN) dX6_judge_38 ?_
        have f_4 := R3I_size (R6I_4 hI_33)
        refine lv_icmp_ge (tgt := 85) hx hb dX6_judge_41 (by decide) (fun c_5 => ?_) (fun c_5 => ?_)
        · have E := E.trans (if_pos c_5)
          have fc_5 := i_le c_5
          refine lv_aload_n hx hb dX6_judge_85 rfl (lv_at hl 2 rfl) ?_
          refine g6_told hx hb hts hin6 hown hK hP (hts (.fieldLink RX6 36 "LoadedForTheLane" "told" "LLoadedForTheLane$Row;") (by decide +kernel)) dX6_judge_86 ?_
          refine va_callv (va_runVN (As := []) (rest := []) ⟨hx, hb, hml, hown, hts⟩ (kX3_clear l D cI cC cQ (ad 4) (w_33 4) (MD_4 hd) (R6I_4 hI_33)) ⟨va_cnB 0 hts gX6_judge_X3_clear_n260 rfl rfl rfl (nm_RX6_260 hN) (hts (.initialized RX3) (by decide +kernel)) mdsX3_clear ⟨Nat.le_of_ble_eq_true rfl, Nat.le_of_ble_eq_true rfl⟩, hts (.instanceMethod yX3_clear) (by decide +kernel), hts (.selects RX3 yX3_clear yX3_clear) (by decide +kernel)⟩ (x3_pre hK (mp_4 hP)) rfl rfl hl.1 rfl (lv_room (Nat.le_of_ble_eq_true rfl)) dX6_judge_89 ⟨Nat.zero_le _, Nat.zero_le _⟩) hS (fun _ _ h => MA_4 h) (fun _ h => MA_4 h) (fun un_6 t H locs ht hvm hp_6 hB hz hfr hS => ?_)
          obtain ⟨hp_6, hJ_6⟩ := hp_6
          have E := bns_e E hp_6
          have hP : va_P D vwCl (MWL cI cC cQ ad (sc w_33 4 un_6)) H := mp_up4 hd hP (ht ▸ hB) hfr
          obtain ⟨wn_6, hwn_6⟩ : ∃ x, x = sc w_33 4 un_6 := ⟨_, rfl⟩
          rw [← hwn_6] at hP
          have E := bns_e E hwn_6
          have hI_6 : R6I wn_6 := by rw [hwn_6]; exact R6I_up4 hI_33 hJ_6
          refine lv_iload_n hx hb dX6_judge_92 rfl (lv_at hl 1 rfl) ?_
          exact W.iret (v := x2_33) hx hb hr (fun t ht hW => ⟨⟨_, wn_6, rfl, ⟨E.symm, hI_6⟩, by show va_P _ _ _ t.heap; rw [ht]; exact hP⟩, hS.F ht⟩) hS.2.2 dX6_judge_93
        · have E := E.trans (if_neg c_5)
          have fc_5 := i_nle c_5
          refine lv_iload_n hx hb dX6_judge_44 rfl (lv_at hl 1 rfl) ?_
          refine lv_bipush (v := (-9)) hx hb dX6_judge_45 (by decide +kernel) ?_
          refine lv_icmp_ne (tgt := 85) hx hb dX6_judge_47 (by decide) (fun c_7 => ?_) (fun c_7 => ?_)
          · have E := E.trans (if_neg c_7)
            have fc_7 := i_ne c_7
            rw [q_m9] at fc_7
            refine lv_aload_n hx hb dX6_judge_85 rfl (lv_at hl 2 rfl) ?_
            refine g6_told hx hb hts hin6 hown hK hP (hts (.fieldLink RX6 36 "LoadedForTheLane" "told" "LLoadedForTheLane$Row;") (by decide +kernel)) dX6_judge_86 ?_
            refine va_callv (va_runVN (As := []) (rest := []) ⟨hx, hb, hml, hown, hts⟩ (kX3_clear l D cI cC cQ (ad 4) (w_33 4) (MD_4 hd) (R6I_4 hI_33)) ⟨va_cnB 0 hts gX6_judge_X3_clear_n260 rfl rfl rfl (nm_RX6_260 hN) (hts (.initialized RX3) (by decide +kernel)) mdsX3_clear ⟨Nat.le_of_ble_eq_true rfl, Nat.le_of_ble_eq_true rfl⟩, hts (.instanceMethod yX3_clear) (by decide +kernel), hts (.selects RX3 yX3_clear yX3_clear) (by decide +kernel)⟩ (x3_pre hK (mp_4 hP)) rfl rfl hl.1 rfl (lv_room (Nat.le_of_ble_eq_true rfl)) dX6_judge_89 ⟨Nat.zero_le _, Nat.zero_le _⟩) hS (fun _ _ h => MA_4 h) (fun _ h => MA_4 h) (fun un_8 t H locs ht hvm hp_8 hB hz hfr hS => ?_)
            obtain ⟨hp_8, hJ_8⟩ := hp_8
            have E := bns_e E hp_8
            have hP : va_P D vwCl (MWL cI cC cQ ad (sc w_33 4 un_8)) H := mp_up4 hd hP (ht ▸ hB) hfr
            obtain ⟨wn_8, hwn_8⟩ : ∃ x, x = sc w_33 4 un_8 := ⟨_, rfl⟩
            rw [← hwn_8] at hP
            have E := bns_e E hwn_8
            have hI_8 : R6I wn_8 := by rw [hwn_8]; exact R6I_up4 hI_33 hJ_8
            refine lv_iload_n hx hb dX6_judge_92 rfl (lv_at hl 1 rfl) ?_
            exact W.iret (v := x2_33) hx hb hr (fun t ht hW => ⟨⟨_, wn_8, rfl, ⟨E.symm, hI_8⟩, by show va_P _ _ _ t.heap; rw [ht]; exact hP⟩, hS.F ht⟩) hS.2.2 dX6_judge_93
          · have E := E.trans (if_pos c_7)
            have fc_7 := i_eq c_7
            rw [q_m9] at fc_7
            refine lv_aload_n hx hb dX6_judge_50 rfl (lv_at hl 2 rfl) ?_
            refine g6_trial hx hb hts hin6 hown hK hP (hts (.fieldLink RX6 16 "LoadedForTheLane" "trial" "LLoadedForTheLane$Wagon;") (by decide +kernel)) dX6_judge_51 ?_
            refine g4_settingsn hx hb hts hin4 hown hK (mp_1 hP) (nf_RX6_173 hN) dX6_judge_54 ?_
            refine lv_iconst (v := 0) hx hb dX6_judge_57 (by decide) ?_
            refine lv_iload_n hx hb dX6_judge_58 rfl (lv_at hl 0 rfl) ?_
            have ix_9 : vp_in 0 4 := by unfold vp_in; decide
            refine a6_settings_1 (j := 0) hx hb hK hP hd hS ix_9 (by decide) dX6_judge_59 (fun H locs hP hS => ?_)
            obtain ⟨wn_9, hwn_9⟩ : ∃ x, x = sc w_33 1 (st (w_33 1) 7 0 x3_33) := ⟨_, rfl⟩
            rw [← hwn_9] at hP
            have E := bns_e E hwn_9
            have hI_9 : R6I wn_9 := by rw [hwn_9]; exact R6I_up1 hI_33 (R4I_arr (R6I_1 hI_33) (by decide))
            refine lv_aload_n hx hb dX6_judge_60 rfl (lv_at hl 2 rfl) ?_
            refine g6_told hx hb hts hin6 hown hK hP (hts (.fieldLink RX6 36 "LoadedForTheLane" "told" "LLoadedForTheLane$Row;") (by decide +kernel)) dX6_judge_61 ?_
            refine g3_numbersn hx hb hts hin3 hown hK (mp_4 hP) (nf_RX6_254 hN) dX6_judge_64 ?_
            refine lv_iload_n hx hb dX6_judge_67 rfl (lv_at hl 0 rfl) ?_
            have ix_10 : vp_in x3_33 12 := ix_of (by omega) (by omega)
            refine l3_numbers (j := (x3_33.toNatClampNeg)) hx hb hK (mp_4 hP) ix_10 rfl dX6_judge_68 ?_
            refine lv_aload_n hx hb dX6_judge_69 rfl (lv_at hl 2 rfl) ?_
            refine lv_iload_n hx hb dX6_judge_70 rfl (lv_at hl 3 rfl) ?_
            refine vp_callSi (va_Run.run (va_runV (As := [.int a1]) (rest := [.int ((wn_9 4) 0 (x3_33.toNatClampNeg))]) ⟨hx, hb, hml, hown, hts⟩ (kX6_slipAsTold l D cI cC cQ ad sd aK aV wn_9 a1 hI_9 (by omega) (by omega)) (cwV 1 hts gX6_judge_X6_slipAsTold rfl rfl rfl mdX6_slipAsTold ⟨Nat.le_of_ble_eq_true rfl, Nat.le_of_ble_eq_true rfl⟩) (x6_pre hK hP hN hSE hST hS) rfl rfl hl.1 rfl (lv_room (Nat.le_of_ble_eq_true rfl)) dX6_judge_71 ⟨Nat.zero_le _, Nat.zero_le _⟩)) (fun rn_11 hr_11 => ?_)
            subst hr_11
            refine lv_icmp_eq (tgt := 79) hx hb dX6_judge_74 (by decide) (fun c_12 => ?_) (fun c_12 => ?_)
            · have E := E.trans (if_pos c_12)
              have fc_12 := i_eq c_12
              refine lv_iinc (v := x3_33 + 1) (lv' := [(3, .int (x3_33 + 1)), (2, .int x2_33), (0, .ref (ad 5 0)), (1, .int a1)]) hx hb dX6_judge_79 hl (k := 0) rfl rfl (by decide) rfl (fun ls hl => ?_)
              refine lv_goto (tgt := 33) hx hb dX6_judge_82 (by decide) ?_
              try have := i_addr (a := x3_33) (b := 1) (n := 1) q_1 (by omega) (by omega)
              exact ih_33 x2_33 (x3_33 + 1) wn_9 H locs ls ⟨by omega, by omega⟩ (by omega) hI_9 hP hS (lv_sub hl [0, 1, 2, 3] rfl) E
            · have E := E.trans (if_neg c_12)
              have fc_12 := i_ne c_12
              refine lv_iload_n hx hb dX6_judge_77 rfl (lv_at hl 0 rfl) ?_
              refine lv_istore_n (lv' := [(2, .int x3_33), (3, .int x3_33), (0, .ref (ad 5 0)), (1, .int a1)]) hx hb dX6_judge_78 rfl hl (by decide) rfl (fun ls hl => ?_)
              refine lv_iinc (v := x3_33 + 1) (lv' := [(3, .int (x3_33 + 1)), (2, .int x3_33), (0, .ref (ad 5 0)), (1, .int a1)]) hx hb dX6_judge_79 hl (k := 1) rfl rfl (by decide) rfl (fun ls hl => ?_)
              refine lv_goto (tgt := 33) hx hb dX6_judge_82 (by decide) ?_
              try have := i_addr (a := x3_33) (b := 1) (n := 1) q_1 (by omega) (by omega)
              exact ih_33 x3_33 (x3_33 + 1) wn_9 H locs ls ⟨by omega, by omega⟩ (by omega) hI_9 hP hS (lv_sub hl [0, 1, 2, 3] rfl) E
    have := q_0
    exact L_33 13 ((-9)) 0 wn_3 H locs ls ⟨by omega, by omega⟩ (by omega) hI_3 hP hS (lv_sub hl [0, 1, 2, 3] rfl) E
  · have E := E.trans (if_pos c_2)
    have fc_2 := i_eq c_2
    rw [q_0] at fc_2
    refine lv_aload_n hx hb dX6_judge_11 rfl (lv_at hl 0 rfl) ?_
    refine lv_iconst (v := (-1)) hx hb dX6_judge_12 (by decide) ?_
    refine va_calli (va_runV (As := [.int (-1)]) (rest := []) ⟨hx, hb, hml, hown, hts⟩ (kX6_refuse l D cI cC cQ ad sd aK aV w (-1) hd hI) (cwV 1 hts gX6_judge_X6_refuse rfl rfl rfl mdX6_refuse ⟨Nat.le_of_ble_eq_true rfl, Nat.le_of_ble_eq_true rfl⟩) (x6_pre hK hP hN hSE hST hS) rfl rfl hl.1 rfl (lv_room (Nat.le_of_ble_eq_true rfl)) dX6_judge_13 ⟨Nat.zero_le _, Nat.zero_le _⟩) hS (fun _ _ h => h) (fun _ h => h) (fun rn_13 wn_13 t H locs ht hvm hp_13 hB hz hfr hS => ?_)
    obtain ⟨hp_13, hJ_13⟩ := hp_13
    have E := bnd_e E hp_13
    have hP : va_P D vwCl (MWL cI cC cQ ad wn_13) H := ht ▸ hB
    exact W.iret (v := rn_13) hx hb hr (fun t ht hW => ⟨⟨_, wn_13, rfl, ⟨E.symm, hJ_13⟩, by show va_P _ _ _ t.heap; rw [ht]; exact hP⟩, hS.F ht⟩) hS.2.2 dX6_judge_16
abbrev rmX6_lots : Room := { frames := 6, cells := 0, slots := 0, locals := 133 }
set_option maxHeartbeats 4000000 in
set_option maxRecDepth 100000 in
theorem kX6_lots (l : Launch) (D : va_G) (cI cC cQ : ClassId) (ad : Nat → Nat → Nat) (sd aK aV : Nat → Nat) (w : Nat → Nat → Nat → Int32) (a1 : Int32) (a2 : Int32) (a3 : Int32) (hd : MD ad) (hI : R6I w)  : Met l yX6_lots wsX6_lots rmX6_lots (va_Pc [Value.ref (ad 5 0), Value.int a1, Value.int a2, Value.int a3] (fun U => va_P D vwCl (MWL cI cC cQ ad w) U.heap ∧ va_K D vwCl [(cI, .int), (cC, .char), (cQ, .object "LoadedForTheLane$Way")] U ∧ NW U ∧ SE sd (MA ad) U U.heap ∧ STR aK aV (MA ad) U U.heap)) (va_Qi (fun r u => (r, u) = sX6_lots w a1 a2 a3 ∧ R6I u) (fun u t => va_P D vwCl (MWL cI cC cQ ad u) t.heap) (MA ad)) 0 0 (MA ad) := by
  refine Met.ofW (cc := cX6_lots) (maxL := 7) (ret := (some .int)) (by decide) rfl ?_
  intro p e s m args below meth c s₁ B hml hv
  obtain ⟨rfl, hP, hK, hN, hSE, hST⟩ := hv
  have hx := B.exec
  have hb := B.bytes
  have hr := B.returns
  have hts := atoms_spec (ws := wsX6_lots) B.pre
  have hown : s.vm.findClass RX6 = some m.cls := findClass_of_methodNamed B.named
  have hlocks := B.notSynchronized
  have hin6 : ∀ q ∈ wsX60, q ∈ wsX6_lots := by decide +kernel
  have hl := lv_entry ([.ref (ad 5 0), .int a1, .int a2, .int a3]) (n := 7) (Nat.le_of_ble_eq_true rfl)
  rw [lg_entry_eq]
  generalize (lg_sl ([.ref (ad 5 0), .int a1, .int a2, .int a3]) ++ List.replicate (7 - (lg_sl ([.ref (ad 5 0), .int a1, .int a2, .int a3])).length) Slot.unset).toArray = ls at hl ⊢
  have hl : lv_has ls 7 [(0, .ref (ad 5 0)), (1, .int a1), (2, .int a2), (3, .int a3)] := hl
  suffices hgo : ∀ (H : Heap) (locs : List Loc), va_P D vwCl (MWL cI cC cQ ad w) H → va_S (MA ad) s.heap H locs → W p l e (headSpec wsX6_lots rmX6_lots).room s m [Value.ref (ad 5 0), Value.int a1, Value.int a2, Value.int a3].toArray below meth c H locs 0 0 (MQ below (va_Qi (fun r u => (r, u) = sX6_lots w a1 a2 a3 ∧ R6I u) (fun u t => va_P D vwCl (MWL cI cC cQ ad u) t.heap) (MA ad)) [Value.ref (ad 5 0), Value.int a1, Value.int a2, Value.int a3].toArray s 0 0 (MA ad)) (F0 m 0 ls []) from hgo s.heap [] hP va_S.rf
  intro H locs hP hS
  have E := sX6_lots.eq_1 w a1 a2 a3
  refine lv_aload_n hx hb dX6_lots_0 rfl (lv_at hl 0 rfl) ?_
  refine g6_wagon hx hb hts hin6 hown hK hP (hts (.fieldLink RX6 10 "LoadedForTheLane" "wagon" "LLoadedForTheLane$Wagon;") (by decide +kernel)) dX6_lots_1 ?_
  refine lv_iload_n hx hb dX6_lots_4 rfl (lv_at hl 1 rfl) ?_
  refine vp_callSi (va_Run.run (va_runVN (As := [.int a1]) (rest := []) ⟨hx, hb, hml, hown, hts⟩ (kX4_hasWay l D cI cC cQ (ad 0) (w 0) a1) ⟨va_cnB 1 hts gX6_lots_X4_hasWay_n112 rfl rfl rfl (nm_RX6_112 hN) (hts (.initialized RX4) (by decide +kernel)) mdsX4_hasWay ⟨Nat.le_of_ble_eq_true rfl, Nat.le_of_ble_eq_true rfl⟩, hts (.instanceMethod yX4_hasWay) (by decide +kernel), hts (.selects RX4 yX4_hasWay yX4_hasWay) (by decide +kernel)⟩ (x4_pre hK (mp_0 hP) hN) rfl rfl hl.1 rfl (lv_room (Nat.le_of_ble_eq_true rfl)) dX6_lots_5 ⟨Nat.zero_le _, Nat.zero_le _⟩)) (fun rn_1 hr_1 => ?_)
  obtain ⟨rfl, hz_1⟩ := hr_1
  refine lv_if_ne (tgt := 17) hx hb dX6_lots_8 (by decide) (fun c_2 => ?_) (fun c_2 => ?_)
  · have E := E.trans (if_neg c_2)
    have fc_2 := i_ne c_2
    rw [q_0] at fc_2
    have gc_2 := fX4_hasWay c_2
    refine lv_iload_n hx hb dX6_lots_17 rfl (lv_at hl 2 rfl) ?_
    refine lv_iconst (v := 1) hx hb dX6_lots_18 (by decide) ?_
    refine lv_icmp_ge (tgt := 29) hx hb dX6_lots_19 (by decide) (fun c_3 => ?_) (fun c_3 => ?_)
    · have E := E.trans (if_pos c_3)
      have fc_3 := i_le c_3
      rw [q_1] at fc_3
      refine lv_iload_n hx hb dX6_lots_29 rfl (lv_at hl 2 rfl) ?_
      refine lv_bipush (v := 30) hx hb dX6_lots_30 (by decide +kernel) ?_
      refine lv_icmp_le (tgt := 42) hx hb dX6_lots_32 (by decide) (fun c_4 => ?_) (fun c_4 => ?_)
      · have E := E.trans (if_pos c_4)
        have fc_4 := i_le c_4
        rw [q_30] at fc_4
        refine lv_aload_n hx hb dX6_lots_42 rfl (lv_at hl 0 rfl) ?_
        refine g6_trial hx hb hts hin6 hown hK hP (hts (.fieldLink RX6 16 "LoadedForTheLane" "trial" "LLoadedForTheLane$Wagon;") (by decide +kernel)) dX6_lots_43 ?_
        refine lv_aload_n hx hb dX6_lots_46 rfl (lv_at hl 0 rfl) ?_
        refine g6_wagon hx hb hts hin6 hown hK hP (hts (.fieldLink RX6 10 "LoadedForTheLane" "wagon" "LLoadedForTheLane$Wagon;") (by decide +kernel)) dX6_lots_47 ?_
        refine va_callv (va_runVN (As := [.ref (ad 0 0)]) (rest := []) ⟨hx, hb, hml, hown, hts⟩ (kX4_become l D cI cC cQ (ad 1) (ad 0) (w 1) (w 0) (mdd_10 hd) (R6I_1 hI) (R6I_0 hI)) ⟨va_cnB 1 hts gX6_lots_X4_become_n66 rfl rfl rfl (nm_RX6_66 hN) (hts (.initialized RX4) (by decide +kernel)) mdsX4_become ⟨Nat.le_of_ble_eq_true rfl, Nat.le_of_ble_eq_true rfl⟩, hts (.instanceMethod yX4_become) (by decide +kernel), hts (.selects RX4 yX4_become yX4_become) (by decide +kernel)⟩ (x4b_pre rfl hK ((mp_1 hP).app (mp_0 hP)) hN) rfl rfl hl.1 rfl (lv_room (Nat.le_of_ble_eq_true rfl)) dX6_lots_50 ⟨Nat.zero_le _, Nat.zero_le _⟩) hS (fun _ _ h => mab_10 h) (fun _ h => mab_10 h) (fun un_5 t H locs ht hvm hp_5 hB hz hfr hS => ?_)
        obtain ⟨hp_5, hJ_5⟩ := hp_5
        have E := bns_e E hp_5
        have hP : va_P D vwCl (MWL cI cC cQ ad (sc w 1 un_5)) H := mp_bc10 hd hP (ht ▸ hB) hfr
        obtain ⟨wn_5, hwn_5⟩ : ∃ x, x = sc w 1 un_5 := ⟨_, rfl⟩
        rw [← hwn_5] at hP
        have E := bns_e E hwn_5
        have hI_5 : R6I wn_5 := by rw [hwn_5]; exact R6I_up1 hI hJ_5
        refine lv_iload_n hx hb dX6_lots_53 rfl (lv_at hl 3 rfl) ?_
        refine lv_istore (lv' := [(4, .int a3), (0, .ref (ad 5 0)), (1, .int a1), (2, .int a2), (3, .int a3)]) hx hb dX6_lots_54 hl (by decide) rfl (fun ls hl => ?_)
        refine lv_iconst (v := 0) hx hb dX6_lots_56 (by decide) ?_
        refine lv_istore (lv' := [(5, .int 0), (4, .int a3), (0, .ref (ad 5 0)), (1, .int a1), (2, .int a2), (3, .int a3)]) hx hb dX6_lots_57 hl (by decide) rfl (fun ls hl => ?_)
        refine lv_iconst (v := 0) hx hb dX6_lots_59 (by decide) ?_
        refine lv_istore (lv' := [(6, .int 0), (5, .int 0), (4, .int a3), (0, .ref (ad 5 0)), (1, .int a1), (2, .int a2), (3, .int a3)]) hx hb dX6_lots_60 hl (by decide) rfl (fun ls hl => ?_)
        have L_62 : ∀ (n_62 : Nat) (x4_62 : Int32) (x5_62 : Int32) (x6_62 : Int32) (w_62 : Nat → Nat → Nat → Int32) (H : Heap) (locs : List Loc) (ls : Array Slot), ((0 ≤ x6_62.toInt) ∧ (x6_62.toInt ≤ 30)) → (30 - x6_62.toInt < (n_62 : Int)) → R6I w_62 → va_P D vwCl (MWL cI cC cQ ad w_62) H → va_S (MA ad) s.heap H locs → lv_has ls 7 [(6, .int x6_62), (5, .int x5_62), (4, .int x4_62), (0, .ref (ad 5 0)), (1, .int a1), (2, .int a2)] → sX6_lots w a1 a2 a3 = sX6_lots_62 a1 a2 n_62 x4_62 x5_62 x6_62 w_62 → W p l e (headSpec wsX6_lots rmX6_lots).room s m [Value.ref (ad 5 0), Value.int a1, Value.int a2, Value.int a3].toArray below meth c H locs 0 0 (MQ below (va_Qi (fun r u => (r, u) = sX6_lots w a1 a2 a3 ∧ R6I u) (fun u t => va_P D vwCl (MWL cI cC cQ ad u) t.heap) (MA ad)) [Value.ref (ad 5 0), Value.int a1, Value.int a2, Value.int a3].toArray s 0 0 (MA ad)) (F0 m 62 ls []) := by
          intro n_62
          induction n_62 with
          | zero =>
            intro x4_62 x5_62 x6_62 w_62 H locs ls hinv hm
            obtain ⟨v0_62, v1_62⟩ := hinv
            exact absurd hm (by omega)
          | succ n_62 ih_62 =>
            intro x4_62 x5_62 x6_62 w_62 H locs ls hinv hm_62 hI_62 hP hS hl E
            obtain ⟨v0_62, v1_62⟩ := hinv
            have E := E.trans (sX6_lots_62.eq_2 ..)
            refine lv_iload hx hb dX6_lots_62 (lv_at hl 0 rfl) ?_
            refine lv_iload_n hx hb dX6_lots_64 rfl (lv_at hl 5 rfl) ?_
            refine lv_icmp_ge (tgt := 99) hx hb dX6_lots_65 (by decide) (fun c_6 => ?_) (fun c_6 => ?_)
            · have E := E.trans (if_pos c_6)
              have fc_6 := i_le c_6
              refine lv_iload hx hb dX6_lots_99 (lv_at hl 1 rfl) ?_
              exact W.iret (v := x5_62) hx hb hr (fun t ht hW => ⟨⟨_, w_62, rfl, ⟨E.symm, hI_62⟩, by show va_P _ _ _ t.heap; rw [ht]; exact hP⟩, hS.F ht⟩) hS.2.2 dX6_lots_101
            · have E := E.trans (if_neg c_6)
              have fc_6 := i_nle c_6
              refine lv_aload_n hx hb dX6_lots_68 rfl (lv_at hl 3 rfl) ?_
              refine g6_trial hx hb hts hin6 hown hK hP (hts (.fieldLink RX6 16 "LoadedForTheLane" "trial" "LLoadedForTheLane$Wagon;") (by decide +kernel)) dX6_lots_69 ?_
              refine lv_iload hx hb dX6_lots_72 (lv_at hl 2 rfl) ?_
              refine va_calli (va_runVN (As := [.int x4_62]) (rest := []) ⟨hx, hb, hml, hown, hts⟩ (kX4_layByLot l D cI cC cQ (ad 1) (w_62 1) x4_62 (MD_1 hd) (R6I_1 hI_62)) ⟨va_cnB 1 hts gX6_lots_X4_layByLot_n261 rfl rfl rfl (nm_RX6_261 hN) (hts (.initialized RX4) (by decide +kernel)) mdsX4_layByLot ⟨Nat.le_of_ble_eq_true rfl, Nat.le_of_ble_eq_true rfl⟩, hts (.instanceMethod yX4_layByLot) (by decide +kernel), hts (.selects RX4 yX4_layByLot yX4_layByLot) (by decide +kernel)⟩ (x4_pre hK (mp_1 hP) hN) rfl rfl hl.1 rfl (lv_room (Nat.le_of_ble_eq_true rfl)) dX6_lots_74 ⟨Nat.zero_le _, Nat.zero_le _⟩) hS (fun _ _ h => MA_1 h) (fun _ h => MA_1 h) (fun rn_7 un_7 t H locs ht hvm hp_7 hB hz hfr hS => ?_)
              obtain ⟨hp_7, hJ_7⟩ := hp_7
              have E := bnd_e E hp_7
              have hP : va_P D vwCl (MWL cI cC cQ ad (sc w_62 1 un_7)) H := mp_up1 hd hP (ht ▸ hB) hfr
              obtain ⟨wn_7, hwn_7⟩ : ∃ x, x = sc w_62 1 un_7 := ⟨_, rfl⟩
              rw [← hwn_7] at hP
              have E := bns_e E hwn_7
              have hI_7 : R6I wn_7 := by rw [hwn_7]; exact R6I_up1 hI_62 hJ_7
              refine lv_istore (lv' := [(4, .int rn_7), (6, .int x6_62), (5, .int x5_62), (0, .ref (ad 5 0)), (1, .int a1), (2, .int a2)]) hx hb dX6_lots_77 hl (by decide) rfl (fun ls hl => ?_)
              refine lv_aload_n hx hb dX6_lots_79 rfl (lv_at hl 3 rfl) ?_
              refine g6_trial hx hb hts hin6 hown hK hP (hts (.fieldLink RX6 16 "LoadedForTheLane" "trial" "LLoadedForTheLane$Wagon;") (by decide +kernel)) dX6_lots_80 ?_
              refine lv_iload_n hx hb dX6_lots_83 rfl (lv_at hl 4 rfl) ?_
              refine vp_callSi (va_Run.run (va_runVN (As := [.int a1]) (rest := []) ⟨hx, hb, hml, hown, hts⟩ (kX4_holds l D cI cC cQ (ad 1) (wn_7 1) a1 (R6I_1 hI_7) (by omega) (by omega)) ⟨va_cnB 1 hts gX6_lots_X4_holds_n189 rfl rfl rfl (nm_RX6_189 hN) (hts (.initialized RX4) (by decide +kernel)) mdsX4_holds ⟨Nat.le_of_ble_eq_true rfl, Nat.le_of_ble_eq_true rfl⟩, hts (.instanceMethod yX4_holds) (by decide +kernel), hts (.selects RX4 yX4_holds yX4_holds) (by decide +kernel)⟩ (x4_pre hK (mp_1 hP) hN) rfl rfl hl.1 rfl (lv_room (Nat.le_of_ble_eq_true rfl)) dX6_lots_84 ⟨Nat.zero_le _, Nat.zero_le _⟩)) (fun rn_8 hr_8 => ?_)
              obtain ⟨rfl, hz_8⟩ := hr_8
              refine lv_if_eq (tgt := 93) hx hb dX6_lots_87 (by decide) (fun c_9 => ?_) (fun c_9 => ?_)
              · have E := E.trans (if_pos c_9)
                have fc_9 := i_eq c_9
                rw [q_0] at fc_9
                refine lv_iinc (v := x6_62 + 1) (lv' := [(6, .int (x6_62 + 1)), (4, .int rn_7), (5, .int x5_62), (0, .ref (ad 5 0)), (1, .int a1), (2, .int a2)]) hx hb dX6_lots_93 hl (k := 1) rfl rfl (by decide) rfl (fun ls hl => ?_)
                refine lv_goto (tgt := 62) hx hb dX6_lots_96 (by decide) ?_
                try have := i_addr (a := x6_62) (b := 1) (n := 1) q_1 (by omega) (by omega)
                exact ih_62 rn_7 x5_62 (x6_62 + 1) wn_7 H locs ls ⟨by omega, by omega⟩ (by omega) hI_7 hP hS (lv_sub hl [0, 2, 1, 3, 4, 5] rfl) E
              · have E := E.trans (if_neg c_9)
                have fc_9 := i_ne c_9
                rw [q_0] at fc_9
                refine lv_iinc (v := x5_62 + 1) (lv' := [(5, .int (x5_62 + 1)), (4, .int rn_7), (6, .int x6_62), (0, .ref (ad 5 0)), (1, .int a1), (2, .int a2)]) hx hb dX6_lots_90 hl (k := 2) rfl rfl (by decide) rfl (fun ls hl => ?_)
                refine lv_iinc (v := x6_62 + 1) (lv' := [(6, .int (x6_62 + 1)), (5, .int (x5_62 + 1)), (4, .int rn_7), (0, .ref (ad 5 0)), (1, .int a1), (2, .int a2)]) hx hb dX6_lots_93 hl (k := 2) rfl rfl (by decide) rfl (fun ls hl => ?_)
                refine lv_goto (tgt := 62) hx hb dX6_lots_96 (by decide) ?_
                try have := i_addr (a := x6_62) (b := 1) (n := 1) q_1 (by omega) (by omega)
                exact ih_62 rn_7 (x5_62 + 1) (x6_62 + 1) wn_7 H locs ls ⟨by omega, by omega⟩ (by omega) hI_7 hP hS (lv_sub hl [0, 1, 2, 3, 4, 5] rfl) E
        have := q_0
        exact L_62 31 a3 0 0 wn_5 H locs ls ⟨by omega, by omega⟩ (by omega) hI_5 hP hS (lv_sub hl [0, 1, 2, 3, 4, 5] rfl) E
      · have E := E.trans (if_neg c_4)
        have fc_4 := i_nle c_4
        rw [q_30] at fc_4
        refine lv_aload_n hx hb dX6_lots_35 rfl (lv_at hl 0 rfl) ?_
        refine lv_bipush (v := (-6)) hx hb dX6_lots_36 (by decide +kernel) ?_
        refine va_calli (va_runV (As := [.int (-6)]) (rest := []) ⟨hx, hb, hml, hown, hts⟩ (kX6_refuse l D cI cC cQ ad sd aK aV w (-6) hd hI) (cwV 1 hts gX6_lots_X6_refuse rfl rfl rfl mdX6_refuse ⟨Nat.le_of_ble_eq_true rfl, Nat.le_of_ble_eq_true rfl⟩) (x6_pre hK hP hN hSE hST hS) rfl rfl hl.1 rfl (lv_room (Nat.le_of_ble_eq_true rfl)) dX6_lots_38 ⟨Nat.zero_le _, Nat.zero_le _⟩) hS (fun _ _ h => h) (fun _ h => h) (fun rn_10 wn_10 t H locs ht hvm hp_10 hB hz hfr hS => ?_)
        obtain ⟨hp_10, hJ_10⟩ := hp_10
        have E := bnd_e E hp_10
        have hP : va_P D vwCl (MWL cI cC cQ ad wn_10) H := ht ▸ hB
        exact W.iret (v := rn_10) hx hb hr (fun t ht hW => ⟨⟨_, wn_10, rfl, ⟨E.symm, hJ_10⟩, by show va_P _ _ _ t.heap; rw [ht]; exact hP⟩, hS.F ht⟩) hS.2.2 dX6_lots_41
    · have E := E.trans (if_neg c_3)
      have fc_3 := i_nle c_3
      rw [q_1] at fc_3
      refine lv_aload_n hx hb dX6_lots_22 rfl (lv_at hl 0 rfl) ?_
      refine lv_bipush (v := (-4)) hx hb dX6_lots_23 (by decide +kernel) ?_
      refine va_calli (va_runV (As := [.int (-4)]) (rest := []) ⟨hx, hb, hml, hown, hts⟩ (kX6_refuse l D cI cC cQ ad sd aK aV w (-4) hd hI) (cwV 1 hts gX6_lots_X6_refuse rfl rfl rfl mdX6_refuse ⟨Nat.le_of_ble_eq_true rfl, Nat.le_of_ble_eq_true rfl⟩) (x6_pre hK hP hN hSE hST hS) rfl rfl hl.1 rfl (lv_room (Nat.le_of_ble_eq_true rfl)) dX6_lots_25 ⟨Nat.zero_le _, Nat.zero_le _⟩) hS (fun _ _ h => h) (fun _ h => h) (fun rn_11 wn_11 t H locs ht hvm hp_11 hB hz hfr hS => ?_)
      obtain ⟨hp_11, hJ_11⟩ := hp_11
      have E := bnd_e E hp_11
      have hP : va_P D vwCl (MWL cI cC cQ ad wn_11) H := ht ▸ hB
      exact W.iret (v := rn_11) hx hb hr (fun t ht hW => ⟨⟨_, wn_11, rfl, ⟨E.symm, hJ_11⟩, by show va_P _ _ _ t.heap; rw [ht]; exact hP⟩, hS.F ht⟩) hS.2.2 dX6_lots_28
  · have E := E.trans (if_pos c_2)
    have fc_2 := i_eq c_2
    rw [q_0] at fc_2
    refine lv_aload_n hx hb dX6_lots_11 rfl (lv_at hl 0 rfl) ?_
    refine lv_iconst (v := (-1)) hx hb dX6_lots_12 (by decide) ?_
    refine va_calli (va_runV (As := [.int (-1)]) (rest := []) ⟨hx, hb, hml, hown, hts⟩ (kX6_refuse l D cI cC cQ ad sd aK aV w (-1) hd hI) (cwV 1 hts gX6_lots_X6_refuse rfl rfl rfl mdX6_refuse ⟨Nat.le_of_ble_eq_true rfl, Nat.le_of_ble_eq_true rfl⟩) (x6_pre hK hP hN hSE hST hS) rfl rfl hl.1 rfl (lv_room (Nat.le_of_ble_eq_true rfl)) dX6_lots_13 ⟨Nat.zero_le _, Nat.zero_le _⟩) hS (fun _ _ h => h) (fun _ h => h) (fun rn_12 wn_12 t H locs ht hvm hp_12 hB hz hfr hS => ?_)
    obtain ⟨hp_12, hJ_12⟩ := hp_12
    have E := bnd_e E hp_12
    have hP : va_P D vwCl (MWL cI cC cQ ad wn_12) H := ht ▸ hB
    exact W.iret (v := rn_12) hx hb hr (fun t ht hW => ⟨⟨_, wn_12, rfl, ⟨E.symm, hJ_12⟩, by show va_P _ _ _ t.heap; rw [ht]; exact hP⟩, hS.F ht⟩) hS.2.2 dX6_lots_16
abbrev rmX6_image : Room := { frames := 3, cells := 0, slots := 0, locals := 60 }
set_option maxHeartbeats 4000000 in
set_option maxRecDepth 100000 in
theorem kX6_image (l : Launch) (D : va_G) (cI cC cQ : ClassId) (ad : Nat → Nat → Nat) (sd aK aV : Nat → Nat) (w : Nat → Nat → Nat → Int32) (hd : MD ad) (hI : R6I w)  : Met l yX6_image wsX6_image rmX6_image (va_Pc [Value.ref (ad 5 0)] (fun U => va_P D vwCl (MWL cI cC cQ ad w) U.heap ∧ va_K D vwCl [(cI, .int), (cC, .char), (cQ, .object "LoadedForTheLane$Way")] U ∧ NW U ∧ SE sd (MA ad) U U.heap ∧ STR aK aV (MA ad) U U.heap)) (va_Qi (fun r u => (r, u) = sX6_image w ∧ R6I u) (fun u t => va_P D vwCl (MWL cI cC cQ ad u) t.heap) (MA ad)) 0 0 (MA ad) := by
  refine Met.ofW (cc := cX6_image) (maxL := 1) (ret := (some .int)) (by decide) rfl ?_
  intro p e s m args below meth c s₁ B hml hv
  obtain ⟨rfl, hP, hK, hN, hSE, hST⟩ := hv
  have hx := B.exec
  have hb := B.bytes
  have hr := B.returns
  have hts := atoms_spec (ws := wsX6_image) B.pre
  have hown : s.vm.findClass RX6 = some m.cls := findClass_of_methodNamed B.named
  have hlocks := B.notSynchronized
  have hin4 : ∀ q ∈ wsX40, q ∈ wsX6_image := by decide +kernel
  have hin6 : ∀ q ∈ wsX60, q ∈ wsX6_image := by decide +kernel
  have hl := lv_entry ([.ref (ad 5 0)]) (n := 1) (Nat.le_of_ble_eq_true rfl)
  rw [lg_entry_eq]
  generalize (lg_sl ([.ref (ad 5 0)]) ++ List.replicate (1 - (lg_sl ([.ref (ad 5 0)])).length) Slot.unset).toArray = ls at hl ⊢
  have hl : lv_has ls 1 [(0, .ref (ad 5 0))] := hl
  suffices hgo : ∀ (H : Heap) (locs : List Loc), va_P D vwCl (MWL cI cC cQ ad w) H → va_S (MA ad) s.heap H locs → W p l e (headSpec wsX6_image rmX6_image).room s m [Value.ref (ad 5 0)].toArray below meth c H locs 0 0 (MQ below (va_Qi (fun r u => (r, u) = sX6_image w ∧ R6I u) (fun u t => va_P D vwCl (MWL cI cC cQ ad u) t.heap) (MA ad)) [Value.ref (ad 5 0)].toArray s 0 0 (MA ad)) (F0 m 0 ls []) from hgo s.heap [] hP va_S.rf
  intro H locs hP hS
  have E := sX6_image.eq_1 w
  refine lv_aload_n hx hb dX6_image_0 rfl (lv_at hl 0 rfl) ?_
  refine g6_imaged hx hb hts hin6 hown hK hP (hts (.fieldLink RX6 19 "LoadedForTheLane" "imaged" "LLoadedForTheLane$Wagon;") (by decide +kernel)) dX6_image_1 ?_
  refine lv_aload_n hx hb dX6_image_4 rfl (lv_at hl 0 rfl) ?_
  refine g6_wagon hx hb hts hin6 hown hK hP (hts (.fieldLink RX6 10 "LoadedForTheLane" "wagon" "LLoadedForTheLane$Wagon;") (by decide +kernel)) dX6_image_5 ?_
  refine va_callv (va_runVN (As := [.ref (ad 0 0)]) (rest := []) ⟨hx, hb, hml, hown, hts⟩ (kX4_become l D cI cC cQ (ad 2) (ad 0) (w 2) (w 0) (mdd_20 hd) (R6I_2 hI) (R6I_0 hI)) ⟨va_cnB 1 hts gX6_image_X4_become_n66 rfl rfl rfl (nm_RX6_66 hN) (hts (.initialized RX4) (by decide +kernel)) mdsX4_become ⟨Nat.le_of_ble_eq_true rfl, Nat.le_of_ble_eq_true rfl⟩, hts (.instanceMethod yX4_become) (by decide +kernel), hts (.selects RX4 yX4_become yX4_become) (by decide +kernel)⟩ (x4b_pre rfl hK ((mp_2 hP).app (mp_0 hP)) hN) rfl rfl hl.1 rfl (lv_room (Nat.le_of_ble_eq_true rfl)) dX6_image_8 ⟨Nat.zero_le _, Nat.zero_le _⟩) hS (fun _ _ h => mab_20 h) (fun _ h => mab_20 h) (fun un_1 t H locs ht hvm hp_1 hB hz hfr hS => ?_)
  obtain ⟨hp_1, hJ_1⟩ := hp_1
  have E := bns_e E hp_1
  have hP : va_P D vwCl (MWL cI cC cQ ad (sc w 2 un_1)) H := mp_bc20 hd hP (ht ▸ hB) hfr
  obtain ⟨wn_1, hwn_1⟩ : ∃ x, x = sc w 2 un_1 := ⟨_, rfl⟩
  rw [← hwn_1] at hP
  have E := bns_e E hwn_1
  have hI_1 : R6I wn_1 := by rw [hwn_1]; exact R6I_up2 hI hJ_1
  refine lv_aload_n hx hb dX6_image_11 rfl (lv_at hl 0 rfl) ?_
  refine lv_iconst (v := 1) hx hb dX6_image_12 (by decide) ?_
  refine p6_hasImage hx hb hts hin6 hown hK hP hd hS (Or.inr rfl) (hts (.fieldLink RX6 22 "LoadedForTheLane" "hasImage" "Z") (by decide +kernel)) dX6_image_13 (fun H locs hP hS => ?_)
  obtain ⟨wn_2, hwn_2⟩ : ∃ x, x = sc wn_1 5 (st (wn_1 5) 1 0 1) := ⟨_, rfl⟩
  rw [← hwn_2] at hP
  have E := bns_e E hwn_2
  have hI_2 : R6I wn_2 := by rw [hwn_2]; exact R6I_5 hI_1
  refine lv_aload_n hx hb dX6_image_16 rfl (lv_at hl 0 rfl) ?_
  refine g6_wagon hx hb hts hin6 hown hK hP (hts (.fieldLink RX6 10 "LoadedForTheLane" "wagon" "LLoadedForTheLane$Wagon;") (by decide +kernel)) dX6_image_17 ?_
  refine g4_layersn hx hb hts hin4 hown hK (mp_0 hP) (nf_RX6_99 hN) dX6_image_20 ?_
  have f_3 := R4I_layers (R6I_0 hI_2)
  exact W.iret (v := (wn_2 0) 6 0) hx hb hr (fun t ht hW => ⟨⟨_, wn_2, rfl, ⟨E.symm, hI_2⟩, by show va_P _ _ _ t.heap; rw [ht]; exact hP⟩, hS.F ht⟩) hS.2.2 dX6_image_23
abbrev rmX6_on : Room := { frames := 3, cells := 0, slots := 0, locals := 60 }
set_option maxHeartbeats 4000000 in
set_option maxRecDepth 100000 in
theorem kX6_on (l : Launch) (D : va_G) (cI cC cQ : ClassId) (ad : Nat → Nat → Nat) (sd aK aV : Nat → Nat) (w : Nat → Nat → Nat → Int32) (hd : MD ad) (hI : R6I w)  : Met l yX6_on wsX6_on rmX6_on (va_Pc [Value.ref (ad 5 0)] (fun U => va_P D vwCl (MWL cI cC cQ ad w) U.heap ∧ va_K D vwCl [(cI, .int), (cC, .char), (cQ, .object "LoadedForTheLane$Way")] U ∧ NW U ∧ SE sd (MA ad) U U.heap ∧ STR aK aV (MA ad) U U.heap)) (va_Qi (fun r u => (r, u) = sX6_on w ∧ R6I u) (fun u t => va_P D vwCl (MWL cI cC cQ ad u) t.heap) (MA ad)) 0 0 (MA ad) := by
  refine Met.ofW (cc := cX6_on) (maxL := 1) (ret := (some .int)) (by decide) rfl ?_
  intro p e s m args below meth c s₁ B hml hv
  obtain ⟨rfl, hP, hK, hN, hSE, hST⟩ := hv
  have hx := B.exec
  have hb := B.bytes
  have hr := B.returns
  have hts := atoms_spec (ws := wsX6_on) B.pre
  have hown : s.vm.findClass RX6 = some m.cls := findClass_of_methodNamed B.named
  have hlocks := B.notSynchronized
  have hin4 : ∀ q ∈ wsX40, q ∈ wsX6_on := by decide +kernel
  have hin6 : ∀ q ∈ wsX60, q ∈ wsX6_on := by decide +kernel
  have hl := lv_entry ([.ref (ad 5 0)]) (n := 1) (Nat.le_of_ble_eq_true rfl)
  rw [lg_entry_eq]
  generalize (lg_sl ([.ref (ad 5 0)]) ++ List.replicate (1 - (lg_sl ([.ref (ad 5 0)])).length) Slot.unset).toArray = ls at hl ⊢
  have hl : lv_has ls 1 [(0, .ref (ad 5 0))] := hl
  suffices hgo : ∀ (H : Heap) (locs : List Loc), va_P D vwCl (MWL cI cC cQ ad w) H → va_S (MA ad) s.heap H locs → W p l e (headSpec wsX6_on rmX6_on).room s m [Value.ref (ad 5 0)].toArray below meth c H locs 0 0 (MQ below (va_Qi (fun r u => (r, u) = sX6_on w ∧ R6I u) (fun u t => va_P D vwCl (MWL cI cC cQ ad u) t.heap) (MA ad)) [Value.ref (ad 5 0)].toArray s 0 0 (MA ad)) (F0 m 0 ls []) from hgo s.heap [] hP va_S.rf
  intro H locs hP hS
  have E := sX6_on.eq_1 w
  refine lv_aload_n hx hb dX6_on_0 rfl (lv_at hl 0 rfl) ?_
  refine g6_hasImage hx hb hts hin6 hown hK hP (hts (.fieldLink RX6 22 "LoadedForTheLane" "hasImage" "Z") (by decide +kernel)) dX6_on_1 ?_
  refine lv_if_ne (tgt := 14) hx hb dX6_on_4 (by decide) (fun c_1 => ?_) (fun c_1 => ?_)
  · have E := E.trans (if_neg c_1)
    have fc_1 := i_ne c_1
    rw [q_0] at fc_1
    refine lv_aload_n hx hb dX6_on_14 rfl (lv_at hl 0 rfl) ?_
    refine g6_wagon hx hb hts hin6 hown hK hP (hts (.fieldLink RX6 10 "LoadedForTheLane" "wagon" "LLoadedForTheLane$Wagon;") (by decide +kernel)) dX6_on_15 ?_
    refine lv_aload_n hx hb dX6_on_18 rfl (lv_at hl 0 rfl) ?_
    refine g6_imaged hx hb hts hin6 hown hK hP (hts (.fieldLink RX6 19 "LoadedForTheLane" "imaged" "LLoadedForTheLane$Wagon;") (by decide +kernel)) dX6_on_19 ?_
    refine va_callv (va_runVN (As := [.ref (ad 2 0)]) (rest := []) ⟨hx, hb, hml, hown, hts⟩ (kX4_become l D cI cC cQ (ad 0) (ad 2) (w 0) (w 2) (mdd_02 hd) (R6I_0 hI) (R6I_2 hI)) ⟨va_cnB 1 hts gX6_on_X4_become_n66 rfl rfl rfl (nm_RX6_66 hN) (hts (.initialized RX4) (by decide +kernel)) mdsX4_become ⟨Nat.le_of_ble_eq_true rfl, Nat.le_of_ble_eq_true rfl⟩, hts (.instanceMethod yX4_become) (by decide +kernel), hts (.selects RX4 yX4_become yX4_become) (by decide +kernel)⟩ (x4b_pre rfl hK ((mp_0 hP).app (mp_2 hP)) hN) rfl rfl hl.1 rfl (lv_room (Nat.le_of_ble_eq_true rfl)) dX6_on_22 ⟨Nat.zero_le _, Nat.zero_le _⟩) hS (fun _ _ h => mab_02 h) (fun _ h => mab_02 h) (fun un_2 t H locs ht hvm hp_2 hB hz hfr hS => ?_)
    obtain ⟨hp_2, hJ_2⟩ := hp_2
    have E := bns_e E hp_2
    have hP : va_P D vwCl (MWL cI cC cQ ad (sc w 0 un_2)) H := mp_bc02 hd hP (ht ▸ hB) hfr
    obtain ⟨wn_2, hwn_2⟩ : ∃ x, x = sc w 0 un_2 := ⟨_, rfl⟩
    rw [← hwn_2] at hP
    have E := bns_e E hwn_2
    have hI_2 : R6I wn_2 := by rw [hwn_2]; exact R6I_up0 hI hJ_2
    refine lv_aload_n hx hb dX6_on_25 rfl (lv_at hl 0 rfl) ?_
    refine g6_wagon hx hb hts hin6 hown hK hP (hts (.fieldLink RX6 10 "LoadedForTheLane" "wagon" "LLoadedForTheLane$Wagon;") (by decide +kernel)) dX6_on_26 ?_
    refine g4_layersn hx hb hts hin4 hown hK (mp_0 hP) (nf_RX6_99 hN) dX6_on_29 ?_
    have f_3 := R4I_layers (R6I_0 hI_2)
    exact W.iret (v := (wn_2 0) 6 0) hx hb hr (fun t ht hW => ⟨⟨_, wn_2, rfl, ⟨E.symm, hI_2⟩, by show va_P _ _ _ t.heap; rw [ht]; exact hP⟩, hS.F ht⟩) hS.2.2 dX6_on_32
  · have E := E.trans (if_pos c_1)
    have fc_1 := i_eq c_1
    rw [q_0] at fc_1
    refine lv_aload_n hx hb dX6_on_7 rfl (lv_at hl 0 rfl) ?_
    refine lv_bipush (v := (-3)) hx hb dX6_on_8 (by decide +kernel) ?_
    refine va_calli (va_runV (As := [.int (-3)]) (rest := []) ⟨hx, hb, hml, hown, hts⟩ (kX6_refuse l D cI cC cQ ad sd aK aV w (-3) hd hI) (cwV 1 hts gX6_on_X6_refuse rfl rfl rfl mdX6_refuse ⟨Nat.le_of_ble_eq_true rfl, Nat.le_of_ble_eq_true rfl⟩) (x6_pre hK hP hN hSE hST hS) rfl rfl hl.1 rfl (lv_room (Nat.le_of_ble_eq_true rfl)) dX6_on_10 ⟨Nat.zero_le _, Nat.zero_le _⟩) hS (fun _ _ h => h) (fun _ h => h) (fun rn_4 wn_4 t H locs ht hvm hp_4 hB hz hfr hS => ?_)
    obtain ⟨hp_4, hJ_4⟩ := hp_4
    have E := bnd_e E hp_4
    have hP : va_P D vwCl (MWL cI cC cQ ad wn_4) H := ht ▸ hB
    exact W.iret (v := rn_4) hx hb hr (fun t ht hW => ⟨⟨_, wn_4, rfl, ⟨E.symm, hJ_4⟩, by show va_P _ _ _ t.heap; rw [ht]; exact hP⟩, hS.F ht⟩) hS.2.2 dX6_on_13
abbrev rmX6_count : Room := { frames := 2, cells := 0, slots := 0, locals := 43 }
set_option maxHeartbeats 4000000 in
set_option maxRecDepth 100000 in
theorem kX6_count (l : Launch) (D : va_G) (cI cC cQ : ClassId) (ad : Nat → Nat → Nat) (sd aK aV : Nat → Nat) (w : Nat → Nat → Nat → Int32) (a1 : Int32)  (hI : R6I w)  : Met l yX6_count wsX6_count rmX6_count (va_Pc [Value.ref (ad 5 0), Value.int a1] (fun U => va_P D vwCl (MWL cI cC cQ ad w) U.heap ∧ va_K D vwCl [(cI, .int), (cC, .char), (cQ, .object "LoadedForTheLane$Way")] U ∧ NW U ∧ SE sd (MA ad) U U.heap ∧ STR aK aV (MA ad) U U.heap)) (vp_Si (fun r => r = sX6_count w a1)) 0 0 (fun _ => False) := by
  refine Met.ofW (cc := cX6_count) (maxL := 2) (ret := (some .int)) (by decide) rfl ?_
  intro p e s m args below meth c s₁ B hml hv
  obtain ⟨rfl, hP, hK, hN, hSE, hST⟩ := hv
  have hx := B.exec
  have hb := B.bytes
  have hr := B.returns
  have hts := atoms_spec (ws := wsX6_count) B.pre
  have hown : s.vm.findClass RX6 = some m.cls := findClass_of_methodNamed B.named
  have hlocks := B.notSynchronized
  have hin1 : ∀ q ∈ wsX10, q ∈ wsX6_count := by decide +kernel
  have hin3 : ∀ q ∈ wsX30, q ∈ wsX6_count := by decide +kernel
  have hin4 : ∀ q ∈ wsX40, q ∈ wsX6_count := by decide +kernel
  have hin5 : ∀ q ∈ wsX50, q ∈ wsX6_count := by decide +kernel
  have hin6 : ∀ q ∈ wsX60, q ∈ wsX6_count := by decide +kernel
  have hl := lv_entry ([.ref (ad 5 0), .int a1]) (n := 2) (Nat.le_of_ble_eq_true rfl)
  rw [lg_entry_eq]
  generalize (lg_sl ([.ref (ad 5 0), .int a1]) ++ List.replicate (2 - (lg_sl ([.ref (ad 5 0), .int a1])).length) Slot.unset).toArray = ls at hl ⊢
  have hl : lv_has ls 2 [(0, .ref (ad 5 0)), (1, .int a1)] := hl
  have E := sX6_count.eq_1 w a1
  refine lv_iload_n hx hb dX6_count_0 rfl (lv_at hl 1 rfl) ?_
  by_cases c_4 : a1 = 0
  · have E := E.trans (if_pos c_4)
    refine lv_tableIn (off := 55) (tgt := 56) hx hb dX6_count_1 (by rw [c_4]; decide) (by rw [c_4]; decide) (by rw [c_4]; rfl) (by decide) ?_
    have fc_4 := i_eq c_4
    rw [q_0] at fc_4
    refine lv_aload_n hx hb dX6_count_56 rfl (lv_at hl 0 rfl) ?_
    refine g6_wagon hx hb hts hin6 hown hK hP (hts (.fieldLink RX6 10 "LoadedForTheLane" "wagon" "LLoadedForTheLane$Wagon;") (by decide +kernel)) dX6_count_57 ?_
    refine g4_layersn hx hb hts hin4 hown hK (mp_0 hP) (nf_RX6_99 hN) dX6_count_60 ?_
    have f_5 := R4I_layers (R6I_0 hI)
    exact W.iret (v := (w 0) 6 0) hx hb hr (fun t ht hW => ⟨_, rfl, E.symm, ht⟩) (fun q hq => by cases hq) dX6_count_63
  have E := E.trans (if_neg c_4)
  have fc_4 := i_ne c_4
  rw [q_0] at fc_4
  by_cases c_6 : a1 = 1
  · have E := E.trans (if_pos c_6)
    refine lv_tableIn (off := 63) (tgt := 64) hx hb dX6_count_1 (by rw [c_6]; decide) (by rw [c_6]; decide) (by rw [c_6]; rfl) (by decide) ?_
    have fc_6 := i_eq c_6
    rw [q_1] at fc_6
    refine lv_aload_n hx hb dX6_count_64 rfl (lv_at hl 0 rfl) ?_
    refine g6_wagon hx hb hts hin6 hown hK hP (hts (.fieldLink RX6 10 "LoadedForTheLane" "wagon" "LLoadedForTheLane$Wagon;") (by decide +kernel)) dX6_count_65 ?_
    refine g4_waysn hx hb hts hin4 hown hK (mp_0 hP) (nf_RX6_115 hN) dX6_count_68 ?_
    refine lv_iconst (v := 0) hx hb dX6_count_71 (by decide) ?_
    have ix_7 : vp_in 0 2 := by unfold vp_in; decide
    refine q4_ways (j := 0) hx hb hK (mp_0 hP) ix_7 (by decide) dX6_count_72 ?_
    have hk_7 : 0 < 2 := by decide
    refine gw_piecesn hx hb hts hin5 hown hK (mp_0 hP) hk_7 (nf_RX6_264 hN) dX6_count_73 ?_
    have f_8 := R4I_pieces (R6I_0 hI) hk_7
    exact W.iret (v := (w 0) (13 + 4 * 0) 0) hx hb hr (fun t ht hW => ⟨_, rfl, E.symm, ht⟩) (fun q hq => by cases hq) dX6_count_76
  have E := E.trans (if_neg c_6)
  have fc_6 := i_ne c_6
  rw [q_1] at fc_6
  by_cases c_9 : a1 = 2
  · have E := E.trans (if_pos c_9)
    refine lv_tableIn (off := 76) (tgt := 77) hx hb dX6_count_1 (by rw [c_9]; decide) (by rw [c_9]; decide) (by rw [c_9]; rfl) (by decide) ?_
    have fc_9 := i_eq c_9
    rw [q_2] at fc_9
    refine lv_aload_n hx hb dX6_count_77 rfl (lv_at hl 0 rfl) ?_
    refine g6_wagon hx hb hts hin6 hown hK hP (hts (.fieldLink RX6 10 "LoadedForTheLane" "wagon" "LLoadedForTheLane$Wagon;") (by decide +kernel)) dX6_count_78 ?_
    refine g4_waysn hx hb hts hin4 hown hK (mp_0 hP) (nf_RX6_115 hN) dX6_count_81 ?_
    refine lv_iconst (v := 1) hx hb dX6_count_84 (by decide) ?_
    have ix_10 : vp_in 1 2 := by unfold vp_in; decide
    refine q4_ways (j := 1) hx hb hK (mp_0 hP) ix_10 (by decide) dX6_count_85 ?_
    have hk_10 : 1 < 2 := by decide
    refine gw_piecesn hx hb hts hin5 hown hK (mp_0 hP) hk_10 (nf_RX6_264 hN) dX6_count_86 ?_
    have f_11 := R4I_pieces (R6I_0 hI) hk_10
    exact W.iret (v := (w 0) (13 + 4 * 1) 0) hx hb hr (fun t ht hW => ⟨_, rfl, E.symm, ht⟩) (fun q hq => by cases hq) dX6_count_89
  have E := E.trans (if_neg c_9)
  have fc_9 := i_ne c_9
  rw [q_2] at fc_9
  by_cases c_12 : a1 = 3
  · have E := E.trans (if_pos c_12)
    refine lv_tableIn (off := 89) (tgt := 90) hx hb dX6_count_1 (by rw [c_12]; decide) (by rw [c_12]; decide) (by rw [c_12]; rfl) (by decide) ?_
    have fc_12 := i_eq c_12
    rw [q_3] at fc_12
    refine lv_aload_n hx hb dX6_count_90 rfl (lv_at hl 0 rfl) ?_
    refine g6_wagon hx hb hts hin6 hown hK hP (hts (.fieldLink RX6 10 "LoadedForTheLane" "wagon" "LLoadedForTheLane$Wagon;") (by decide +kernel)) dX6_count_91 ?_
    refine vp_callSi (va_Run.run (va_runVN (As := []) (rest := []) ⟨hx, hb, hml, hown, hts⟩ (kX4_height l D cI cC cQ (ad 0) (w 0) (R6I_0 hI)) ⟨va_cnB 0 hts gX6_count_X4_height_n267 rfl rfl rfl (nm_RX6_267 hN) (hts (.initialized RX4) (by decide +kernel)) mdsX4_height ⟨Nat.le_of_ble_eq_true rfl, Nat.le_of_ble_eq_true rfl⟩, hts (.instanceMethod yX4_height) (by decide +kernel), hts (.selects RX4 yX4_height yX4_height) (by decide +kernel)⟩ (x4_pre hK (mp_0 hP) hN) rfl rfl hl.1 rfl (lv_room (Nat.le_of_ble_eq_true rfl)) dX6_count_94 ⟨Nat.zero_le _, Nat.zero_le _⟩)) (fun rn_13 hr_13 => ?_)
    subst hr_13
    exact W.iret (v := (sX4_height (w 0))) hx hb hr (fun t ht hW => ⟨_, rfl, E.symm, ht⟩) (fun q hq => by cases hq) dX6_count_97
  have E := E.trans (if_neg c_12)
  have fc_12 := i_ne c_12
  rw [q_3] at fc_12
  by_cases c_14 : a1 = 4
  · have E := E.trans (if_pos c_14)
    refine lv_tableIn (off := 97) (tgt := 98) hx hb dX6_count_1 (by rw [c_14]; decide) (by rw [c_14]; decide) (by rw [c_14]; rfl) (by decide) ?_
    have fc_14 := i_eq c_14
    rw [q_4] at fc_14
    refine lv_aload_n hx hb dX6_count_98 rfl (lv_at hl 0 rfl) ?_
    refine g6_wagon hx hb hts hin6 hown hK hP (hts (.fieldLink RX6 10 "LoadedForTheLane" "wagon" "LLoadedForTheLane$Wagon;") (by decide +kernel)) dX6_count_99 ?_
    refine vp_callSi (va_Run.run (va_runVN (As := []) (rest := []) ⟨hx, hb, hml, hown, hts⟩ (kX4_width l D cI cC cQ (ad 0) (w 0) (R6I_0 hI)) ⟨va_cnB 0 hts gX6_count_X4_width_n270 rfl rfl rfl (nm_RX6_270 hN) (hts (.initialized RX4) (by decide +kernel)) mdsX4_width ⟨Nat.le_of_ble_eq_true rfl, Nat.le_of_ble_eq_true rfl⟩, hts (.instanceMethod yX4_width) (by decide +kernel), hts (.selects RX4 yX4_width yX4_width) (by decide +kernel)⟩ (x4_pre hK (mp_0 hP) hN) rfl rfl hl.1 rfl (lv_room (Nat.le_of_ble_eq_true rfl)) dX6_count_102 ⟨Nat.zero_le _, Nat.zero_le _⟩)) (fun rn_15 hr_15 => ?_)
    subst hr_15
    exact W.iret (v := (sX4_width (w 0))) hx hb hr (fun t ht hW => ⟨_, rfl, E.symm, ht⟩) (fun q hq => by cases hq) dX6_count_105
  have E := E.trans (if_neg c_14)
  have fc_14 := i_ne c_14
  rw [q_4] at fc_14
  by_cases c_16 : a1 = 5
  · have E := E.trans (if_pos c_16)
    refine lv_tableIn (off := 105) (tgt := 106) hx hb dX6_count_1 (by rw [c_16]; decide) (by rw [c_16]; decide) (by rw [c_16]; rfl) (by decide) ?_
    have fc_16 := i_eq c_16
    rw [q_5] at fc_16
    refine lv_aload_n hx hb dX6_count_106 rfl (lv_at hl 0 rfl) ?_
    refine g6_wagon hx hb hts hin6 hown hK hP (hts (.fieldLink RX6 10 "LoadedForTheLane" "wagon" "LLoadedForTheLane$Wagon;") (by decide +kernel)) dX6_count_107 ?_
    refine vp_callSi (va_Run.run (va_runVN (As := []) (rest := []) ⟨hx, hb, hml, hown, hts⟩ (kX4_allWeight l D cI cC cQ (ad 0) (w 0)) ⟨va_cnB 0 hts gX6_count_X4_allWeight_n273 rfl rfl rfl (nm_RX6_273 hN) (hts (.initialized RX4) (by decide +kernel)) mdsX4_allWeight ⟨Nat.le_of_ble_eq_true rfl, Nat.le_of_ble_eq_true rfl⟩, hts (.instanceMethod yX4_allWeight) (by decide +kernel), hts (.selects RX4 yX4_allWeight yX4_allWeight) (by decide +kernel)⟩ (x4_pre hK (mp_0 hP) hN) rfl rfl hl.1 rfl (lv_room (Nat.le_of_ble_eq_true rfl)) dX6_count_110 ⟨Nat.zero_le _, Nat.zero_le _⟩)) (fun rn_17 hr_17 => ?_)
    subst hr_17
    exact W.iret (v := (sX4_allWeight (w 0))) hx hb hr (fun t ht hW => ⟨_, rfl, E.symm, ht⟩) (fun q hq => by cases hq) dX6_count_113
  have E := E.trans (if_neg c_16)
  have fc_16 := i_ne c_16
  rw [q_5] at fc_16
  by_cases c_18 : a1 = 6
  · have E := E.trans (if_pos c_18)
    refine lv_tableIn (off := 113) (tgt := 114) hx hb dX6_count_1 (by rw [c_18]; decide) (by rw [c_18]; decide) (by rw [c_18]; rfl) (by decide) ?_
    have fc_18 := i_eq c_18
    rw [q_6] at fc_18
    refine lv_aload_n hx hb dX6_count_114 rfl (lv_at hl 0 rfl) ?_
    refine g6_wagon hx hb hts hin6 hown hK hP (hts (.fieldLink RX6 10 "LoadedForTheLane" "wagon" "LLoadedForTheLane$Wagon;") (by decide +kernel)) dX6_count_115 ?_
    refine vp_callSi (va_Run.run (va_runVN (As := []) (rest := []) ⟨hx, hb, hml, hown, hts⟩ (kX4_allSheaves l D cI cC cQ (ad 0) (w 0) (R6I_0 hI)) ⟨va_cnB 0 hts gX6_count_X4_allSheaves_n276 rfl rfl rfl (nm_RX6_276 hN) (hts (.initialized RX4) (by decide +kernel)) mdsX4_allSheaves ⟨Nat.le_of_ble_eq_true rfl, Nat.le_of_ble_eq_true rfl⟩, hts (.instanceMethod yX4_allSheaves) (by decide +kernel), hts (.selects RX4 yX4_allSheaves yX4_allSheaves) (by decide +kernel)⟩ (x4_pre hK (mp_0 hP) hN) rfl rfl hl.1 rfl (lv_room (Nat.le_of_ble_eq_true rfl)) dX6_count_118 ⟨Nat.zero_le _, Nat.zero_le _⟩)) (fun rn_19 hr_19 => ?_)
    subst hr_19
    exact W.iret (v := (sX4_allSheaves (w 0))) hx hb hr (fun t ht hW => ⟨_, rfl, E.symm, ht⟩) (fun q hq => by cases hq) dX6_count_121
  have E := E.trans (if_neg c_18)
  have fc_18 := i_ne c_18
  rw [q_6] at fc_18
  by_cases c_20 : a1 = 7
  · have E := E.trans (if_pos c_20)
    refine lv_tableIn (off := 121) (tgt := 122) hx hb dX6_count_1 (by rw [c_20]; decide) (by rw [c_20]; decide) (by rw [c_20]; rfl) (by decide) ?_
    have fc_20 := i_eq c_20
    rw [q_7] at fc_20
    refine lv_aload_n hx hb dX6_count_122 rfl (lv_at hl 0 rfl) ?_
    refine g6_wagon hx hb hts hin6 hown hK hP (hts (.fieldLink RX6 10 "LoadedForTheLane" "wagon" "LLoadedForTheLane$Wagon;") (by decide +kernel)) dX6_count_123 ?_
    refine g4_settingsn hx hb hts hin4 hown hK (mp_0 hP) (nf_RX6_173 hN) dX6_count_126 ?_
    refine lv_iconst (v := 0) hx hb dX6_count_129 (by decide) ?_
    have ix_21 : vp_in 0 4 := by unfold vp_in; decide
    refine l4_settings (j := 0) hx hb hK (mp_0 hP) ix_21 (by decide) dX6_count_130 ?_
    exact W.iret (v := (w 0) 7 0) hx hb hr (fun t ht hW => ⟨_, rfl, E.symm, ht⟩) (fun q hq => by cases hq) dX6_count_131
  have E := E.trans (if_neg c_20)
  have fc_20 := i_ne c_20
  rw [q_7] at fc_20
  by_cases c_22 : a1 = 8
  · have E := E.trans (if_pos c_22)
    refine lv_tableIn (off := 131) (tgt := 132) hx hb dX6_count_1 (by rw [c_22]; decide) (by rw [c_22]; decide) (by rw [c_22]; rfl) (by decide) ?_
    have fc_22 := i_eq c_22
    rw [q_8] at fc_22
    refine lv_aload_n hx hb dX6_count_132 rfl (lv_at hl 0 rfl) ?_
    refine g6_told hx hb hts hin6 hown hK hP (hts (.fieldLink RX6 36 "LoadedForTheLane" "told" "LLoadedForTheLane$Row;") (by decide +kernel)) dX6_count_133 ?_
    refine g3_sizen hx hb hts hin3 hown hK (mp_4 hP) (nf_RX6_251 hN) dX6_count_136 ?_
    have f_23 := R3I_size (R6I_4 hI)
    exact W.iret (v := (w 4) 1 0) hx hb hr (fun t ht hW => ⟨_, rfl, E.symm, ht⟩) (fun q hq => by cases hq) dX6_count_139
  have E := E.trans (if_neg c_22)
  have fc_22 := i_ne c_22
  rw [q_8] at fc_22
  by_cases c_24 : a1 = 9
  · have E := E.trans (if_pos c_24)
    refine lv_tableIn (off := 139) (tgt := 140) hx hb dX6_count_1 (by rw [c_24]; decide) (by rw [c_24]; decide) (by rw [c_24]; rfl) (by decide) ?_
    have fc_24 := i_eq c_24
    rw [q_9] at fc_24
    refine lv_aload_n hx hb dX6_count_140 rfl (lv_at hl 0 rfl) ?_
    refine g6_letters hx hb hts hin6 hown hK hP (hts (.fieldLink RX6 29 "LoadedForTheLane" "letters" "LLoadedForTheLane$Letters;") (by decide +kernel)) dX6_count_141 ?_
    refine g1_sizen hx hb hts hin1 hown hK (mp_3 hP) (nf_RX6_48 hN) dX6_count_144 ?_
    have f_25 := R1I_size (R6I_3 hI)
    exact W.iret (v := (w 3) 1 0) hx hb hr (fun t ht hW => ⟨_, rfl, E.symm, ht⟩) (fun q hq => by cases hq) dX6_count_147
  have E := E.trans (if_neg c_24)
  have fc_24 := i_ne c_24
  rw [q_9] at fc_24
  refine lv_tableOut (tgt := 148) hx hb dX6_count_1 (by omega) (by decide) ?_
  refine lv_iload_n hx hb dX6_count_148 rfl (lv_at hl 1 rfl) ?_
  refine lv_bipush (v := 11) hx hb dX6_count_149 (by decide +kernel) ?_
  refine lv_icmp_lt (tgt := 172) hx hb dX6_count_151 (by decide) (fun c_1 => ?_) (fun c_1 => ?_)
  · have E := E.trans (if_pos c_1)
    have fc_1 := i_lt c_1
    rw [q_11] at fc_1
    refine lv_bipush (v := (-9)) hx hb dX6_count_172 (by decide +kernel) ?_
    exact W.iret (v := (-9)) hx hb hr (fun t ht hW => ⟨_, rfl, E.symm, ht⟩) (fun q hq => by cases hq) dX6_count_174
  · have E := E.trans (if_neg c_1)
    have fc_1 := i_nlt c_1
    rw [q_11] at fc_1
    refine lv_iload_n hx hb dX6_count_154 rfl (lv_at hl 1 rfl) ?_
    refine lv_bipush (v := 16) hx hb dX6_count_155 (by decide +kernel) ?_
    refine lv_icmp_gt (tgt := 172) hx hb dX6_count_157 (by decide) (fun c_2 => ?_) (fun c_2 => ?_)
    · have E := E.trans (if_pos c_2)
      have fc_2 := i_lt c_2
      rw [q_16] at fc_2
      refine lv_bipush (v := (-9)) hx hb dX6_count_172 (by decide +kernel) ?_
      exact W.iret (v := (-9)) hx hb hr (fun t ht hW => ⟨_, rfl, E.symm, ht⟩) (fun q hq => by cases hq) dX6_count_174
    · have E := E.trans (if_neg c_2)
      have fc_2 := i_nlt c_2
      rw [q_16] at fc_2
      refine lv_aload_n hx hb dX6_count_160 rfl (lv_at hl 0 rfl) ?_
      refine g6_refusals hx hb hts hin6 hown hK hP (hts (.fieldLink RX6 40 "LoadedForTheLane" "refusals" "[I") (by decide +kernel)) dX6_count_161 ?_
      refine lv_iload_n hx hb dX6_count_164 rfl (lv_at hl 1 rfl) ?_
      refine lv_bipush (v := 10) hx hb dX6_count_165 (by decide +kernel) ?_
      refine lv_isub hx hb dX6_count_167 ?_
      try have := i_subr (a := a1) (b := 10) (n := 10) q_10 (by omega) (by omega)
      have ix_3 : vp_in (a1 - 10) 7 := ix_of (by omega) (by omega)
      refine l6_refusals (j := ((a1 - 10).toNatClampNeg)) hx hb hK hP ix_3 rfl dX6_count_168 ?_
      refine lv_goto (tgt := 174) hx hb dX6_count_169 (by decide) ?_
      exact W.iret (v := w 5 0 ((a1 - 10).toNatClampNeg)) hx hb hr (fun t ht hW => ⟨_, rfl, E.symm, ht⟩) (fun q hq => by cases hq) dX6_count_174
