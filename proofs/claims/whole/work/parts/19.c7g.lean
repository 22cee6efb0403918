abbrev rmX7_homeSheaves : Room := { frames := 2, cells := 0, slots := 0, locals := 43 }
set_option maxHeartbeats 4000000 in
set_option maxRecDepth 100000 in
theorem kX7_homeSheaves (l : Launch) (D : va_G) (cI : ClassId) (ad : Nat → Nat) (w : Nat → Nat → Int32) (a1 : Int32) (a2 : Int32) (a3 : Int32) (hd : RD ad) (hI : R7I w) (hs : H7S w a1) (h1 : 0 ≤ a1.toInt) (h2 : a1.toInt < 2) (h3 : 1 ≤ a2.toInt) (h4 : a2.toInt ≤ 4) (h5 : 0 ≤ a3.toInt) (h6 : a3.toInt ≤ 999) : Met l yX7_homeSheaves wsX7_homeSheaves rmX7_homeSheaves (va_Pc [Value.ref (ad 0), Value.int a1, Value.int a2, Value.int a3] (fun U => va_P D vwCl (RM cI ad w) U.heap ∧ va_K D vwCl [(cI, .int)] U)) (va_Qi (fun r u => (r, u) = sX7_homeSheaves w a1 a2 a3 ∧ (∀ k : Nat, k ≠ 25 → u k = w k)) (fun u t => va_P D vwCl (RM cI ad u) t.heap) (RA ad)) 0 0 (RA ad) := by
  refine Met.ofW (cc := cX7_homeSheaves) (maxL := 11) (ret := (some .int)) (by decide) rfl ?_
  intro p e s m args below meth c s₁ B hml hv
  obtain ⟨rfl, hP, hK⟩ := hv
  have hx := B.exec
  have hb := B.bytes
  have hr := B.returns
  have hts := atoms_spec (ws := wsX7_homeSheaves) B.pre
  have hown : s.vm.findClass RX7 = some m.cls := findClass_of_methodNamed B.named
  have hlocks := B.notSynchronized
  have hin : ∀ q ∈ wsX70, q ∈ wsX7_homeSheaves := by decide +kernel
  have hl := lv_entry ([.ref (ad 0), .int a1, .int a2, .int a3]) (n := 11) (Nat.le_of_ble_eq_true rfl)
  rw [lg_entry_eq]
  generalize (lg_sl ([.ref (ad 0), .int a1, .int a2, .int a3]) ++ List.replicate (11 - (lg_sl ([.ref (ad 0), .int a1, .int a2, .int a3])).length) Slot.unset).toArray = ls at hl ⊢
  have hl : lv_has ls 11 [(0, .ref (ad 0)), (1, .int a1), (2, .int a2), (3, .int a3)] := hl
  suffices hgo : ∀ (H : Heap) (locs : List Loc), va_P D vwCl (RM cI ad w) H → va_S (RA ad) s.heap H locs → W p l e (headSpec wsX7_homeSheaves rmX7_homeSheaves).room s m [Value.ref (ad 0), Value.int a1, Value.int a2, Value.int a3].toArray below meth c H locs 0 0 (MQ below (va_Qi (fun r u => (r, u) = sX7_homeSheaves w a1 a2 a3 ∧ (∀ k : Nat, k ≠ 25 → u k = w k)) (fun u t => va_P D vwCl (RM cI ad u) t.heap) (RA ad)) [Value.ref (ad 0), Value.int a1, Value.int a2, Value.int a3].toArray s 0 0 (RA ad)) (F0 m 0 ls []) from hgo s.heap [] hP va_S.rf
  intro H locs hP hS
  have E := sX7_homeSheaves.eq_1 w a1 a2 a3
  obtain ⟨hs1, hs2, hs3, hs4, hs5⟩ := hs
  have hkb : ∀ k : Nat, k ≠ 25 → w k = w k := fun _ _ => rfl
  refine lv_aload_n hx hb dX7_homeSheaves_0 rfl (lv_at hl 0 rfl) ?_
  refine lv_aload_n hx hb dX7_homeSheaves_1 rfl (lv_at hl 0 rfl) ?_
  refine g7_setting hx hb hts hin hown hK hP (hts (.fieldLink RX7 13 "LoadedForTheLaneModel" "setting" "[I") (by decide +kernel)) dX7_homeSheaves_2 ?_
  refine lv_iconst (v := 2) hx hb dX7_homeSheaves_5 (by decide) ?_
  have ix_1 : vp_in 2 4 := by unfold vp_in; decide
  refine l7_setting (j := 2) hx hb hK hP ix_1 (by decide) dX7_homeSheaves_6 ?_
  refine vp_callSi (va_Run.run (va_runV (As := [.int (w 1 2)]) (rest := []) ⟨hx, hb, hml, hown, hts⟩ (kX7_pitchMinutes l D cI ad w (w 1 2) hI (by omega)) (cwV 1 hts gX7_homeSheaves_X7_pitchMinutes rfl rfl rfl mdX7_pitchMinutes ⟨Nat.le_of_ble_eq_true rfl, Nat.le_of_ble_eq_true rfl⟩) (r7_pre hK hP) rfl rfl hl.1 rfl (lv_room (Nat.le_of_ble_eq_true rfl)) dX7_homeSheaves_7 ⟨Nat.zero_le _, Nat.zero_le _⟩)) (fun r_2 hr_2 => ?_)
  subst hr_2
  refine lv_istore (lv' := [(4, .int (sX7_pitchMinutes w (w 1 2))), (0, .ref (ad 0)), (1, .int a1), (2, .int a2), (3, .int a3)]) hx hb dX7_homeSheaves_10 hl (by decide) rfl (fun ls hl => ?_)
  refine lv_aload_n hx hb dX7_homeSheaves_12 rfl (lv_at hl 1 rfl) ?_
  refine lv_iload_n hx hb dX7_homeSheaves_13 rfl (lv_at hl 2 rfl) ?_
  refine vp_callSi (va_Run.run (va_runV (As := [.int a1]) (rest := []) ⟨hx, hb, hml, hown, hts⟩ (kX7_minutesOf l D cI ad w a1 hI (by omega) (by omega)) (cwV 1 hts gX7_homeSheaves_X7_minutesOf rfl rfl rfl mdX7_minutesOf ⟨Nat.le_of_ble_eq_true rfl, Nat.le_of_ble_eq_true rfl⟩) (r7_pre hK hP) rfl rfl hl.1 rfl (lv_room (Nat.le_of_ble_eq_true rfl)) dX7_homeSheaves_14 ⟨Nat.zero_le _, Nat.zero_le _⟩)) (fun r_3 hr_3 => ?_)
  subst hr_3
  refine lv_istore (lv' := [(5, .int (sX7_minutesOf w a1)), (4, .int (sX7_pitchMinutes w (w 1 2))), (0, .ref (ad 0)), (1, .int a1), (2, .int a2), (3, .int a3)]) hx hb dX7_homeSheaves_17 hl (by decide) rfl (fun ls hl => ?_)
  refine lv_iconst (v := 0) hx hb dX7_homeSheaves_19 (by decide) ?_
  refine lv_istore (lv' := [(6, .int 0), (5, .int (sX7_minutesOf w a1)), (4, .int (sX7_pitchMinutes w (w 1 2))), (0, .ref (ad 0)), (1, .int a1), (2, .int a2), (3, .int a3)]) hx hb dX7_homeSheaves_20 hl (by decide) rfl (fun ls hl => ?_)
  refine lv_iconst (v := 0) hx hb dX7_homeSheaves_22 (by decide) ?_
  refine lv_istore (lv' := [(7, .int 0), (6, .int 0), (5, .int (sX7_minutesOf w a1)), (4, .int (sX7_pitchMinutes w (w 1 2))), (0, .ref (ad 0)), (1, .int a1), (2, .int a2), (3, .int a3)]) hx hb dX7_homeSheaves_23 hl (by decide) rfl (fun ls hl => ?_)
  refine lv_iconst (v := 0) hx hb dX7_homeSheaves_25 (by decide) ?_
  refine lv_istore (lv' := [(8, .int 0), (7, .int 0), (6, .int 0), (5, .int (sX7_minutesOf w a1)), (4, .int (sX7_pitchMinutes w (w 1 2))), (0, .ref (ad 0)), (1, .int a1), (2, .int a2), (3, .int a3)]) hx hb dX7_homeSheaves_26 hl (by decide) rfl (fun ls hl => ?_)
  have L_28 : ∀ (n_28 : Nat) (x8_28 : Int32) (w_28 : Nat → Nat → Int32) (H : Heap) (locs : List Loc) (ls : Array Slot), ((0 ≤ x8_28.toInt) ∧ (x8_28.toInt ≤ 4) ∧ (∀ j : Nat, (j : Int) < x8_28.toInt → w_28 25 j = 0) ∧ (∀ k : Nat, k ≠ 25 → w_28 k = w k)) → (4 - x8_28.toInt < (n_28 : Int)) → R7I w_28 → va_P D vwCl (RM cI ad w_28) H → va_S (RA ad) s.heap H locs → lv_has ls 11 [(8, .int x8_28), (7, .int 0), (6, .int 0), (5, .int (sX7_minutesOf w a1)), (4, .int (sX7_pitchMinutes w (w 1 2))), (0, .ref (ad 0)), (2, .int a2), (3, .int a3)] → sX7_homeSheaves w a1 a2 a3 = sX7_homeSheaves_28 w a1 a2 a3 n_28 x8_28 w_28 → W p l e (headSpec wsX7_homeSheaves rmX7_homeSheaves).room s m [Value.ref (ad 0), Value.int a1, Value.int a2, Value.int a3].toArray below meth c H locs 0 0 (MQ below (va_Qi (fun r u => (r, u) = sX7_homeSheaves w a1 a2 a3 ∧ (∀ k : Nat, k ≠ 25 → u k = w k)) (fun u t => va_P D vwCl (RM cI ad u) t.heap) (RA ad)) [Value.ref (ad 0), Value.int a1, Value.int a2, Value.int a3].toArray s 0 0 (RA ad)) (F0 m 28 ls []) := by
    intro n_28
    induction n_28 with
    | zero =>
      intro x8_28 w_28 H locs ls hinv hm
      obtain ⟨v0_28, v1_28, v2_28, v3_28⟩ := hinv
      exact absurd hm (by omega)
    | succ n_28 ih_28 =>
      intro x8_28 w_28 H locs ls hinv hm_28 hI_28 hP hS hl E
      obtain ⟨v0_28, v1_28, v2_28, v3_28⟩ := hinv
      have E := E.trans (sX7_homeSheaves_28.eq_2 ..)
      refine lv_iload hx hb dX7_homeSheaves_28 (lv_at hl 0 rfl) ?_
      refine lv_iconst (v := 4) hx hb dX7_homeSheaves_30 (by decide) ?_
      refine lv_icmp_ge (tgt := 48) hx hb dX7_homeSheaves_31 (by decide) (fun c_4 => ?_) (fun c_4 => ?_)
      · have E := E.trans (if_pos c_4)
        have fc_4 := i_le c_4
        rw [q_4] at fc_4
        have L_48 : ∀ (n_48 : Nat) (x6_48 : Int32) (x7_48 : Int32) (w_48 : Nat → Nat → Int32) (H : Heap) (locs : List Loc) (ls : Array Slot), ((0 ≤ x6_48.toInt) ∧ (x6_48.toInt ≤ a3.toInt) ∧ (∀ j : Nat, j < 4 → 0 ≤ (w_48 25 j).toInt ∧ (w_48 25 j).toInt ≤ 2000) ∧ (∀ k : Nat, k ≠ 25 → w_48 k = w k)) → (a3.toInt - x6_48.toInt < (n_48 : Int)) → R7I w_48 → va_P D vwCl (RM cI ad w_48) H → va_S (RA ad) s.heap H locs → lv_has ls 11 [(7, .int x7_48), (6, .int x6_48), (5, .int (sX7_minutesOf w a1)), (4, .int (sX7_pitchMinutes w (w 1 2))), (0, .ref (ad 0)), (2, .int a2), (3, .int a3)] → sX7_homeSheaves w a1 a2 a3 = sX7_homeSheaves_48 w a1 a2 a3 n_48 x6_48 x7_48 w_48 → W p l e (headSpec wsX7_homeSheaves rmX7_homeSheaves).room s m [Value.ref (ad 0), Value.int a1, Value.int a2, Value.int a3].toArray below meth c H locs 0 0 (MQ below (va_Qi (fun r u => (r, u) = sX7_homeSheaves w a1 a2 a3 ∧ (∀ k : Nat, k ≠ 25 → u k = w k)) (fun u t => va_P D vwCl (RM cI ad u) t.heap) (RA ad)) [Value.ref (ad 0), Value.int a1, Value.int a2, Value.int a3].toArray s 0 0 (RA ad)) (F0 m 48 ls []) := by
          intro n_48
          induction n_48 with
          | zero =>
            intro x6_48 x7_48 w_48 H locs ls hinv hm
            obtain ⟨v0_48, v1_48, v2_48, v3_48⟩ := hinv
            exact absurd hm (by omega)
          | succ n_48 ih_48 =>
            intro x6_48 x7_48 w_48 H locs ls hinv hm_48 hI_48 hP hS hl E
            obtain ⟨v0_48, v1_48, v2_48, v3_48⟩ := hinv
            have E := E.trans (sX7_homeSheaves_48.eq_2 ..)
            have hkb := v3_48
            refine lv_iconst (v := 0) hx hb dX7_homeSheaves_48 (by decide) ?_
            refine lv_istore (lv' := [(8, .int 0), (7, .int x7_48), (6, .int x6_48), (5, .int (sX7_minutesOf w a1)), (4, .int (sX7_pitchMinutes w (w 1 2))), (0, .ref (ad 0)), (2, .int a2), (3, .int a3)]) hx hb dX7_homeSheaves_49 hl (by decide) rfl (fun ls hl => ?_)
            refine lv_iconst (v := 1) hx hb dX7_homeSheaves_51 (by decide) ?_
            refine lv_istore (lv' := [(9, .int 1), (8, .int 0), (7, .int x7_48), (6, .int x6_48), (5, .int (sX7_minutesOf w a1)), (4, .int (sX7_pitchMinutes w (w 1 2))), (0, .ref (ad 0)), (2, .int a2), (3, .int a3)]) hx hb dX7_homeSheaves_52 hl (by decide) rfl (fun ls hl => ?_)
            have L_54 : ∀ (n_54 : Nat) (x8_54 : Int32) (x9_54 : Int32) (ls : Array Slot), ((0 ≤ x8_54.toInt) ∧ (x8_54.toInt < 4) ∧ (1 ≤ x9_54.toInt) ∧ (x9_54.toInt ≤ 4)) → (4 - x9_54.toInt < (n_54 : Int)) → lv_has ls 11 [(9, .int x9_54), (8, .int x8_54), (7, .int x7_48), (6, .int x6_48), (5, .int (sX7_minutesOf w a1)), (4, .int (sX7_pitchMinutes w (w 1 2))), (0, .ref (ad 0)), (2, .int a2), (3, .int a3)] → sX7_homeSheaves w a1 a2 a3 = sX7_homeSheaves_54 w a1 a2 a3 x6_48 x7_48 w_48 (sX7_homeSheaves_48 w a1 a2 a3 n_48) n_54 x8_54 x9_54 → W p l e (headSpec wsX7_homeSheaves rmX7_homeSheaves).room s m [Value.ref (ad 0), Value.int a1, Value.int a2, Value.int a3].toArray below meth c H locs 0 0 (MQ below (va_Qi (fun r u => (r, u) = sX7_homeSheaves w a1 a2 a3 ∧ (∀ k : Nat, k ≠ 25 → u k = w k)) (fun u t => va_P D vwCl (RM cI ad u) t.heap) (RA ad)) [Value.ref (ad 0), Value.int a1, Value.int a2, Value.int a3].toArray s 0 0 (RA ad)) (F0 m 54 ls []) := by
              intro n_54
              induction n_54 with
              | zero =>
                intro x8_54 x9_54 ls hinv hm
                obtain ⟨v0_54, v1_54, v2_54, v3_54⟩ := hinv
                exact absurd hm (by omega)
              | succ n_54 ih_54 =>
                intro x8_54 x9_54 ls hinv hm_54 hl E
                obtain ⟨v0_54, v1_54, v2_54, v3_54⟩ := hinv
                have E := E.trans (sX7_homeSheaves_54.eq_2 ..)
                refine lv_iload hx hb dX7_homeSheaves_54 (lv_at hl 0 rfl) ?_
                refine lv_iload_n hx hb dX7_homeSheaves_56 rfl (lv_at hl 7 rfl) ?_
                refine lv_icmp_ge (tgt := 92) hx hb dX7_homeSheaves_57 (by decide) (fun c_5 => ?_) (fun c_5 => ?_)
                · have E := E.trans (if_pos c_5)
                  have fc_5 := i_le c_5
                  have hbk := v2_48 (x8_54.toNatClampNeg) (by have := ix_cl (x := x8_54) (by omega); omega)
                  refine lv_aload_n hx hb dX7_homeSheaves_92 rfl (lv_at hl 6 rfl) ?_
                  refine g7_backAt hx hb hts hin hown hK hP (hts (.fieldLink RX7 58 "LoadedForTheLaneModel" "backAt" "[I") (by decide +kernel)) dX7_homeSheaves_93 ?_
                  refine lv_iload hx hb dX7_homeSheaves_96 (lv_at hl 1 rfl) ?_
                  have ix_6 : vp_in x8_54 4 := ix_of (by omega) (by omega)
                  refine l7_backAt (j := x8_54.toNatClampNeg) hx hb hK hP ix_6 rfl dX7_homeSheaves_98 ?_
                  refine lv_iload hx hb dX7_homeSheaves_99 (lv_at hl 3 rfl) ?_
                  refine lv_icmp_le (tgt := 114) hx hb dX7_homeSheaves_101 (by decide) (fun c_7 => ?_) (fun c_7 => ?_)
                  · have E := E.trans (if_pos c_7)
                    have fc_7 := i_le c_7
                    refine lv_iload hx hb dX7_homeSheaves_114 (lv_at hl 3 rfl) ?_
                    refine lv_istore (lv' := [(9, .int x6_48), (8, .int x8_54), (7, .int x7_48), (6, .int x6_48), (5, .int (sX7_minutesOf w a1)), (4, .int (sX7_pitchMinutes w (w 1 2))), (0, .ref (ad 0)), (2, .int a2), (3, .int a3)]) hx hb dX7_homeSheaves_116 hl (by decide) rfl (fun ls hl => ?_)
                    refine lv_iload hx hb dX7_homeSheaves_118 (lv_at hl 0 rfl) ?_
                    refine lv_iload hx hb dX7_homeSheaves_120 (lv_at hl 5 rfl) ?_
                    refine lv_iadd hx hb dX7_homeSheaves_122 ?_
                    refine lv_istore (lv' := [(6, .int (x6_48 + (sX7_pitchMinutes w (w 1 2)))), (9, .int x6_48), (8, .int x8_54), (7, .int x7_48), (5, .int (sX7_minutesOf w a1)), (4, .int (sX7_pitchMinutes w (w 1 2))), (0, .ref (ad 0)), (2, .int a2), (3, .int a3)]) hx hb dX7_homeSheaves_123 hl (by decide) rfl (fun ls hl => ?_)
                    refine lv_iload hx hb dX7_homeSheaves_125 (lv_at hl 0 rfl) ?_
                    refine lv_iload hx hb dX7_homeSheaves_127 (lv_at hl 4 rfl) ?_
                    refine lv_iadd hx hb dX7_homeSheaves_129 ?_
                    refine lv_iload hx hb dX7_homeSheaves_130 (lv_at hl 5 rfl) ?_
                    refine lv_iadd hx hb dX7_homeSheaves_132 ?_
                    refine lv_istore (lv' := [(10, .int (((x6_48 + (sX7_pitchMinutes w (w 1 2))) + (sX7_minutesOf w a1)) + (sX7_pitchMinutes w (w 1 2)))), (6, .int (x6_48 + (sX7_pitchMinutes w (w 1 2)))), (9, .int x6_48), (8, .int x8_54), (7, .int x7_48), (5, .int (sX7_minutesOf w a1)), (4, .int (sX7_pitchMinutes w (w 1 2))), (0, .ref (ad 0)), (2, .int a2), (3, .int a3)]) hx hb dX7_homeSheaves_133 hl (by decide) rfl (fun ls hl => ?_)
                    refine lv_iload hx hb dX7_homeSheaves_135 (lv_at hl 0 rfl) ?_
                    refine lv_iload_n hx hb dX7_homeSheaves_137 rfl (lv_at hl 9 rfl) ?_
                    try have := i_add (a := x6_48) (b := (sX7_pitchMinutes w (w 1 2))) (by omega) (by omega)
                    try have := i_add (a := x6_48 + (sX7_pitchMinutes w (w 1 2))) (b := (sX7_minutesOf w a1)) (by omega) (by omega)
                    try have := i_add (a := (x6_48 + (sX7_pitchMinutes w (w 1 2))) + (sX7_minutesOf w a1)) (b := (sX7_pitchMinutes w (w 1 2))) (by omega) (by omega)
                    refine lv_icmp_le (tgt := 164) hx hb dX7_homeSheaves_138 (by decide) (fun c_8 => ?_) (fun c_8 => ?_)
                    · have E := E.trans (if_pos c_8)
                      have fc_8 := i_le c_8
                      refine lv_iload hx hb dX7_homeSheaves_164 (lv_at hl 4 rfl) ?_
                      refine lv_aload_n hx hb dX7_homeSheaves_166 rfl (lv_at hl 7 rfl) ?_
                      refine vp_callSi (va_Run.run (va_runV (As := []) (rest := [.int x7_48]) ⟨hx, hb, hml, hown, hts⟩ (kX7_allSheaves l D cI ad w_48 hI_48) (cwV 0 hts gX7_homeSheaves_X7_allSheaves rfl rfl rfl mdX7_allSheaves ⟨Nat.le_of_ble_eq_true rfl, Nat.le_of_ble_eq_true rfl⟩) (r7_pre hK hP) rfl rfl hl.1 rfl (lv_room (Nat.le_of_ble_eq_true rfl)) dX7_homeSheaves_167 ⟨Nat.zero_le _, Nat.zero_le _⟩)) (fun r_9 hr_9 => ?_)
                      subst hr_9
                      refine lv_iadd hx hb dX7_homeSheaves_170 ?_
                      refine lv_istore (lv' := [(7, .int (x7_48 + (sX7_allSheaves w_48))), (10, .int (((x6_48 + (sX7_pitchMinutes w (w 1 2))) + (sX7_minutesOf w a1)) + (sX7_pitchMinutes w (w 1 2)))), (6, .int (x6_48 + (sX7_pitchMinutes w (w 1 2)))), (9, .int x6_48), (8, .int x8_54), (5, .int (sX7_minutesOf w a1)), (4, .int (sX7_pitchMinutes w (w 1 2))), (0, .ref (ad 0)), (2, .int a2), (3, .int a3)]) hx hb dX7_homeSheaves_171 hl (by decide) rfl (fun ls hl => ?_)
                      refine lv_aload_n hx hb dX7_homeSheaves_173 rfl (lv_at hl 7 rfl) ?_
                      refine g7_backAt hx hb hts hin hown hK hP (hts (.fieldLink RX7 58 "LoadedForTheLaneModel" "backAt" "[I") (by decide +kernel)) dX7_homeSheaves_174 ?_
                      refine lv_iload hx hb dX7_homeSheaves_177 (lv_at hl 4 rfl) ?_
                      refine lv_iload hx hb dX7_homeSheaves_179 (lv_at hl 1 rfl) ?_
                      refine lv_iload hx hb dX7_homeSheaves_181 (lv_at hl 5 rfl) ?_
                      refine lv_iadd hx hb dX7_homeSheaves_183 ?_
                      try have := i_add (a := x6_48) (b := (sX7_pitchMinutes w (w 1 2))) (by omega) (by omega)
                      try have := i_add (a := x6_48 + (sX7_pitchMinutes w (w 1 2))) (b := (sX7_minutesOf w a1)) (by omega) (by omega)
                      try have := i_add (a := (x6_48 + (sX7_pitchMinutes w (w 1 2))) + (sX7_minutesOf w a1)) (b := (sX7_pitchMinutes w (w 1 2))) (by omega) (by omega)
                      try have := i_add (a := ((x6_48 + (sX7_pitchMinutes w (w 1 2))) + (sX7_minutesOf w a1)) + (sX7_pitchMinutes w (w 1 2))) (b := (sX7_minutesOf w a1)) (by omega) (by omega)
                      have ix_10 : vp_in x8_54 4 := ix_of (by omega) (by omega)
                      refine a7_backAt (j := x8_54.toNatClampNeg) hx hb hK hP hd hS ix_10 rfl dX7_homeSheaves_184 (fun H locs hP hS => ?_)
                      obtain ⟨wn_10, hwn_10⟩ : ∃ x, x = st w_48 25 (x8_54.toNatClampNeg) ((((x6_48 + (sX7_pitchMinutes w (w 1 2))) + (sX7_minutesOf w a1)) + (sX7_pitchMinutes w (w 1 2))) + (sX7_minutesOf w a1)) := ⟨_, rfl⟩
                      rw [← hwn_10] at hP
                      have E := bns_e E hwn_10
                      have hI_10 : R7I wn_10 := by rw [hwn_10]; exact R7I_put_backAt hI_48
                      refine lv_goto (tgt := 48) hx hb dX7_homeSheaves_185 (by decide) ?_
                      try have := i_add (a := x6_48) (b := (sX7_pitchMinutes w (w 1 2))) (by omega) (by omega)
                      exact ih_48 (x6_48 + (sX7_pitchMinutes w (w 1 2))) (x7_48 + (sX7_allSheaves w_48)) wn_10 H locs ls ⟨by omega, by omega, by intro j hj; rw [hwn_10]; exact st_bnd v2_48 (by omega) (by omega) j hj, fun k hk => (show wn_10 k = w_48 k by rw [hwn_10]; exact st_o hk).trans (v3_48 k hk)⟩ (by omega) hI_10 hP hS (lv_sub hl [0, 2, 5, 6, 7, 8, 9] rfl) E
                    · have E := E.trans (if_neg c_8)
                      have fc_8 := i_nle c_8
                      refine lv_iload hx hb dX7_homeSheaves_141 (lv_at hl 4 rfl) ?_
                      refine lv_aload_n hx hb dX7_homeSheaves_143 rfl (lv_at hl 7 rfl) ?_
                      refine g7_setting hx hb hts hin hown hK hP (hts (.fieldLink RX7 13 "LoadedForTheLaneModel" "setting" "[I") (by decide +kernel)) dX7_homeSheaves_144 ?_
                      refine lv_iconst (v := 3) hx hb dX7_homeSheaves_147 (by decide) ?_
                      have ix_11 : vp_in 3 4 := by unfold vp_in; decide
                      refine l7_setting (j := 3) hx hb hK hP ix_11 (by decide) dX7_homeSheaves_148 ?_
                      refine lv_icmp_ge (tgt := 157) hx hb dX7_homeSheaves_149 (by decide) (fun c_12 => ?_) (fun c_12 => ?_)
                      · have E := E.trans (if_pos c_12)
                        have fc_12 := i_le c_12
                        refine lv_aload_n hx hb dX7_homeSheaves_157 rfl (lv_at hl 7 rfl) ?_
                        refine g7_setting hx hb hts hin hown hK hP (hts (.fieldLink RX7 13 "LoadedForTheLaneModel" "setting" "[I") (by decide +kernel)) dX7_homeSheaves_158 ?_
                        refine lv_iconst (v := 3) hx hb dX7_homeSheaves_161 (by decide) ?_
                        have ix_13 : vp_in 3 4 := by unfold vp_in; decide
                        refine l7_setting (j := 3) hx hb hK hP ix_13 (by decide) dX7_homeSheaves_162 ?_
                        exact W.iret (v := w_48 1 3) hx hb hr (fun t ht hW => ⟨⟨_, w_48, rfl, ⟨E.symm, hkb⟩, by show va_P _ _ _ t.heap; rw [ht]; exact hP⟩, hS.F ht⟩) hS.2.2 dX7_homeSheaves_163
                      · have E := E.trans (if_neg c_12)
                        have fc_12 := i_nle c_12
                        refine lv_iload hx hb dX7_homeSheaves_152 (lv_at hl 4 rfl) ?_
                        refine lv_goto (tgt := 163) hx hb dX7_homeSheaves_154 (by decide) ?_
                        exact W.iret (v := x7_48) hx hb hr (fun t ht hW => ⟨⟨_, w_48, rfl, ⟨E.symm, hkb⟩, by show va_P _ _ _ t.heap; rw [ht]; exact hP⟩, hS.F ht⟩) hS.2.2 dX7_homeSheaves_163
                  · have E := E.trans (if_neg c_7)
                    have fc_7 := i_nle c_7
                    refine lv_aload_n hx hb dX7_homeSheaves_104 rfl (lv_at hl 6 rfl) ?_
                    refine g7_backAt hx hb hts hin hown hK hP (hts (.fieldLink RX7 58 "LoadedForTheLaneModel" "backAt" "[I") (by decide +kernel)) dX7_homeSheaves_105 ?_
                    refine lv_iload hx hb dX7_homeSheaves_108 (lv_at hl 1 rfl) ?_
                    have ix_14 : vp_in x8_54 4 := ix_of (by omega) (by omega)
                    refine l7_backAt (j := x8_54.toNatClampNeg) hx hb hK hP ix_14 rfl dX7_homeSheaves_110 ?_
                    refine lv_goto (tgt := 116) hx hb dX7_homeSheaves_111 (by decide) ?_
                    refine lv_istore (lv' := [(9, .int (w_48 25 (x8_54.toNatClampNeg))), (8, .int x8_54), (7, .int x7_48), (6, .int x6_48), (5, .int (sX7_minutesOf w a1)), (4, .int (sX7_pitchMinutes w (w 1 2))), (0, .ref (ad 0)), (2, .int a2), (3, .int a3)]) hx hb dX7_homeSheaves_116 hl (by decide) rfl (fun ls hl => ?_)
                    refine lv_iload hx hb dX7_homeSheaves_118 (lv_at hl 0 rfl) ?_
                    refine lv_iload hx hb dX7_homeSheaves_120 (lv_at hl 5 rfl) ?_
                    refine lv_iadd hx hb dX7_homeSheaves_122 ?_
                    refine lv_istore (lv' := [(6, .int ((w_48 25 (x8_54.toNatClampNeg)) + (sX7_pitchMinutes w (w 1 2)))), (9, .int (w_48 25 (x8_54.toNatClampNeg))), (8, .int x8_54), (7, .int x7_48), (5, .int (sX7_minutesOf w a1)), (4, .int (sX7_pitchMinutes w (w 1 2))), (0, .ref (ad 0)), (2, .int a2), (3, .int a3)]) hx hb dX7_homeSheaves_123 hl (by decide) rfl (fun ls hl => ?_)
                    refine lv_iload hx hb dX7_homeSheaves_125 (lv_at hl 0 rfl) ?_
                    refine lv_iload hx hb dX7_homeSheaves_127 (lv_at hl 4 rfl) ?_
                    refine lv_iadd hx hb dX7_homeSheaves_129 ?_
                    refine lv_iload hx hb dX7_homeSheaves_130 (lv_at hl 5 rfl) ?_
                    refine lv_iadd hx hb dX7_homeSheaves_132 ?_
                    refine lv_istore (lv' := [(10, .int ((((w_48 25 (x8_54.toNatClampNeg)) + (sX7_pitchMinutes w (w 1 2))) + (sX7_minutesOf w a1)) + (sX7_pitchMinutes w (w 1 2)))), (6, .int ((w_48 25 (x8_54.toNatClampNeg)) + (sX7_pitchMinutes w (w 1 2)))), (9, .int (w_48 25 (x8_54.toNatClampNeg))), (8, .int x8_54), (7, .int x7_48), (5, .int (sX7_minutesOf w a1)), (4, .int (sX7_pitchMinutes w (w 1 2))), (0, .ref (ad 0)), (2, .int a2), (3, .int a3)]) hx hb dX7_homeSheaves_133 hl (by decide) rfl (fun ls hl => ?_)
                    refine lv_iload hx hb dX7_homeSheaves_135 (lv_at hl 0 rfl) ?_
                    refine lv_iload_n hx hb dX7_homeSheaves_137 rfl (lv_at hl 9 rfl) ?_
                    try have := i_add (a := w_48 25 (x8_54.toNatClampNeg)) (b := (sX7_pitchMinutes w (w 1 2))) (by omega) (by omega)
                    try have := i_add (a := (w_48 25 (x8_54.toNatClampNeg)) + (sX7_pitchMinutes w (w 1 2))) (b := (sX7_minutesOf w a1)) (by omega) (by omega)
                    try have := i_add (a := ((w_48 25 (x8_54.toNatClampNeg)) + (sX7_pitchMinutes w (w 1 2))) + (sX7_minutesOf w a1)) (b := (sX7_pitchMinutes w (w 1 2))) (by omega) (by omega)
                    refine lv_icmp_le (tgt := 164) hx hb dX7_homeSheaves_138 (by decide) (fun c_15 => ?_) (fun c_15 => ?_)
                    · have E := E.trans (if_pos c_15)
                      have fc_15 := i_le c_15
                      refine lv_iload hx hb dX7_homeSheaves_164 (lv_at hl 4 rfl) ?_
                      refine lv_aload_n hx hb dX7_homeSheaves_166 rfl (lv_at hl 7 rfl) ?_
                      refine vp_callSi (va_Run.run (va_runV (As := []) (rest := [.int x7_48]) ⟨hx, hb, hml, hown, hts⟩ (kX7_allSheaves l D cI ad w_48 hI_48) (cwV 0 hts gX7_homeSheaves_X7_allSheaves rfl rfl rfl mdX7_allSheaves ⟨Nat.le_of_ble_eq_true rfl, Nat.le_of_ble_eq_true rfl⟩) (r7_pre hK hP) rfl rfl hl.1 rfl (lv_room (Nat.le_of_ble_eq_true rfl)) dX7_homeSheaves_167 ⟨Nat.zero_le _, Nat.zero_le _⟩)) (fun r_16 hr_16 => ?_)
                      subst hr_16
                      refine lv_iadd hx hb dX7_homeSheaves_170 ?_
                      refine lv_istore (lv' := [(7, .int (x7_48 + (sX7_allSheaves w_48))), (10, .int ((((w_48 25 (x8_54.toNatClampNeg)) + (sX7_pitchMinutes w (w 1 2))) + (sX7_minutesOf w a1)) + (sX7_pitchMinutes w (w 1 2)))), (6, .int ((w_48 25 (x8_54.toNatClampNeg)) + (sX7_pitchMinutes w (w 1 2)))), (9, .int (w_48 25 (x8_54.toNatClampNeg))), (8, .int x8_54), (5, .int (sX7_minutesOf w a1)), (4, .int (sX7_pitchMinutes w (w 1 2))), (0, .ref (ad 0)), (2, .int a2), (3, .int a3)]) hx hb dX7_homeSheaves_171 hl (by decide) rfl (fun ls hl => ?_)
                      refine lv_aload_n hx hb dX7_homeSheaves_173 rfl (lv_at hl 7 rfl) ?_
                      refine g7_backAt hx hb hts hin hown hK hP (hts (.fieldLink RX7 58 "LoadedForTheLaneModel" "backAt" "[I") (by decide +kernel)) dX7_homeSheaves_174 ?_
                      refine lv_iload hx hb dX7_homeSheaves_177 (lv_at hl 4 rfl) ?_
                      refine lv_iload hx hb dX7_homeSheaves_179 (lv_at hl 1 rfl) ?_
                      refine lv_iload hx hb dX7_homeSheaves_181 (lv_at hl 5 rfl) ?_
                      refine lv_iadd hx hb dX7_homeSheaves_183 ?_
                      try have := i_add (a := w_48 25 (x8_54.toNatClampNeg)) (b := (sX7_pitchMinutes w (w 1 2))) (by omega) (by omega)
                      try have := i_add (a := (w_48 25 (x8_54.toNatClampNeg)) + (sX7_pitchMinutes w (w 1 2))) (b := (sX7_minutesOf w a1)) (by omega) (by omega)
                      try have := i_add (a := ((w_48 25 (x8_54.toNatClampNeg)) + (sX7_pitchMinutes w (w 1 2))) + (sX7_minutesOf w a1)) (b := (sX7_pitchMinutes w (w 1 2))) (by omega) (by omega)
                      try have := i_add (a := (((w_48 25 (x8_54.toNatClampNeg)) + (sX7_pitchMinutes w (w 1 2))) + (sX7_minutesOf w a1)) + (sX7_pitchMinutes w (w 1 2))) (b := (sX7_minutesOf w a1)) (by omega) (by omega)
                      have ix_17 : vp_in x8_54 4 := ix_of (by omega) (by omega)
                      refine a7_backAt (j := x8_54.toNatClampNeg) hx hb hK hP hd hS ix_17 rfl dX7_homeSheaves_184 (fun H locs hP hS => ?_)
                      obtain ⟨wn_17, hwn_17⟩ : ∃ x, x = st w_48 25 (x8_54.toNatClampNeg) (((((w_48 25 (x8_54.toNatClampNeg)) + (sX7_pitchMinutes w (w 1 2))) + (sX7_minutesOf w a1)) + (sX7_pitchMinutes w (w 1 2))) + (sX7_minutesOf w a1)) := ⟨_, rfl⟩
                      rw [← hwn_17] at hP
                      have E := bns_e E hwn_17
                      have hI_17 : R7I wn_17 := by rw [hwn_17]; exact R7I_put_backAt hI_48
                      refine lv_goto (tgt := 48) hx hb dX7_homeSheaves_185 (by decide) ?_
                      try have := i_add (a := w_48 25 (x8_54.toNatClampNeg)) (b := (sX7_pitchMinutes w (w 1 2))) (by omega) (by omega)
                      exact ih_48 ((w_48 25 (x8_54.toNatClampNeg)) + (sX7_pitchMinutes w (w 1 2))) (x7_48 + (sX7_allSheaves w_48)) wn_17 H locs ls ⟨by omega, by omega, by intro j hj; rw [hwn_17]; exact st_bnd v2_48 (by omega) (by omega) j hj, fun k hk => (show wn_17 k = w_48 k by rw [hwn_17]; exact st_o hk).trans (v3_48 k hk)⟩ (by omega) hI_17 hP hS (lv_sub hl [0, 2, 5, 6, 7, 8, 9] rfl) E
                    · have E := E.trans (if_neg c_15)
                      have fc_15 := i_nle c_15
                      refine lv_iload hx hb dX7_homeSheaves_141 (lv_at hl 4 rfl) ?_
                      refine lv_aload_n hx hb dX7_homeSheaves_143 rfl (lv_at hl 7 rfl) ?_
                      refine g7_setting hx hb hts hin hown hK hP (hts (.fieldLink RX7 13 "LoadedForTheLaneModel" "setting" "[I") (by decide +kernel)) dX7_homeSheaves_144 ?_
                      refine lv_iconst (v := 3) hx hb dX7_homeSheaves_147 (by decide) ?_
                      have ix_18 : vp_in 3 4 := by unfold vp_in; decide
                      refine l7_setting (j := 3) hx hb hK hP ix_18 (by decide) dX7_homeSheaves_148 ?_
                      refine lv_icmp_ge (tgt := 157) hx hb dX7_homeSheaves_149 (by decide) (fun c_19 => ?_) (fun c_19 => ?_)
                      · have E := E.trans (if_pos c_19)
                        have fc_19 := i_le c_19
                        refine lv_aload_n hx hb dX7_homeSheaves_157 rfl (lv_at hl 7 rfl) ?_
                        refine g7_setting hx hb hts hin hown hK hP (hts (.fieldLink RX7 13 "LoadedForTheLaneModel" "setting" "[I") (by decide +kernel)) dX7_homeSheaves_158 ?_
                        refine lv_iconst (v := 3) hx hb dX7_homeSheaves_161 (by decide) ?_
                        have ix_20 : vp_in 3 4 := by unfold vp_in; decide
                        refine l7_setting (j := 3) hx hb hK hP ix_20 (by decide) dX7_homeSheaves_162 ?_
                        exact W.iret (v := w_48 1 3) hx hb hr (fun t ht hW => ⟨⟨_, w_48, rfl, ⟨E.symm, hkb⟩, by show va_P _ _ _ t.heap; rw [ht]; exact hP⟩, hS.F ht⟩) hS.2.2 dX7_homeSheaves_163
                      · have E := E.trans (if_neg c_19)
                        have fc_19 := i_nle c_19
                        refine lv_iload hx hb dX7_homeSheaves_152 (lv_at hl 4 rfl) ?_
                        refine lv_goto (tgt := 163) hx hb dX7_homeSheaves_154 (by decide) ?_
                        exact W.iret (v := x7_48) hx hb hr (fun t ht hW => ⟨⟨_, w_48, rfl, ⟨E.symm, hkb⟩, by show va_P _ _ _ t.heap; rw [ht]; exact hP⟩, hS.F ht⟩) hS.2.2 dX7_homeSheaves_163
                · have E := E.trans (if_neg c_5)
                  have fc_5 := i_nle c_5
                  refine lv_aload_n hx hb dX7_homeSheaves_60 rfl (lv_at hl 6 rfl) ?_
                  refine g7_backAt hx hb hts hin hown hK hP (hts (.fieldLink RX7 58 "LoadedForTheLaneModel" "backAt" "[I") (by decide +kernel)) dX7_homeSheaves_61 ?_
                  refine lv_iload hx hb dX7_homeSheaves_64 (lv_at hl 0 rfl) ?_
                  have ix_21 : vp_in x9_54 4 := ix_of (by omega) (by omega)
                  refine l7_backAt (j := x9_54.toNatClampNeg) hx hb hK hP ix_21 rfl dX7_homeSheaves_66 ?_
                  refine lv_aload_n hx hb dX7_homeSheaves_67 rfl (lv_at hl 6 rfl) ?_
                  refine g7_backAt hx hb hts hin hown hK hP (hts (.fieldLink RX7 58 "LoadedForTheLaneModel" "backAt" "[I") (by decide +kernel)) dX7_homeSheaves_68 ?_
                  refine lv_iload hx hb dX7_homeSheaves_71 (lv_at hl 1 rfl) ?_
                  have ix_22 : vp_in x8_54 4 := ix_of (by omega) (by omega)
                  refine l7_backAt (j := x8_54.toNatClampNeg) hx hb hK hP ix_22 rfl dX7_homeSheaves_73 ?_
                  refine lv_icmp_ge (tgt := 82) hx hb dX7_homeSheaves_74 (by decide) (fun c_23 => ?_) (fun c_23 => ?_)
                  · have E := E.trans (if_pos c_23)
                    have fc_23 := i_le c_23
                    refine lv_iload hx hb dX7_homeSheaves_82 (lv_at hl 1 rfl) ?_
                    refine lv_istore (lv' := [(8, .int x8_54), (9, .int x9_54), (7, .int x7_48), (6, .int x6_48), (5, .int (sX7_minutesOf w a1)), (4, .int (sX7_pitchMinutes w (w 1 2))), (0, .ref (ad 0)), (2, .int a2), (3, .int a3)]) hx hb dX7_homeSheaves_84 hl (by decide) rfl (fun ls hl => ?_)
                    refine lv_iinc (v := x9_54 + 1) (lv' := [(9, .int (x9_54 + 1)), (8, .int x8_54), (7, .int x7_48), (6, .int x6_48), (5, .int (sX7_minutesOf w a1)), (4, .int (sX7_pitchMinutes w (w 1 2))), (0, .ref (ad 0)), (2, .int a2), (3, .int a3)]) hx hb dX7_homeSheaves_86 hl (k := 1) rfl rfl (by decide) rfl (fun ls hl => ?_)
                    refine lv_goto (tgt := 54) hx hb dX7_homeSheaves_89 (by decide) ?_
                    try have := i_addr (a := x9_54) (b := 1) (n := 1) q_1 (by omega) (by omega)
                    exact ih_54 x8_54 (x9_54 + 1) ls ⟨by omega, by omega, by omega, by omega⟩ (by omega) (lv_sub hl [0, 1, 2, 3, 4, 5, 6, 7, 8] rfl) E
                  · have E := E.trans (if_neg c_23)
                    have fc_23 := i_nle c_23
                    refine lv_iload hx hb dX7_homeSheaves_77 (lv_at hl 0 rfl) ?_
                    refine lv_goto (tgt := 84) hx hb dX7_homeSheaves_79 (by decide) ?_
                    refine lv_istore (lv' := [(8, .int x9_54), (9, .int x9_54), (7, .int x7_48), (6, .int x6_48), (5, .int (sX7_minutesOf w a1)), (4, .int (sX7_pitchMinutes w (w 1 2))), (0, .ref (ad 0)), (2, .int a2), (3, .int a3)]) hx hb dX7_homeSheaves_84 hl (by decide) rfl (fun ls hl => ?_)
                    refine lv_iinc (v := x9_54 + 1) (lv' := [(9, .int (x9_54 + 1)), (8, .int x9_54), (7, .int x7_48), (6, .int x6_48), (5, .int (sX7_minutesOf w a1)), (4, .int (sX7_pitchMinutes w (w 1 2))), (0, .ref (ad 0)), (2, .int a2), (3, .int a3)]) hx hb dX7_homeSheaves_86 hl (k := 1) rfl rfl (by decide) rfl (fun ls hl => ?_)
                    refine lv_goto (tgt := 54) hx hb dX7_homeSheaves_89 (by decide) ?_
                    try have := i_addr (a := x9_54) (b := 1) (n := 1) q_1 (by omega) (by omega)
                    exact ih_54 x9_54 (x9_54 + 1) ls ⟨by omega, by omega, by omega, by omega⟩ (by omega) (lv_sub hl [0, 1, 2, 3, 4, 5, 6, 7, 8] rfl) E
            have := q_0
            have := q_1
            exact L_54 4 0 1 ls ⟨by omega, by omega, by omega, by omega⟩ (by omega) (lv_sub hl [0, 1, 2, 3, 4, 5, 6, 7, 8] rfl) E
        have := q_0
        exact L_48 1000 0 0 w_28 H locs ls ⟨by omega, by omega, by intro j hj; rw [v2_28 j (by omega)]; exact ⟨by decide, by decide⟩, v3_28⟩ (by omega) hI_28 hP hS (lv_sub hl [1, 2, 3, 4, 5, 6, 7] rfl) E
      · have E := E.trans (if_neg c_4)
        have fc_4 := i_nle c_4
        rw [q_4] at fc_4
        refine lv_aload_n hx hb dX7_homeSheaves_34 rfl (lv_at hl 5 rfl) ?_
        refine g7_backAt hx hb hts hin hown hK hP (hts (.fieldLink RX7 58 "LoadedForTheLaneModel" "backAt" "[I") (by decide +kernel)) dX7_homeSheaves_35 ?_
        refine lv_iload hx hb dX7_homeSheaves_38 (lv_at hl 0 rfl) ?_
        refine lv_iconst (v := 0) hx hb dX7_homeSheaves_40 (by decide) ?_
        have ix_24 : vp_in x8_28 4 := ix_of (by omega) (by omega)
        refine a7_backAt (j := x8_28.toNatClampNeg) hx hb hK hP hd hS ix_24 rfl dX7_homeSheaves_41 (fun H locs hP hS => ?_)
        obtain ⟨wn_24, hwn_24⟩ : ∃ x, x = st w_28 25 (x8_28.toNatClampNeg) 0 := ⟨_, rfl⟩
        rw [← hwn_24] at hP
        have E := bns_e E hwn_24
        have hI_24 : R7I wn_24 := by rw [hwn_24]; exact R7I_put_backAt hI_28
        refine lv_iinc (v := x8_28 + 1) (lv' := [(8, .int (x8_28 + 1)), (7, .int 0), (6, .int 0), (5, .int (sX7_minutesOf w a1)), (4, .int (sX7_pitchMinutes w (w 1 2))), (0, .ref (ad 0)), (2, .int a2), (3, .int a3)]) hx hb dX7_homeSheaves_42 hl (k := 0) rfl rfl (by decide) rfl (fun ls hl => ?_)
        refine lv_goto (tgt := 28) hx hb dX7_homeSheaves_45 (by decide) ?_
        try have := i_addr (a := x8_28) (b := 1) (n := 1) q_1 (by omega) (by omega)
        exact ih_28 (x8_28 + 1) wn_24 H locs ls ⟨by omega, by omega, by intro j hj; rw [hwn_24]; exact st_fill v2_28 (by omega) j (by omega), fun k hk => (show wn_24 k = w_28 k by rw [hwn_24]; exact st_o hk).trans (v3_28 k hk)⟩ (by omega) hI_24 hP hS (lv_sub hl [0, 1, 2, 3, 4, 5, 6, 7] rfl) E
  have := q_0
  exact L_28 5 0 w H locs ls ⟨by omega, by omega, by intro j hj; omega, hkb⟩ (by omega) hI hP hS (lv_sub hl [0, 1, 2, 3, 4, 5, 7, 8] rfl) E
abbrev rmX7_notRounds : Room := { frames := 7, cells := 0, slots := 0, locals := 159 }
set_option maxHeartbeats 4000000 in
set_option maxRecDepth 100000 in
theorem kX7_notRounds (l : Launch) (D : va_G) (cI : ClassId) (ad : Nat → Nat) (w : Nat → Nat → Int32) (a1 : Int32) (a2 : Int32) (a3 : Int32) (a4 : Int32) (hd : RD ad) (hI : R7I w) (h1 : 3 ≤ a4.toInt) (h2 : a4.toInt ≤ 4) : Met l yX7_notRounds wsX7_notRounds rmX7_notRounds (va_Pc [Value.ref (ad 0), Value.int a1, Value.int a2, Value.int a3, Value.int a4] (fun U => va_P D vwCl (RM cI ad w) U.heap ∧ va_K D vwCl [(cI, .int)] U)) (va_Qi (fun r u => (r, u) = sX7_notRounds w a1 a2 a3 a4 ∧ R7I u ∧ (-6 ≤ r.toInt ∧ r.toInt ≤ 0) ∧ (r.toInt ≠ 0 ∨ (0 ≤ a1.toInt ∧ a1.toInt < 2 ∧ 1 ≤ a2.toInt ∧ a2.toInt ≤ a4.toInt ∧ 0 ≤ a3.toInt ∧ a3.toInt ≤ 999 ∧ (w 11 0).toInt ≠ 0)) ∧ (∀ k : Nat, k ≠ 23 → k ≠ 24 → u k = w k)) (fun u t => va_P D vwCl (RM cI ad u) t.heap) (RA ad)) 0 0 (RA ad) := by
  refine Met.ofW (cc := cX7_notRounds) (maxL := 5) (ret := (some .int)) (by decide) rfl ?_
  intro p e s m args below meth c s₁ B hml hv
  obtain ⟨rfl, hP, hK⟩ := hv
  have hx := B.exec
  have hb := B.bytes
  have hr := B.returns
  have hts := atoms_spec (ws := wsX7_notRounds) B.pre
  have hown : s.vm.findClass RX7 = some m.cls := findClass_of_methodNamed B.named
  have hlocks := B.notSynchronized
  have hin : ∀ q ∈ wsX70, q ∈ wsX7_notRounds := by decide +kernel
  have hk : ∀ k : Nat, k ≠ 23 → k ≠ 24 → w k = w k := fun _ _ _ => rfl
  have hl := lv_entry ([.ref (ad 0), .int a1, .int a2, .int a3, .int a4]) (n := 5) (Nat.le_of_ble_eq_true rfl)
  rw [lg_entry_eq]
  generalize (lg_sl ([.ref (ad 0), .int a1, .int a2, .int a3, .int a4]) ++ List.replicate (5 - (lg_sl ([.ref (ad 0), .int a1, .int a2, .int a3, .int a4])).length) Slot.unset).toArray = ls at hl ⊢
  have hl : lv_has ls 5 [(0, .ref (ad 0)), (1, .int a1), (2, .int a2), (3, .int a3), (4, .int a4)] := hl
  suffices hgo : ∀ (H : Heap) (locs : List Loc), va_P D vwCl (RM cI ad w) H → va_S (RA ad) s.heap H locs → W p l e (headSpec wsX7_notRounds rmX7_notRounds).room s m [Value.ref (ad 0), Value.int a1, Value.int a2, Value.int a3, Value.int a4].toArray below meth c H locs 0 0 (MQ below (va_Qi (fun r u => (r, u) = sX7_notRounds w a1 a2 a3 a4 ∧ R7I u ∧ (-6 ≤ r.toInt ∧ r.toInt ≤ 0) ∧ (r.toInt ≠ 0 ∨ (0 ≤ a1.toInt ∧ a1.toInt < 2 ∧ 1 ≤ a2.toInt ∧ a2.toInt ≤ a4.toInt ∧ 0 ≤ a3.toInt ∧ a3.toInt ≤ 999 ∧ (w 11 0).toInt ≠ 0)) ∧ (∀ k : Nat, k ≠ 23 → k ≠ 24 → u k = w k)) (fun u t => va_P D vwCl (RM cI ad u) t.heap) (RA ad)) [Value.ref (ad 0), Value.int a1, Value.int a2, Value.int a3, Value.int a4].toArray s 0 0 (RA ad)) (F0 m 0 ls []) from hgo s.heap [] hP va_S.rf
  intro H locs hP hS
  have E := sX7_notRounds.eq_1 w a1 a2 a3 a4
  refine lv_iload_n hx hb dX7_notRounds_0 rfl (lv_at hl 1 rfl) ?_
  refine vp_callSi (va_Run.run (va_runS (As := [.int a1]) (rest := []) ⟨hx, hb, hml, hown, hts⟩ (kX7_isWay l a1) (va_cwS 1 hts gX7_notRounds_X7_isWay rfl rfl rfl mdX7_isWay ⟨Nat.le_of_ble_eq_true rfl, Nat.le_of_ble_eq_true rfl⟩) s_pre rfl rfl hl.1 rfl (lv_room (Nat.le_of_ble_eq_true rfl)) dX7_notRounds_1 ⟨Nat.zero_le _, Nat.zero_le _⟩)) (fun r_1 hr_1 => ?_)
  obtain ⟨rfl, hz_1⟩ := hr_1
  refine lv_if_ne (tgt := 9) hx hb dX7_notRounds_4 (by decide) (fun c_2 => ?_) (fun c_2 => ?_)
  · have E := E.trans (if_neg c_2)
    have fc_2 := i_ne c_2
    rw [q_0] at fc_2
    have gc_2 := fX7_isWay c_2
    refine lv_iload_n hx hb dX7_notRounds_9 rfl (lv_at hl 2 rfl) ?_
    refine lv_iconst (v := 1) hx hb dX7_notRounds_10 (by decide) ?_
    refine lv_icmp_lt (tgt := 18) hx hb dX7_notRounds_11 (by decide) (fun c_3 => ?_) (fun c_3 => ?_)
    · have E := E.trans (if_pos c_3)
      have fc_3 := i_lt c_3
      rw [q_1] at fc_3
      refine lv_bipush (v := (-4)) hx hb dX7_notRounds_18 (by decide +kernel) ?_
      have := q_m4
      exact W.iret (v := (-4)) hx hb hr (fun t ht hW => ⟨⟨_, w, rfl, ⟨E.symm, hI, by omega, by omega, hk⟩, by show va_P _ _ _ t.heap; rw [ht]; exact hP⟩, hS.F ht⟩) hS.2.2 dX7_notRounds_20
    · have E := E.trans (if_neg c_3)
      have fc_3 := i_nlt c_3
      rw [q_1] at fc_3
      refine lv_iload_n hx hb dX7_notRounds_14 rfl (lv_at hl 3 rfl) ?_
      refine lv_if_ge (tgt := 21) hx hb dX7_notRounds_15 (by decide) (fun c_4 => ?_) (fun c_4 => ?_)
      · have E := E.trans (if_pos c_4)
        have fc_4 := i_le c_4
        rw [q_0] at fc_4
        refine lv_iload_n hx hb dX7_notRounds_21 rfl (lv_at hl 2 rfl) ?_
        refine lv_iload hx hb dX7_notRounds_22 (lv_at hl 4 rfl) ?_
        refine lv_icmp_gt (tgt := 34) hx hb dX7_notRounds_24 (by decide) (fun c_5 => ?_) (fun c_5 => ?_)
        · have E := E.trans (if_pos c_5)
          have fc_5 := i_lt c_5
          refine lv_bipush (v := (-6)) hx hb dX7_notRounds_34 (by decide +kernel) ?_
          have := q_m6
          exact W.iret (v := (-6)) hx hb hr (fun t ht hW => ⟨⟨_, w, rfl, ⟨E.symm, hI, by omega, by omega, hk⟩, by show va_P _ _ _ t.heap; rw [ht]; exact hP⟩, hS.F ht⟩) hS.2.2 dX7_notRounds_36
        · have E := E.trans (if_neg c_5)
          have fc_5 := i_nlt c_5
          refine lv_iload_n hx hb dX7_notRounds_27 rfl (lv_at hl 3 rfl) ?_
          refine lv_sipush (v := 999) hx hb dX7_notRounds_28 (by decide +kernel) ?_
          refine lv_icmp_le (tgt := 37) hx hb dX7_notRounds_31 (by decide) (fun c_6 => ?_) (fun c_6 => ?_)
          · have E := E.trans (if_pos c_6)
            have fc_6 := i_le c_6
            rw [q_999] at fc_6
            refine lv_aload_n hx hb dX7_notRounds_37 rfl (lv_at hl 0 rfl) ?_
            refine g7_layers hx hb hts hin hown hK hP (hts (.fieldLink RX7 67 "LoadedForTheLaneModel" "layers" "I") (by decide +kernel)) dX7_notRounds_38 ?_
            have f_7 := R7I_layers hI
            refine lv_if_eq (tgt := 52) hx hb dX7_notRounds_41 (by decide) (fun c_8 => ?_) (fun c_8 => ?_)
            · have E := E.trans (if_pos c_8)
              have fc_8 := i_eq c_8
              rw [q_0] at fc_8
              refine lv_bipush (v := (-3)) hx hb dX7_notRounds_52 (by decide +kernel) ?_
              refine lv_goto (tgt := 58) hx hb dX7_notRounds_54 (by decide) ?_
              have := q_m3
              exact W.iret (v := (-3)) hx hb hr (fun t ht hW => ⟨⟨_, w, rfl, ⟨E.symm, hI, by omega, by omega, hk⟩, by show va_P _ _ _ t.heap; rw [ht]; exact hP⟩, hS.F ht⟩) hS.2.2 dX7_notRounds_58
            · have E := E.trans (if_neg c_8)
              have fc_8 := i_ne c_8
              rw [q_0] at fc_8
              refine lv_aload_n hx hb dX7_notRounds_44 rfl (lv_at hl 0 rfl) ?_
              refine lv_iload_n hx hb dX7_notRounds_45 rfl (lv_at hl 1 rfl) ?_
              refine va_calli (va_runV (As := [.int a1]) (rest := []) ⟨hx, hb, hml, hown, hts⟩ (kX7_doesHold l D cI ad w a1 hd hI (by omega) (by omega)) (cwV 1 hts gX7_notRounds_X7_doesHold rfl rfl rfl mdX7_doesHold ⟨Nat.le_of_ble_eq_true rfl, Nat.le_of_ble_eq_true rfl⟩) (r7_pre hK hP) rfl rfl hl.1 rfl (lv_room (Nat.le_of_ble_eq_true rfl)) dX7_notRounds_46 ⟨Nat.zero_le _, Nat.zero_le _⟩) hS (fun _ _ h => h) (fun _ h => h) (fun rn_9 wn_9 t H locs ht hvm hp_9 hB hz hfr hS => ?_)
              have hP : va_P D vwCl (RM cI ad wn_9) H := ht ▸ hB
              obtain ⟨hp_9, hz_9, hI_9, hq0_9⟩ := hp_9
              have E := bnd_e E hp_9
              have hzi_9 := z_int hz_9
              have hk := fun (k : Nat) (h1 : k ≠ 23) (h2 : k ≠ 24) => (hq0_9 k h1 h2).trans (hk k h1 h2)
              refine lv_if_ne (tgt := 57) hx hb dX7_notRounds_49 (by decide) (fun c_10 => ?_) (fun c_10 => ?_)
              · have E := E.trans (if_neg c_10)
                have fc_10 := i_ne c_10
                rw [q_0] at fc_10
                refine lv_iconst (v := 0) hx hb dX7_notRounds_57 (by decide) ?_
                have := q_0
                exact W.iret (v := 0) hx hb hr (fun t ht hW => ⟨⟨_, wn_9, rfl, ⟨E.symm, hI_9, by omega, by omega, hk⟩, by show va_P _ _ _ t.heap; rw [ht]; exact hP⟩, hS.F ht⟩) hS.2.2 dX7_notRounds_58
              · have E := E.trans (if_pos c_10)
                have fc_10 := i_eq c_10
                rw [q_0] at fc_10
                refine lv_bipush (v := (-3)) hx hb dX7_notRounds_52 (by decide +kernel) ?_
                refine lv_goto (tgt := 58) hx hb dX7_notRounds_54 (by decide) ?_
                have := q_m3
                exact W.iret (v := (-3)) hx hb hr (fun t ht hW => ⟨⟨_, wn_9, rfl, ⟨E.symm, hI_9, by omega, by omega, hk⟩, by show va_P _ _ _ t.heap; rw [ht]; exact hP⟩, hS.F ht⟩) hS.2.2 dX7_notRounds_58
          · have E := E.trans (if_neg c_6)
            have fc_6 := i_nle c_6
            rw [q_999] at fc_6
            refine lv_bipush (v := (-6)) hx hb dX7_notRounds_34 (by decide +kernel) ?_
            have := q_m6
            exact W.iret (v := (-6)) hx hb hr (fun t ht hW => ⟨⟨_, w, rfl, ⟨E.symm, hI, by omega, by omega, hk⟩, by show va_P _ _ _ t.heap; rw [ht]; exact hP⟩, hS.F ht⟩) hS.2.2 dX7_notRounds_36
      · have E := E.trans (if_neg c_4)
        have fc_4 := i_nle c_4
        rw [q_0] at fc_4
        refine lv_bipush (v := (-4)) hx hb dX7_notRounds_18 (by decide +kernel) ?_
        have := q_m4
        exact W.iret (v := (-4)) hx hb hr (fun t ht hW => ⟨⟨_, w, rfl, ⟨E.symm, hI, by omega, by omega, hk⟩, by show va_P _ _ _ t.heap; rw [ht]; exact hP⟩, hS.F ht⟩) hS.2.2 dX7_notRounds_20
  · have E := E.trans (if_pos c_2)
    have fc_2 := i_eq c_2
    rw [q_0] at fc_2
    refine lv_iconst (v := (-1)) hx hb dX7_notRounds_7 (by decide) ?_
    have := q_m1
    exact W.iret (v := (-1)) hx hb hr (fun t ht hW => ⟨⟨_, w, rfl, ⟨E.symm, hI, by omega, by omega, hk⟩, by show va_P _ _ _ t.heap; rw [ht]; exact hP⟩, hS.F ht⟩) hS.2.2 dX7_notRounds_8
abbrev rmX7_rounds : Room := { frames := 8, cells := 0, slots := 0, locals := 183 }
set_option maxHeartbeats 4000000 in
set_option maxRecDepth 100000 in
theorem kX7_rounds (l : Launch) (D : va_G) (cI : ClassId) (ad : Nat → Nat) (w : Nat → Nat → Int32) (a1 : Int32) (a2 : Int32) (a3 : Int32) (hd : RD ad) (hI : R7I w) (hs : ∀ a : Int32, 0 ≤ a.toInt → a.toInt < 2 → (w 11 0).toInt ≠ 0 → H7S w a)  : Met l yX7_rounds wsX7_rounds rmX7_rounds (va_Pc [Value.ref (ad 0), Value.int a1, Value.int a2, Value.int a3] (fun U => va_P D vwCl (RM cI ad w) U.heap ∧ va_K D vwCl [(cI, .int)] U)) (va_Qi (fun r u => (r, u) = sX7_rounds w a1 a2 a3) (fun u t => va_P D vwCl (RM cI ad u) t.heap) (RA ad)) 0 0 (RA ad) := by
  refine Met.ofW (cc := cX7_rounds) (maxL := 5) (ret := (some .int)) (by decide) rfl ?_
  intro p e s m args below meth c s₁ B hml hv
  obtain ⟨rfl, hP, hK⟩ := hv
  have hx := B.exec
  have hb := B.bytes
  have hr := B.returns
  have hts := atoms_spec (ws := wsX7_rounds) B.pre
  have hown : s.vm.findClass RX7 = some m.cls := findClass_of_methodNamed B.named
  have hlocks := B.notSynchronized
  have hin : ∀ q ∈ wsX70, q ∈ wsX7_rounds := by decide +kernel
  have hl := lv_entry ([.ref (ad 0), .int a1, .int a2, .int a3]) (n := 5) (Nat.le_of_ble_eq_true rfl)
  rw [lg_entry_eq]
  generalize (lg_sl ([.ref (ad 0), .int a1, .int a2, .int a3]) ++ List.replicate (5 - (lg_sl ([.ref (ad 0), .int a1, .int a2, .int a3])).length) Slot.unset).toArray = ls at hl ⊢
  have hl : lv_has ls 5 [(0, .ref (ad 0)), (1, .int a1), (2, .int a2), (3, .int a3)] := hl
  suffices hgo : ∀ (H : Heap) (locs : List Loc), va_P D vwCl (RM cI ad w) H → va_S (RA ad) s.heap H locs → W p l e (headSpec wsX7_rounds rmX7_rounds).room s m [Value.ref (ad 0), Value.int a1, Value.int a2, Value.int a3].toArray below meth c H locs 0 0 (MQ below (va_Qi (fun r u => (r, u) = sX7_rounds w a1 a2 a3) (fun u t => va_P D vwCl (RM cI ad u) t.heap) (RA ad)) [Value.ref (ad 0), Value.int a1, Value.int a2, Value.int a3].toArray s 0 0 (RA ad)) (F0 m 0 ls []) from hgo s.heap [] hP va_S.rf
  intro H locs hP hS
  have E := sX7_rounds.eq_1 w a1 a2 a3
  refine lv_aload_n hx hb dX7_rounds_0 rfl (lv_at hl 0 rfl) ?_
  refine lv_iload_n hx hb dX7_rounds_1 rfl (lv_at hl 1 rfl) ?_
  refine lv_iload_n hx hb dX7_rounds_2 rfl (lv_at hl 2 rfl) ?_
  refine lv_iload_n hx hb dX7_rounds_3 rfl (lv_at hl 3 rfl) ?_
  refine lv_iconst (v := 4) hx hb dX7_rounds_4 (by decide) ?_
  have := q_4
  refine va_calli (va_runV (As := [.int a1, .int a2, .int a3, .int 4]) (rest := []) ⟨hx, hb, hml, hown, hts⟩ (kX7_notRounds l D cI ad w a1 a2 a3 4 hd hI (by omega) (by omega)) (cwV 4 hts gX7_rounds_X7_notRounds rfl rfl rfl mdX7_notRounds ⟨Nat.le_of_ble_eq_true rfl, Nat.le_of_ble_eq_true rfl⟩) (r7_pre hK hP) rfl rfl hl.1 rfl (lv_room (Nat.le_of_ble_eq_true rfl)) dX7_rounds_5 ⟨Nat.zero_le _, Nat.zero_le _⟩) hS (fun _ _ h => h) (fun _ h => h) (fun rn_1 wn_1 t H locs ht hvm hp_1 hB hz hfr hS => ?_)
  have hP : va_P D vwCl (RM cI ad wn_1) H := ht ▸ hB
  obtain ⟨hp_1, hI_1, hq0_1, hq1_1, hq2_1⟩ := hp_1
  have E := bnd_e E hp_1
  refine lv_istore (lv' := [(4, .int rn_1), (0, .ref (ad 0)), (1, .int a1), (2, .int a2), (3, .int a3)]) hx hb dX7_rounds_8 hl (by decide) rfl (fun ls hl => ?_)
  refine lv_iload hx hb dX7_rounds_10 (lv_at hl 0 rfl) ?_
  refine lv_if_eq (tgt := 24) hx hb dX7_rounds_12 (by decide) (fun c_2 => ?_) (fun c_2 => ?_)
  · have E := E.trans (if_pos c_2)
    have fc_2 := i_eq c_2
    rw [q_0] at fc_2
    refine lv_aload_n hx hb dX7_rounds_24 rfl (lv_at hl 1 rfl) ?_
    refine lv_iload_n hx hb dX7_rounds_25 rfl (lv_at hl 2 rfl) ?_
    refine lv_iload_n hx hb dX7_rounds_26 rfl (lv_at hl 3 rfl) ?_
    refine lv_iload_n hx hb dX7_rounds_27 rfl (lv_at hl 4 rfl) ?_
    refine va_calli (va_runV (As := [.int a1, .int a2, .int a3]) (rest := []) ⟨hx, hb, hml, hown, hts⟩ (kX7_homeSheaves l D cI ad wn_1 a1 a2 a3 hd hI_1 (H7S_keep hq2_1 (hs a1 (by omega) (by omega) (by omega))) (by omega) (by omega) (by omega) (by omega) (by omega) (by omega)) (cwV 3 hts gX7_rounds_X7_homeSheaves rfl rfl rfl mdX7_homeSheaves ⟨Nat.le_of_ble_eq_true rfl, Nat.le_of_ble_eq_true rfl⟩) (r7_pre hK hP) rfl rfl hl.1 rfl (lv_room (Nat.le_of_ble_eq_true rfl)) dX7_rounds_28 ⟨Nat.zero_le _, Nat.zero_le _⟩) hS (fun _ _ h => h) (fun _ h => h) (fun rn_3 wn_3 t H locs ht hvm hp_3 hB hz hfr hS => ?_)
    have hP : va_P D vwCl (RM cI ad wn_3) H := ht ▸ hB
    obtain ⟨hp_3, hq0_3⟩ := hp_3
    have E := bnd_e E hp_3
    exact W.iret (v := rn_3) hx hb hr (fun t ht hW => ⟨⟨_, wn_3, rfl, E.symm, by show va_P _ _ _ t.heap; rw [ht]; exact hP⟩, hS.F ht⟩) hS.2.2 dX7_rounds_31
  · have E := E.trans (if_neg c_2)
    have fc_2 := i_ne c_2
    rw [q_0] at fc_2
    refine lv_aload_n hx hb dX7_rounds_15 rfl (lv_at hl 1 rfl) ?_
    refine lv_iload hx hb dX7_rounds_16 (lv_at hl 0 rfl) ?_
    refine va_calli (va_runV (As := [.int rn_1]) (rest := []) ⟨hx, hb, hml, hown, hts⟩ (kX7_no l D cI ad wn_1 rn_1 hd hI_1 (by omega) (by omega)) (cwV 1 hts gX7_rounds_X7_no rfl rfl rfl mdX7_no ⟨Nat.le_of_ble_eq_true rfl, Nat.le_of_ble_eq_true rfl⟩) (r7_pre hK hP) rfl rfl hl.1 rfl (lv_room (Nat.le_of_ble_eq_true rfl)) dX7_rounds_18 ⟨Nat.zero_le _, Nat.zero_le _⟩) hS (fun _ _ h => h) (fun _ h => h) (fun rn_4 wn_4 t H locs ht hvm hp_4 hB hz hfr hS => ?_)
    have hP : va_P D vwCl (RM cI ad wn_4) H := ht ▸ hB
    obtain ⟨hp_4, hI_4⟩ := hp_4
    have E := bnd_e E hp_4
    refine lv_goto (tgt := 31) hx hb dX7_rounds_21 (by decide) ?_
    exact W.iret (v := rn_4) hx hb hr (fun t ht hW => ⟨⟨_, wn_4, rfl, E.symm, by show va_P _ _ _ t.heap; rw [ht]; exact hP⟩, hS.F ht⟩) hS.2.2 dX7_rounds_31
abbrev rmX7_worth : Room := { frames := 8, cells := 0, slots := 0, locals := 183 }
set_option maxHeartbeats 4000000 in
set_option maxRecDepth 100000 in
theorem kX7_worth (l : Launch) (D : va_G) (cI : ClassId) (ad : Nat → Nat) (w : Nat → Nat → Int32) (a1 : Int32) (a2 : Int32) (a3 : Int32) (hd : RD ad) (hI : R7I w) (hs : ∀ a : Int32, 0 ≤ a.toInt → a.toInt < 2 → (w 11 0).toInt ≠ 0 → H7S w a)  : Met l yX7_worth wsX7_worth rmX7_worth (va_Pc [Value.ref (ad 0), Value.int a1, Value.int a2, Value.int a3] (fun U => va_P D vwCl (RM cI ad w) U.heap ∧ va_K D vwCl [(cI, .int)] U)) (va_Qi (fun r u => (r, u) = sX7_worth w a1 a2 a3) (fun u t => va_P D vwCl (RM cI ad u) t.heap) (RA ad)) 0 0 (RA ad) := by
  refine Met.ofW (cc := cX7_worth) (maxL := 5) (ret := (some .int)) (by decide) rfl ?_
  intro p e s m args below meth c s₁ B hml hv
  obtain ⟨rfl, hP, hK⟩ := hv
  have hx := B.exec
  have hb := B.bytes
  have hr := B.returns
  have hts := atoms_spec (ws := wsX7_worth) B.pre
  have hown : s.vm.findClass RX7 = some m.cls := findClass_of_methodNamed B.named
  have hlocks := B.notSynchronized
  have hin : ∀ q ∈ wsX70, q ∈ wsX7_worth := by decide +kernel
  have hl := lv_entry ([.ref (ad 0), .int a1, .int a2, .int a3]) (n := 5) (Nat.le_of_ble_eq_true rfl)
  rw [lg_entry_eq]
  generalize (lg_sl ([.ref (ad 0), .int a1, .int a2, .int a3]) ++ List.replicate (5 - (lg_sl ([.ref (ad 0), .int a1, .int a2, .int a3])).length) Slot.unset).toArray = ls at hl ⊢
  have hl : lv_has ls 5 [(0, .ref (ad 0)), (1, .int a1), (2, .int a2), (3, .int a3)] := hl
  suffices hgo : ∀ (H : Heap) (locs : List Loc), va_P D vwCl (RM cI ad w) H → va_S (RA ad) s.heap H locs → W p l e (headSpec wsX7_worth rmX7_worth).room s m [Value.ref (ad 0), Value.int a1, Value.int a2, Value.int a3].toArray below meth c H locs 0 0 (MQ below (va_Qi (fun r u => (r, u) = sX7_worth w a1 a2 a3) (fun u t => va_P D vwCl (RM cI ad u) t.heap) (RA ad)) [Value.ref (ad 0), Value.int a1, Value.int a2, Value.int a3].toArray s 0 0 (RA ad)) (F0 m 0 ls []) from hgo s.heap [] hP va_S.rf
  intro H locs hP hS
  have E := sX7_worth.eq_1 w a1 a2 a3
  refine lv_aload_n hx hb dX7_worth_0 rfl (lv_at hl 0 rfl) ?_
  refine lv_iload_n hx hb dX7_worth_1 rfl (lv_at hl 1 rfl) ?_
  refine lv_iload_n hx hb dX7_worth_2 rfl (lv_at hl 2 rfl) ?_
  refine lv_iload_n hx hb dX7_worth_3 rfl (lv_at hl 3 rfl) ?_
  refine lv_iconst (v := 3) hx hb dX7_worth_4 (by decide) ?_
  have := q_3
  refine va_calli (va_runV (As := [.int a1, .int a2, .int a3, .int 3]) (rest := []) ⟨hx, hb, hml, hown, hts⟩ (kX7_notRounds l D cI ad w a1 a2 a3 3 hd hI (by omega) (by omega)) (cwV 4 hts gX7_worth_X7_notRounds rfl rfl rfl mdX7_notRounds ⟨Nat.le_of_ble_eq_true rfl, Nat.le_of_ble_eq_true rfl⟩) (r7_pre hK hP) rfl rfl hl.1 rfl (lv_room (Nat.le_of_ble_eq_true rfl)) dX7_worth_5 ⟨Nat.zero_le _, Nat.zero_le _⟩) hS (fun _ _ h => h) (fun _ h => h) (fun rn_1 wn_1 t H locs ht hvm hp_1 hB hz hfr hS => ?_)
  have hP : va_P D vwCl (RM cI ad wn_1) H := ht ▸ hB
  obtain ⟨hp_1, hI_1, hq0_1, hq1_1, hq2_1⟩ := hp_1
  have E := bnd_e E hp_1
  refine lv_istore (lv' := [(4, .int rn_1), (0, .ref (ad 0)), (1, .int a1), (2, .int a2), (3, .int a3)]) hx hb dX7_worth_8 hl (by decide) rfl (fun ls hl => ?_)
  refine lv_iload hx hb dX7_worth_10 (lv_at hl 0 rfl) ?_
  refine lv_if_eq (tgt := 24) hx hb dX7_worth_12 (by decide) (fun c_2 => ?_) (fun c_2 => ?_)
  · have E := E.trans (if_pos c_2)
    have fc_2 := i_eq c_2
    rw [q_0] at fc_2
    refine lv_aload_n hx hb dX7_worth_24 rfl (lv_at hl 1 rfl) ?_
    refine lv_iload_n hx hb dX7_worth_25 rfl (lv_at hl 2 rfl) ?_
    refine lv_iload_n hx hb dX7_worth_26 rfl (lv_at hl 3 rfl) ?_
    refine lv_iconst (v := 1) hx hb dX7_worth_27 (by decide) ?_
    refine lv_iadd hx hb dX7_worth_28 ?_
    refine lv_iload_n hx hb dX7_worth_29 rfl (lv_at hl 4 rfl) ?_
    have := i_addr (a := a2) (b := 1) (n := 1) q_1 (by omega) (by omega)
    refine va_calli (va_runV (As := [.int a1, .int (a2 + 1), .int a3]) (rest := []) ⟨hx, hb, hml, hown, hts⟩ (kX7_homeSheaves l D cI ad wn_1 a1 (a2 + 1) a3 hd hI_1 (H7S_keep hq2_1 (hs a1 (by omega) (by omega) (by omega))) (by omega) (by omega) (by omega) (by omega) (by omega) (by omega)) (cwV 3 hts gX7_worth_X7_homeSheaves rfl rfl rfl mdX7_homeSheaves ⟨Nat.le_of_ble_eq_true rfl, Nat.le_of_ble_eq_true rfl⟩) (r7_pre hK hP) rfl rfl hl.1 rfl (lv_room (Nat.le_of_ble_eq_true rfl)) dX7_worth_30 ⟨Nat.zero_le _, Nat.zero_le _⟩) hS (fun _ _ h => h) (fun _ h => h) (fun rn_3 wn_3 t H locs ht hvm hp_3 hB hz hfr hS => ?_)
    have hP : va_P D vwCl (RM cI ad wn_3) H := ht ▸ hB
    obtain ⟨hp_3, hq0_3⟩ := hp_3
    have E := bnd_e E hp_3
    have hI_3 : R7I wn_3 := R7I_eq hI_1 (hq0_3 10 (by decide)) (hq0_3 11 (by decide)) (hq0_3 16 (by decide)) (hq0_3 17 (by decide)) (hq0_3 18 (by decide)) (hq0_3 27 (by decide))
    refine lv_aload_n hx hb dX7_worth_33 rfl (lv_at hl 1 rfl) ?_
    refine lv_iload_n hx hb dX7_worth_34 rfl (lv_at hl 2 rfl) ?_
    refine lv_iload_n hx hb dX7_worth_35 rfl (lv_at hl 3 rfl) ?_
    refine lv_iload_n hx hb dX7_worth_36 rfl (lv_at hl 4 rfl) ?_
    refine va_calli (va_runV (As := [.int a1, .int a2, .int a3]) (rest := [.int rn_3]) ⟨hx, hb, hml, hown, hts⟩ (kX7_homeSheaves l D cI ad wn_3 a1 a2 a3 hd hI_3 (H7S_keep25 hq0_3 (H7S_keep hq2_1 (hs a1 (by omega) (by omega) (by omega)))) (by omega) (by omega) (by omega) (by omega) (by omega) (by omega)) (cwV 3 hts gX7_worth_X7_homeSheaves rfl rfl rfl mdX7_homeSheaves ⟨Nat.le_of_ble_eq_true rfl, Nat.le_of_ble_eq_true rfl⟩) (r7_pre hK hP) rfl rfl hl.1 rfl (lv_room (Nat.le_of_ble_eq_true rfl)) dX7_worth_37 ⟨Nat.zero_le _, Nat.zero_le _⟩) hS (fun _ _ h => h) (fun _ h => h) (fun rn_4 wn_4 t H locs ht hvm hp_4 hB hz hfr hS => ?_)
    have hP : va_P D vwCl (RM cI ad wn_4) H := ht ▸ hB
    obtain ⟨hp_4, hq0_4⟩ := hp_4
    have E := bnd_e E hp_4
    refine lv_isub hx hb dX7_worth_40 ?_
    exact W.iret (v := rn_3 - rn_4) hx hb hr (fun t ht hW => ⟨⟨_, wn_4, rfl, E.symm, by show va_P _ _ _ t.heap; rw [ht]; exact hP⟩, hS.F ht⟩) hS.2.2 dX7_worth_41
  · have E := E.trans (if_neg c_2)
    have fc_2 := i_ne c_2
    rw [q_0] at fc_2
    refine lv_aload_n hx hb dX7_worth_15 rfl (lv_at hl 1 rfl) ?_
    refine lv_iload hx hb dX7_worth_16 (lv_at hl 0 rfl) ?_
    refine va_calli (va_runV (As := [.int rn_1]) (rest := []) ⟨hx, hb, hml, hown, hts⟩ (kX7_lower l D cI ad wn_1 rn_1 hd hI_1 (by omega) (by omega)) (cwV 1 hts gX7_worth_X7_lower rfl rfl rfl mdX7_lower ⟨Nat.le_of_ble_eq_true rfl, Nat.le_of_ble_eq_true rfl⟩) (r7_pre hK hP) rfl rfl hl.1 rfl (lv_room (Nat.le_of_ble_eq_true rfl)) dX7_worth_18 ⟨Nat.zero_le _, Nat.zero_le _⟩) hS (fun _ _ h => h) (fun _ h => h) (fun rn_5 wn_5 t H locs ht hvm hp_5 hB hz hfr hS => ?_)
    have hP : va_P D vwCl (RM cI ad wn_5) H := ht ▸ hB
    obtain ⟨hp_5, hI_5⟩ := hp_5
    have E := bnd_e E hp_5
    refine lv_goto (tgt := 41) hx hb dX7_worth_21 (by decide) ?_
    exact W.iret (v := rn_5) hx hb hr (fun t ht hW => ⟨⟨_, wn_5, rfl, E.symm, by show va_P _ _ _ t.heap; rw [ht]; exact hP⟩, hS.F ht⟩) hS.2.2 dX7_worth_41
abbrev rmX7_divisor : Room := { frames := 0, cells := 0, slots := 0, locals := 0 }
set_option maxHeartbeats 4000000 in
set_option maxRecDepth 100000 in
theorem kX7_divisor (l : Launch)  (a1 : Int64) (a2 : Int64)  (h1 : 0 ≤ a1.toInt) (h2 : 0 ≤ a2.toInt) : Met l yX7_divisor wsX7_divisor rmX7_divisor (va_Pc [Value.long a1, Value.long a2] (fun U => True)) (vp_Sl (fun r => r = sX7_divisor a1 a2)) 0 0 (fun _ => False) := by
  refine Met.ofW (cc := cX7_divisor) (maxL := 10) (ret := (some .long)) (by decide) rfl ?_
  intro p e s m args below meth c s₁ B hml hv
  obtain ⟨rfl, -⟩ := hv
  have hx := B.exec
  have hb := B.bytes
  have hr := B.returns
  have hts := atoms_spec (ws := wsX7_divisor) B.pre
  have hown : s.vm.findClass RX7 = some m.cls := findClass_of_methodNamed B.named
  have hlocks := B.notSynchronized
  have hl := lv_entry ([.long a1, .long a2]) (n := 10) (Nat.le_of_ble_eq_true rfl)
  rw [lg_entry_eq]
  generalize (lg_sl ([.long a1, .long a2]) ++ List.replicate (10 - (lg_sl ([.long a1, .long a2])).length) Slot.unset).toArray = ls at hl ⊢
  have hl : lv_has ls 10 [(0, .long a1), (2, .long a2)] := hl
  have E := sX7_divisor.eq_1 a1 a2
  refine lv_lload_n hx hb dX7_divisor_0 rfl (lv_at hl 0 rfl) ?_
  refine lv_lstore (lv' := [(4, .long a1), (0, .long a1), (2, .long a2)]) hx hb dX7_divisor_1 hl (by decide) rfl (fun ls hl => ?_)
  refine lv_lload_n hx hb dX7_divisor_3 rfl (lv_at hl 2 rfl) ?_
  refine lv_lstore (lv' := [(6, .long a2), (4, .long a1), (0, .long a1), (2, .long a2)]) hx hb dX7_divisor_4 hl (by decide) rfl (fun ls hl => ?_)
  have L_6 : ∀ (n_6 : Nat) (x4_6 : Int64) (x6_6 : Int64) (ls : Array Slot), ((0 ≤ x4_6.toInt) ∧ (0 ≤ x6_6.toInt)) → (x6_6.toInt < (n_6 : Int)) → lv_has ls 10 [(6, .long x6_6), (4, .long x4_6)] → sX7_divisor a1 a2 = sX7_divisor_6 n_6 x4_6 x6_6 → W p l e (headSpec wsX7_divisor rmX7_divisor).room s m [Value.long a1, Value.long a2].toArray below meth c s.heap [] 0 0 (MQ below (vp_Sl (fun r => r = sX7_divisor a1 a2)) [Value.long a1, Value.long a2].toArray s 0 0 (fun _ => False)) (F0 m 6 ls []) := by
    intro n_6
    induction n_6 with
    | zero =>
      intro x4_6 x6_6 ls hinv hm
      obtain ⟨v0_6, v1_6⟩ := hinv
      exact absurd hm (by omega)
    | succ n_6 ih_6 =>
      intro x4_6 x6_6 ls hinv hm_6 hl E
      obtain ⟨v0_6, v1_6⟩ := hinv
      have E := E.trans (sX7_divisor_6.eq_2 ..)
      refine lv_lload hx hb dX7_divisor_6 (lv_at hl 0 rfl) ?_
      refine lv_lconst (v := 0) hx hb dX7_divisor_8 (by decide) ?_
      refine W.lcmp hx hb dX7_divisor_9 ?_
      refine lv_if_eq (tgt := 31) hx hb dX7_divisor_10 (by decide) (fun c_1 => ?_) (fun c_1 => ?_)
      · have E := E.trans (if_pos c_1)
        have fc_1 := i_eq c_1
        rw [q_0] at fc_1
        refine lv_lload hx hb dX7_divisor_31 (lv_at hl 1 rfl) ?_
        exact W.lret (v := x4_6) hx hb hr (fun t ht hW => ⟨_, rfl, E.symm, ht⟩) (fun q hq => by cases hq) dX7_divisor_33
      · have E := E.trans (if_neg c_1)
        have fc_1 := i_ne c_1
        rw [q_0] at fc_1
        refine lv_lload hx hb dX7_divisor_13 (lv_at hl 1 rfl) ?_
        refine lv_lload hx hb dX7_divisor_15 (lv_at hl 0 rfl) ?_
        refine lv_lrem hx hb dX7_divisor_17 (lc_ne (by assumption)) ?_
        refine lv_lstore (lv' := [(8, .long (x4_6 - x4_6 / x6_6 * x6_6)), (6, .long x6_6), (4, .long x4_6)]) hx hb dX7_divisor_18 hl (by decide) rfl (fun ls hl => ?_)
        refine lv_lload hx hb dX7_divisor_20 (lv_at hl 1 rfl) ?_
        refine lv_lstore (lv' := [(4, .long x6_6), (8, .long (x4_6 - x4_6 / x6_6 * x6_6)), (6, .long x6_6)]) hx hb dX7_divisor_22 hl (by decide) rfl (fun ls hl => ?_)
        refine lv_lload hx hb dX7_divisor_24 (lv_at hl 1 rfl) ?_
        refine lv_lstore (lv' := [(6, .long (x4_6 - x4_6 / x6_6 * x6_6)), (4, .long x6_6), (8, .long (x4_6 - x4_6 / x6_6 * x6_6))]) hx hb dX7_divisor_26 hl (by decide) rfl (fun ls hl => ?_)
        refine lv_goto (tgt := 6) hx hb dX7_divisor_28 (by decide) ?_
        have hnz := l_ne0 (lc_ne (y := x6_6) (by assumption))
        have hrm := l_rem (x := x4_6) (y := x6_6) (by omega) (by omega)
        exact ih_6 x6_6 (x4_6 - x4_6 / x6_6 * x6_6) ls ⟨by omega, by omega⟩ (by omega) (lv_sub hl [0, 1] rfl) E
  exact L_6 (a2.toInt.toNat + 1) a1 a2 ls ⟨by omega, by omega⟩ (by omega) (lv_sub hl [0, 1] rfl) E
abbrev rmX7_thunder : Room := { frames := 1, cells := 0, slots := 0, locals := 29 }
set_option maxHeartbeats 4000000 in
set_option maxRecDepth 100000 in
theorem kX7_thunder (l : Launch) (D : va_G) (cI : ClassId) (ad : Nat → Nat) (w : Nat → Nat → Int32) (a1 : Int32) (a2 : Int32) (a3 : Int32) (hd : RD ad) (hI : R7I w)  : Met l yX7_thunder wsX7_thunder rmX7_thunder (va_Pc [Value.ref (ad 0), Value.int a1, Value.int a2, Value.int a3] (fun U => va_P D vwCl (RM cI ad w) U.heap ∧ va_K D vwCl [(cI, .int)] U)) (va_Ql (fun r u => (r, u) = sX7_thunder w a1 a2 a3) (fun u t => va_P D vwCl (RM cI ad u) t.heap) (RA ad)) 0 0 (RA ad) := by
  refine Met.ofW (cc := cX7_thunder) (maxL := 10) (ret := (some .long)) (by decide) rfl ?_
  intro p e s m args below meth c s₁ B hml hv
  obtain ⟨rfl, hP, hK⟩ := hv
  have hx := B.exec
  have hb := B.bytes
  have hr := B.returns
  have hts := atoms_spec (ws := wsX7_thunder) B.pre
  have hown : s.vm.findClass RX7 = some m.cls := findClass_of_methodNamed B.named
  have hlocks := B.notSynchronized
  have hin : ∀ q ∈ wsX70, q ∈ wsX7_thunder := by decide +kernel
  have hl := lv_entry ([.ref (ad 0), .int a1, .int a2, .int a3]) (n := 10) (Nat.le_of_ble_eq_true rfl)
  rw [lg_entry_eq]
  generalize (lg_sl ([.ref (ad 0), .int a1, .int a2, .int a3]) ++ List.replicate (10 - (lg_sl ([.ref (ad 0), .int a1, .int a2, .int a3])).length) Slot.unset).toArray = ls at hl ⊢
  have hl : lv_has ls 10 [(0, .ref (ad 0)), (1, .int a1), (2, .int a2), (3, .int a3)] := hl
  suffices hgo : ∀ (H : Heap) (locs : List Loc), va_P D vwCl (RM cI ad w) H → va_S (RA ad) s.heap H locs → W p l e (headSpec wsX7_thunder rmX7_thunder).room s m [Value.ref (ad 0), Value.int a1, Value.int a2, Value.int a3].toArray below meth c H locs 0 0 (MQ below (va_Ql (fun r u => (r, u) = sX7_thunder w a1 a2 a3) (fun u t => va_P D vwCl (RM cI ad u) t.heap) (RA ad)) [Value.ref (ad 0), Value.int a1, Value.int a2, Value.int a3].toArray s 0 0 (RA ad)) (F0 m 0 ls []) from hgo s.heap [] hP va_S.rf
  intro H locs hP hS
  have E := sX7_thunder.eq_1 w a1 a2 a3
  refine lv_iload_n hx hb dX7_thunder_0 rfl (lv_at hl 1 rfl) ?_
  refine vp_callSi (va_Run.run (va_runS (As := [.int a1]) (rest := []) ⟨hx, hb, hml, hown, hts⟩ (kX7_isWay l a1) (va_cwS 1 hts gX7_thunder_X7_isWay rfl rfl rfl mdX7_isWay ⟨Nat.le_of_ble_eq_true rfl, Nat.le_of_ble_eq_true rfl⟩) s_pre rfl rfl hl.1 rfl (lv_room (Nat.le_of_ble_eq_true rfl)) dX7_thunder_1 ⟨Nat.zero_le _, Nat.zero_le _⟩)) (fun r_1 hr_1 => ?_)
  obtain ⟨rfl, hz_1⟩ := hr_1
  refine lv_if_ne (tgt := 11) hx hb dX7_thunder_4 (by decide) (fun c_2 => ?_) (fun c_2 => ?_)
  · have E := E.trans (if_neg c_2)
    have fc_2 := i_ne c_2
    rw [q_0] at fc_2
    have gc_2 := fX7_isWay c_2
    refine lv_iload_n hx hb dX7_thunder_11 rfl (lv_at hl 2 rfl) ?_
    refine lv_iconst (v := 0) hx hb dX7_thunder_12 (by decide) ?_
    refine lv_bipush (v := 9) hx hb dX7_thunder_13 (by decide +kernel) ?_
    refine vp_callSi (va_Run.run (va_runS (As := [.int a2, .int 0, .int 9]) (rest := []) ⟨hx, hb, hml, hown, hts⟩ (kX7_bound l a2 0 9) (va_cwS 3 hts gX7_thunder_X7_bound rfl rfl rfl mdX7_bound ⟨Nat.le_of_ble_eq_true rfl, Nat.le_of_ble_eq_true rfl⟩) s_pre rfl rfl hl.1 rfl (lv_room (Nat.le_of_ble_eq_true rfl)) dX7_thunder_15 ⟨Nat.zero_le _, Nat.zero_le _⟩)) (fun r_3 hr_3 => ?_)
    subst hr_3
    have rf_3 := rX7_bound a2 0 9
    have := q_0
    have := q_9
    refine lv_istore (lv' := [(4, .int (sX7_bound a2 0 9)), (0, .ref (ad 0)), (1, .int a1), (2, .int a2), (3, .int a3)]) hx hb dX7_thunder_18 hl (by decide) rfl (fun ls hl => ?_)
    refine lv_iload hx hb dX7_thunder_20 (lv_at hl 0 rfl) ?_
    refine lv_if_ne (tgt := 38) hx hb dX7_thunder_22 (by decide) (fun c_4 => ?_) (fun c_4 => ?_)
    · have E := E.trans (if_neg c_4)
      have fc_4 := i_ne c_4
      rw [q_0] at fc_4
      refine lv_iload hx hb dX7_thunder_38 (lv_at hl 0 rfl) ?_
      refine lv_if_eq (tgt := 50) hx hb dX7_thunder_40 (by decide) (fun z => absurd z c_4) (fun _ => ?_)
      refine lv_aload_n hx hb dX7_thunder_43 rfl (lv_at hl 1 rfl) ?_
      refine lv_iload hx hb dX7_thunder_44 (lv_at hl 0 rfl) ?_
      refine va_calll (va_runV (As := [.int (sX7_bound a2 0 9)]) (rest := []) ⟨hx, hb, hml, hown, hts⟩ (kX7_lowest l D cI ad w (sX7_bound a2 0 9) hd hI (by omega) (by omega)) (cwV 1 hts gX7_thunder_X7_lowest rfl rfl rfl mdX7_lowest ⟨Nat.le_of_ble_eq_true rfl, Nat.le_of_ble_eq_true rfl⟩) (r7_pre hK hP) rfl rfl hl.1 rfl (lv_room (Nat.le_of_ble_eq_true rfl)) dX7_thunder_46 ⟨Nat.zero_le _, Nat.zero_le _⟩) hS (fun _ _ h => h) (fun _ h => h) (fun rn_5 wn_5 t H locs ht hvm hp_5 hB hz hfr hS => ?_)
      have hP : va_P D vwCl (RM cI ad wn_5) H := ht ▸ hB
      obtain ⟨hp_5, hI_5⟩ := hp_5
      have E := bnd_e E hp_5
      exact W.lret (v := rn_5) hx hb hr (fun t ht hW => ⟨⟨_, wn_5, rfl, E.symm, by show va_P _ _ _ t.heap; rw [ht]; exact hP⟩, hS.F ht⟩) hS.2.2 dX7_thunder_49
    · have E := E.trans (if_pos c_4)
      have fc_4 := i_eq c_4
      rw [q_0] at fc_4
      refine lv_iload_n hx hb dX7_thunder_25 rfl (lv_at hl 4 rfl) ?_
      refine lv_iconst (v := 0) hx hb dX7_thunder_26 (by decide) ?_
      refine lv_iconst (v := 1) hx hb dX7_thunder_27 (by decide) ?_
      refine vp_callSi (va_Run.run (va_runS (As := [.int a3, .int 0, .int 1]) (rest := []) ⟨hx, hb, hml, hown, hts⟩ (kX7_isIn l a3 0 1) (va_cwS 3 hts gX7_thunder_X7_isIn rfl rfl rfl mdX7_isIn ⟨Nat.le_of_ble_eq_true rfl, Nat.le_of_ble_eq_true rfl⟩) s_pre rfl rfl hl.1 rfl (lv_room (Nat.le_of_ble_eq_true rfl)) dX7_thunder_28 ⟨Nat.zero_le _, Nat.zero_le _⟩)) (fun r_6 hr_6 => ?_)
      obtain ⟨rfl, hz_6⟩ := hr_6
      refine lv_if_ne (tgt := 38) hx hb dX7_thunder_31 (by decide) (fun c_7 => ?_) (fun c_7 => ?_)
      · have E := E.trans (if_neg c_7)
        have fc_7 := i_ne c_7
        rw [q_0] at fc_7
        have gc_7 := fX7_isIn c_7
        have := q_0
        have := q_1
        refine lv_iload hx hb dX7_thunder_38 (lv_at hl 0 rfl) ?_
        refine lv_if_eq (tgt := 50) hx hb dX7_thunder_40 (by decide) (fun _ => ?_) (fun z => absurd c_4 z)
        refine lv_lconst (v := 1) hx hb dX7_thunder_50 (by decide) ?_
        refine lv_lstore (lv' := [(5, .long 1), (4, .int (sX7_bound a2 0 9)), (0, .ref (ad 0)), (1, .int a1), (2, .int a2), (3, .int a3)]) hx hb dX7_thunder_51 hl (by decide) rfl (fun ls hl => ?_)
        refine lv_lconst (v := 1) hx hb dX7_thunder_53 (by decide) ?_
        refine lv_lstore (lv' := [(7, .long 1), (5, .long 1), (4, .int (sX7_bound a2 0 9)), (0, .ref (ad 0)), (1, .int a1), (2, .int a2), (3, .int a3)]) hx hb dX7_thunder_54 hl (by decide) rfl (fun ls hl => ?_)
        refine lv_iconst (v := 0) hx hb dX7_thunder_56 (by decide) ?_
        refine lv_istore (lv' := [(9, .int 0), (7, .long 1), (5, .long 1), (4, .int (sX7_bound a2 0 9)), (0, .ref (ad 0)), (1, .int a1), (2, .int a2), (3, .int a3)]) hx hb dX7_thunder_57 hl (by decide) rfl (fun ls hl => ?_)
        have L_59 : ∀ (n_59 : Nat) (x5_59 : Int64) (x7_59 : Int64) (x9_59 : Int32) (ls : Array Slot), ((0 ≤ x9_59.toInt) ∧ (x9_59.toInt ≤ 12) ∧ (∃ i : Nat, i ≤ 12 ∧ x9_59.toInt = i ∧ x5_59 = pw ((10 - a2).toInt64) i ∧ x7_59 = pw 10 i)) → (12 - x9_59.toInt < (n_59 : Int)) → lv_has ls 10 [(9, .int x9_59), (7, .long x7_59), (5, .long x5_59), (0, .ref (ad 0)), (1, .int a1), (2, .int a2), (3, .int a3)] → sX7_thunder w a1 a2 a3 = sX7_thunder_59 w a1 a2 a3 n_59 x5_59 x7_59 x9_59 → W p l e (headSpec wsX7_thunder rmX7_thunder).room s m [Value.ref (ad 0), Value.int a1, Value.int a2, Value.int a3].toArray below meth c H locs 0 0 (MQ below (va_Ql (fun r u => (r, u) = sX7_thunder w a1 a2 a3) (fun u t => va_P D vwCl (RM cI ad u) t.heap) (RA ad)) [Value.ref (ad 0), Value.int a1, Value.int a2, Value.int a3].toArray s 0 0 (RA ad)) (F0 m 59 ls []) := by
          intro n_59
          induction n_59 with
          | zero =>
            intro x5_59 x7_59 x9_59 ls hinv hm
            obtain ⟨v0_59, v1_59, v2_59⟩ := hinv
            exact absurd hm (by omega)
          | succ n_59 ih_59 =>
            intro x5_59 x7_59 x9_59 ls hinv hm_59 hl E
            obtain ⟨v0_59, v1_59, v2_59⟩ := hinv
            have E := E.trans (sX7_thunder_59.eq_2 ..)
            refine lv_iload hx hb dX7_thunder_59 (lv_at hl 0 rfl) ?_
            refine lv_aload_n hx hb dX7_thunder_61 rfl (lv_at hl 3 rfl) ?_
            refine lv_iload_n hx hb dX7_thunder_62 rfl (lv_at hl 4 rfl) ?_
            refine vp_callSi (va_Run.run (va_runV (As := [.int a1]) (rest := [.int x9_59]) ⟨hx, hb, hml, hown, hts⟩ (kX7_minutesOf l D cI ad w a1 hI (by omega) (by omega)) (cwV 1 hts gX7_thunder_X7_minutesOf rfl rfl rfl mdX7_minutesOf ⟨Nat.le_of_ble_eq_true rfl, Nat.le_of_ble_eq_true rfl⟩) (r7_pre hK hP) rfl rfl hl.1 rfl (lv_room (Nat.le_of_ble_eq_true rfl)) dX7_thunder_63 ⟨Nat.zero_le _, Nat.zero_le _⟩)) (fun r_8 hr_8 => ?_)
            subst hr_8
            refine lv_icmp_ge (tgt := 100) hx hb dX7_thunder_66 (by decide) (fun c_9 => ?_) (fun c_9 => ?_)
            · have E := E.trans (if_pos c_9)
              have fc_9 := i_le c_9
              have hth := thX7 (a := a2) (by omega) (by omega) v2_59
              refine lv_iload_n hx hb dX7_thunder_100 rfl (lv_at hl 6 rfl) ?_
              refine lv_if_ne (tgt := 109) hx hb dX7_thunder_101 (by decide) (fun c_10 => ?_) (fun c_10 => ?_)
              · have E := E.trans (if_neg c_10)
                have fc_10 := i_ne c_10
                rw [q_0] at fc_10
                refine lv_lload hx hb dX7_thunder_109 (lv_at hl 1 rfl) ?_
                refine lv_lload hx hb dX7_thunder_111 (lv_at hl 2 rfl) ?_
                refine lv_lload hx hb dX7_thunder_113 (lv_at hl 1 rfl) ?_
                refine vp_callSl (va_Run.run (va_runS (As := [.long x5_59, .long x7_59]) (rest := [.long x7_59]) ⟨hx, hb, hml, hown, hts⟩ (kX7_divisor l x5_59 x7_59 hth.1 hth.2.1) (va_cwS 2 hts gX7_thunder_X7_divisor rfl rfl rfl mdX7_divisor ⟨Nat.le_of_ble_eq_true rfl, Nat.le_of_ble_eq_true rfl⟩) s_pre rfl rfl hl.1 rfl (lv_room (Nat.le_of_ble_eq_true rfl)) dX7_thunder_115 ⟨Nat.zero_le _, Nat.zero_le _⟩)) (fun r_11 hr_11 => ?_)
                subst hr_11
                refine lv_ldiv hx hb dX7_thunder_118 hth.2.2 ?_
                exact W.lret (v := x7_59 / (sX7_divisor x5_59 x7_59)) hx hb hr (fun t ht hW => ⟨⟨_, w, rfl, E.symm, by show va_P _ _ _ t.heap; rw [ht]; exact hP⟩, hS.F ht⟩) hS.2.2 dX7_thunder_119
              · have E := E.trans (if_pos c_10)
                have fc_10 := i_eq c_10
                rw [q_0] at fc_10
                refine lv_lload hx hb dX7_thunder_104 (lv_at hl 2 rfl) ?_
                refine lv_goto (tgt := 111) hx hb dX7_thunder_106 (by decide) ?_
                refine lv_lload hx hb dX7_thunder_111 (lv_at hl 2 rfl) ?_
                refine lv_lload hx hb dX7_thunder_113 (lv_at hl 1 rfl) ?_
                refine vp_callSl (va_Run.run (va_runS (As := [.long x5_59, .long x7_59]) (rest := [.long x5_59]) ⟨hx, hb, hml, hown, hts⟩ (kX7_divisor l x5_59 x7_59 hth.1 hth.2.1) (va_cwS 2 hts gX7_thunder_X7_divisor rfl rfl rfl mdX7_divisor ⟨Nat.le_of_ble_eq_true rfl, Nat.le_of_ble_eq_true rfl⟩) s_pre rfl rfl hl.1 rfl (lv_room (Nat.le_of_ble_eq_true rfl)) dX7_thunder_115 ⟨Nat.zero_le _, Nat.zero_le _⟩)) (fun r_12 hr_12 => ?_)
                subst hr_12
                refine lv_ldiv hx hb dX7_thunder_118 hth.2.2 ?_
                exact W.lret (v := x5_59 / (sX7_divisor x5_59 x7_59)) hx hb hr (fun t ht hW => ⟨⟨_, w, rfl, E.symm, by show va_P _ _ _ t.heap; rw [ht]; exact hP⟩, hS.F ht⟩) hS.2.2 dX7_thunder_119
            · have E := E.trans (if_neg c_9)
              have fc_9 := i_nle c_9
              refine lv_iload hx hb dX7_thunder_69 (lv_at hl 0 rfl) ?_
              refine lv_bipush (v := 12) hx hb dX7_thunder_71 (by decide +kernel) ?_
              refine lv_icmp_ge (tgt := 100) hx hb dX7_thunder_73 (by decide) (fun c_13 => ?_) (fun c_13 => ?_)
              · have E := E.trans (if_pos c_13)
                have fc_13 := i_le c_13
                rw [q_12] at fc_13
                have hth := thX7 (a := a2) (by omega) (by omega) v2_59
                refine lv_iload_n hx hb dX7_thunder_100 rfl (lv_at hl 6 rfl) ?_
                refine lv_if_ne (tgt := 109) hx hb dX7_thunder_101 (by decide) (fun c_14 => ?_) (fun c_14 => ?_)
                · have E := E.trans (if_neg c_14)
                  have fc_14 := i_ne c_14
                  rw [q_0] at fc_14
                  refine lv_lload hx hb dX7_thunder_109 (lv_at hl 1 rfl) ?_
                  refine lv_lload hx hb dX7_thunder_111 (lv_at hl 2 rfl) ?_
                  refine lv_lload hx hb dX7_thunder_113 (lv_at hl 1 rfl) ?_
                  refine vp_callSl (va_Run.run (va_runS (As := [.long x5_59, .long x7_59]) (rest := [.long x7_59]) ⟨hx, hb, hml, hown, hts⟩ (kX7_divisor l x5_59 x7_59 hth.1 hth.2.1) (va_cwS 2 hts gX7_thunder_X7_divisor rfl rfl rfl mdX7_divisor ⟨Nat.le_of_ble_eq_true rfl, Nat.le_of_ble_eq_true rfl⟩) s_pre rfl rfl hl.1 rfl (lv_room (Nat.le_of_ble_eq_true rfl)) dX7_thunder_115 ⟨Nat.zero_le _, Nat.zero_le _⟩)) (fun r_15 hr_15 => ?_)
                  subst hr_15
                  refine lv_ldiv hx hb dX7_thunder_118 hth.2.2 ?_
                  exact W.lret (v := x7_59 / (sX7_divisor x5_59 x7_59)) hx hb hr (fun t ht hW => ⟨⟨_, w, rfl, E.symm, by show va_P _ _ _ t.heap; rw [ht]; exact hP⟩, hS.F ht⟩) hS.2.2 dX7_thunder_119
                · have E := E.trans (if_pos c_14)
                  have fc_14 := i_eq c_14
                  rw [q_0] at fc_14
                  refine lv_lload hx hb dX7_thunder_104 (lv_at hl 2 rfl) ?_
                  refine lv_goto (tgt := 111) hx hb dX7_thunder_106 (by decide) ?_
                  refine lv_lload hx hb dX7_thunder_111 (lv_at hl 2 rfl) ?_
                  refine lv_lload hx hb dX7_thunder_113 (lv_at hl 1 rfl) ?_
                  refine vp_callSl (va_Run.run (va_runS (As := [.long x5_59, .long x7_59]) (rest := [.long x5_59]) ⟨hx, hb, hml, hown, hts⟩ (kX7_divisor l x5_59 x7_59 hth.1 hth.2.1) (va_cwS 2 hts gX7_thunder_X7_divisor rfl rfl rfl mdX7_divisor ⟨Nat.le_of_ble_eq_true rfl, Nat.le_of_ble_eq_true rfl⟩) s_pre rfl rfl hl.1 rfl (lv_room (Nat.le_of_ble_eq_true rfl)) dX7_thunder_115 ⟨Nat.zero_le _, Nat.zero_le _⟩)) (fun r_16 hr_16 => ?_)
                  subst hr_16
                  refine lv_ldiv hx hb dX7_thunder_118 hth.2.2 ?_
                  exact W.lret (v := x5_59 / (sX7_divisor x5_59 x7_59)) hx hb hr (fun t ht hW => ⟨⟨_, w, rfl, E.symm, by show va_P _ _ _ t.heap; rw [ht]; exact hP⟩, hS.F ht⟩) hS.2.2 dX7_thunder_119
              · have E := E.trans (if_neg c_13)
                have fc_13 := i_nle c_13
                rw [q_12] at fc_13
                refine lv_lload hx hb dX7_thunder_76 (lv_at hl 2 rfl) ?_
                refine lv_bipush (v := 10) hx hb dX7_thunder_78 (by decide +kernel) ?_
                refine lv_iload_n hx hb dX7_thunder_80 rfl (lv_at hl 5 rfl) ?_
                refine lv_isub hx hb dX7_thunder_81 ?_
                refine lv_i2l (v := (10 - a2).toInt64) hx hb dX7_thunder_82 rfl ?_
                refine lv_lmul hx hb dX7_thunder_83 ?_
                refine lv_lstore (lv' := [(5, .long (x5_59 * ((10 - a2).toInt64))), (9, .int x9_59), (7, .long x7_59), (0, .ref (ad 0)), (1, .int a1), (2, .int a2), (3, .int a3)]) hx hb dX7_thunder_84 hl (by decide) rfl (fun ls hl => ?_)
                refine lv_lload hx hb dX7_thunder_86 (lv_at hl 2 rfl) ?_
                refine lv_ldc2 (own := RX7) (v := 10) hx hb hown (hts (.constantLong RX7 256 (10)) (by decide +kernel)) dX7_thunder_88 ?_
                refine lv_lmul hx hb dX7_thunder_91 ?_
                refine lv_lstore (lv' := [(7, .long (x7_59 * 10)), (5, .long (x5_59 * ((10 - a2).toInt64))), (9, .int x9_59), (0, .ref (ad 0)), (1, .int a1), (2, .int a2), (3, .int a3)]) hx hb dX7_thunder_92 hl (by decide) rfl (fun ls hl => ?_)
                refine lv_iinc (v := x9_59 + 1) (lv' := [(9, .int (x9_59 + 1)), (7, .long (x7_59 * 10)), (5, .long (x5_59 * ((10 - a2).toInt64))), (0, .ref (ad 0)), (1, .int a1), (2, .int a2), (3, .int a3)]) hx hb dX7_thunder_94 hl (k := 2) rfl rfl (by decide) rfl (fun ls hl => ?_)
                refine lv_goto (tgt := 59) hx hb dX7_thunder_97 (by decide) ?_
                try have := i_addr (a := x9_59) (b := 1) (n := 1) q_1 (by omega) (by omega)
                exact ih_59 (x5_59 * ((10 - a2).toInt64)) (x7_59 * 10) (x9_59 + 1) ls ⟨by omega, by omega, pw_next v2_59 (by omega)⟩ (by omega) (lv_sub hl [0, 1, 2, 3, 4, 5, 6] rfl) E
        have := q_0
        exact L_59 13 1 1 0 ls ⟨by omega, by omega, ⟨0, by omega, by rfl, rfl, rfl⟩⟩ (by omega) (lv_sub hl [0, 1, 2, 4, 5, 6, 7] rfl) E
      · have E := E.trans (if_pos c_7)
        have fc_7 := i_eq c_7
        rw [q_0] at fc_7
        refine lv_bipush (v := (-2)) hx hb dX7_thunder_34 (by decide +kernel) ?_
        refine lv_istore (lv' := [(4, .int (-2)), (0, .ref (ad 0)), (1, .int a1), (2, .int a2), (3, .int a3)]) hx hb dX7_thunder_36 hl (by decide) rfl (fun ls hl => ?_)
        refine lv_iload hx hb dX7_thunder_38 (lv_at hl 0 rfl) ?_
        refine lv_if_eq (tgt := 50) hx hb dX7_thunder_40 (by decide) (fun z => absurd z (by decide)) (fun _ => ?_)
        refine lv_aload_n hx hb dX7_thunder_43 rfl (lv_at hl 1 rfl) ?_
        refine lv_iload hx hb dX7_thunder_44 (lv_at hl 0 rfl) ?_
        have := q_m2
        refine va_calll (va_runV (As := [.int (-2)]) (rest := []) ⟨hx, hb, hml, hown, hts⟩ (kX7_lowest l D cI ad w (-2) hd hI (by omega) (by omega)) (cwV 1 hts gX7_thunder_X7_lowest rfl rfl rfl mdX7_lowest ⟨Nat.le_of_ble_eq_true rfl, Nat.le_of_ble_eq_true rfl⟩) (r7_pre hK hP) rfl rfl hl.1 rfl (lv_room (Nat.le_of_ble_eq_true rfl)) dX7_thunder_46 ⟨Nat.zero_le _, Nat.zero_le _⟩) hS (fun _ _ h => h) (fun _ h => h) (fun rn_17 wn_17 t H locs ht hvm hp_17 hB hz hfr hS => ?_)
        have hP : va_P D vwCl (RM cI ad wn_17) H := ht ▸ hB
        obtain ⟨hp_17, hI_17⟩ := hp_17
        have E := bnd_e E hp_17
        exact W.lret (v := rn_17) hx hb hr (fun t ht hW => ⟨⟨_, wn_17, rfl, E.symm, by show va_P _ _ _ t.heap; rw [ht]; exact hP⟩, hS.F ht⟩) hS.2.2 dX7_thunder_49
  · have E := E.trans (if_pos c_2)
    have fc_2 := i_eq c_2
    rw [q_0] at fc_2
    refine lv_iconst (v := (-1)) hx hb dX7_thunder_7 (by decide) ?_
    refine lv_goto (tgt := 18) hx hb dX7_thunder_8 (by decide) ?_
    refine lv_istore (lv' := [(4, .int (-1)), (0, .ref (ad 0)), (1, .int a1), (2, .int a2), (3, .int a3)]) hx hb dX7_thunder_18 hl (by decide) rfl (fun ls hl => ?_)
    refine lv_iload hx hb dX7_thunder_20 (lv_at hl 0 rfl) ?_
    refine lv_if_ne (tgt := 38) hx hb dX7_thunder_22 (by decide) (fun _ => ?_) (fun z => absurd z (by decide))
    refine lv_iload hx hb dX7_thunder_38 (lv_at hl 0 rfl) ?_
    refine lv_if_eq (tgt := 50) hx hb dX7_thunder_40 (by decide) (fun z => absurd z (by decide)) (fun _ => ?_)
    refine lv_aload_n hx hb dX7_thunder_43 rfl (lv_at hl 1 rfl) ?_
    refine lv_iload hx hb dX7_thunder_44 (lv_at hl 0 rfl) ?_
    have := q_m1
    refine va_calll (va_runV (As := [.int (-1)]) (rest := []) ⟨hx, hb, hml, hown, hts⟩ (kX7_lowest l D cI ad w (-1) hd hI (by omega) (by omega)) (cwV 1 hts gX7_thunder_X7_lowest rfl rfl rfl mdX7_lowest ⟨Nat.le_of_ble_eq_true rfl, Nat.le_of_ble_eq_true rfl⟩) (r7_pre hK hP) rfl rfl hl.1 rfl (lv_room (Nat.le_of_ble_eq_true rfl)) dX7_thunder_46 ⟨Nat.zero_le _, Nat.zero_le _⟩) hS (fun _ _ h => h) (fun _ h => h) (fun rn_18 wn_18 t H locs ht hvm hp_18 hB hz hfr hS => ?_)
    have hP : va_P D vwCl (RM cI ad wn_18) H := ht ▸ hB
    obtain ⟨hp_18, hI_18⟩ := hp_18
    have E := bnd_e E hp_18
    exact W.lret (v := rn_18) hx hb hr (fun t ht hW => ⟨⟨_, wn_18, rfl, E.symm, by show va_P _ _ _ t.heap; rw [ht]; exact hP⟩, hS.F ht⟩) hS.2.2 dX7_thunder_49
abbrev rmX7_fell : Room := { frames := 5, cells := 0, slots := 0, locals := 115 }
set_option maxHeartbeats 4000000 in
set_option maxRecDepth 100000 in
theorem kX7_fell (l : Launch) (D : va_G) (cI : ClassId) (ad : Nat → Nat) (w : Nat → Nat → Int32) (a1 : Int32) (a2 : Int32) (hd : RD ad) (hI : R7I w)  : Met l yX7_fell wsX7_fell rmX7_fell (va_Pc [Value.ref (ad 0), Value.int a1, Value.int a2] (fun U => va_P D vwCl (RM cI ad w) U.heap ∧ va_K D vwCl [(cI, .int)] U)) (va_Qi (fun r u => (r, u) = sX7_fell w a1 a2) (fun u t => va_P D vwCl (RM cI ad u) t.heap) (RA ad)) 0 0 (RA ad) := by
  refine Met.ofW (cc := cX7_fell) (maxL := 3) (ret := (some .int)) (by decide) rfl ?_
  intro p e s m args below meth c s₁ B hml hv
  obtain ⟨rfl, hP, hK⟩ := hv
  have hx := B.exec
  have hb := B.bytes
  have hr := B.returns
  have hts := atoms_spec (ws := wsX7_fell) B.pre
  have hown : s.vm.findClass RX7 = some m.cls := findClass_of_methodNamed B.named
  have hlocks := B.notSynchronized
  have hin : ∀ q ∈ wsX70, q ∈ wsX7_fell := by decide +kernel
  have hl := lv_entry ([.ref (ad 0), .int a1, .int a2]) (n := 3) (Nat.le_of_ble_eq_true rfl)
  rw [lg_entry_eq]
  generalize (lg_sl ([.ref (ad 0), .int a1, .int a2]) ++ List.replicate (3 - (lg_sl ([.ref (ad 0), .int a1, .int a2])).length) Slot.unset).toArray = ls at hl ⊢
  have hl : lv_has ls 3 [(0, .ref (ad 0)), (1, .int a1), (2, .int a2)] := hl
  suffices hgo : ∀ (H : Heap) (locs : List Loc), va_P D vwCl (RM cI ad w) H → va_S (RA ad) s.heap H locs → W p l e (headSpec wsX7_fell rmX7_fell).room s m [Value.ref (ad 0), Value.int a1, Value.int a2].toArray below meth c H locs 0 0 (MQ below (va_Qi (fun r u => (r, u) = sX7_fell w a1 a2) (fun u t => va_P D vwCl (RM cI ad u) t.heap) (RA ad)) [Value.ref (ad 0), Value.int a1, Value.int a2].toArray s 0 0 (RA ad)) (F0 m 0 ls []) from hgo s.heap [] hP va_S.rf
  intro H locs hP hS
  have E := sX7_fell.eq_1 w a1 a2
  refine lv_aload_n hx hb dX7_fell_0 rfl (lv_at hl 0 rfl) ?_
  refine lv_iload_n hx hb dX7_fell_1 rfl (lv_at hl 1 rfl) ?_
  refine lv_iload_n hx hb dX7_fell_2 rfl (lv_at hl 2 rfl) ?_
  refine vp_callSi (va_Run.run (va_runV (As := [.int a1, .int a2]) (rest := []) ⟨hx, hb, hml, hown, hts⟩ (kX7_isPiece l D cI ad w a1 a2) (cwV 2 hts gX7_fell_X7_isPiece rfl rfl rfl mdX7_isPiece ⟨Nat.le_of_ble_eq_true rfl, Nat.le_of_ble_eq_true rfl⟩) (r7_pre hK hP) rfl rfl hl.1 rfl (lv_room (Nat.le_of_ble_eq_true rfl)) dX7_fell_3 ⟨Nat.zero_le _, Nat.zero_le _⟩)) (fun r_1 hr_1 => ?_)
  obtain ⟨rfl, hz_1⟩ := hr_1
  refine lv_if_eq (tgt := 22) hx hb dX7_fell_6 (by decide) (fun c_2 => ?_) (fun c_2 => ?_)
  · have E := E.trans (if_pos c_2)
    have fc_2 := i_eq c_2
    rw [q_0] at fc_2
    refine lv_aload_n hx hb dX7_fell_22 rfl (lv_at hl 0 rfl) ?_
    refine lv_iconst (v := (-1)) hx hb dX7_fell_23 (by decide) ?_
    have := q_m1
    refine va_calli (va_runV (As := [.int (-1)]) (rest := []) ⟨hx, hb, hml, hown, hts⟩ (kX7_no l D cI ad w (-1) hd hI (by omega) (by omega)) (cwV 1 hts gX7_fell_X7_no rfl rfl rfl mdX7_no ⟨Nat.le_of_ble_eq_true rfl, Nat.le_of_ble_eq_true rfl⟩) (r7_pre hK hP) rfl rfl hl.1 rfl (lv_room (Nat.le_of_ble_eq_true rfl)) dX7_fell_24 ⟨Nat.zero_le _, Nat.zero_le _⟩) hS (fun _ _ h => h) (fun _ h => h) (fun rn_3 wn_3 t H locs ht hvm hp_3 hB hz hfr hS => ?_)
    have hP : va_P D vwCl (RM cI ad wn_3) H := ht ▸ hB
    obtain ⟨hp_3, hI_3⟩ := hp_3
    have E := bnd_e E hp_3
    exact W.iret (v := rn_3) hx hb hr (fun t ht hW => ⟨⟨_, wn_3, rfl, E.symm, by show va_P _ _ _ t.heap; rw [ht]; exact hP⟩, hS.F ht⟩) hS.2.2 dX7_fell_27
  · have E := E.trans (if_neg c_2)
    have fc_2 := i_ne c_2
    rw [q_0] at fc_2
    have gc_2 := fX7_isPiece c_2
    have gpc_2 := R7I_pieces hI (j := a1.toNatClampNeg) (by have := ix_cl (x := a1) (by omega); omega)
    refine lv_aload_n hx hb dX7_fell_9 rfl (lv_at hl 0 rfl) ?_
    refine lv_bipush (v := 6) hx hb dX7_fell_10 (by decide +kernel) ?_
    refine lv_iload_n hx hb dX7_fell_12 rfl (lv_at hl 1 rfl) ?_
    refine lv_imul hx hb dX7_fell_13 ?_
    refine lv_iload_n hx hb dX7_fell_14 rfl (lv_at hl 2 rfl) ?_
    refine lv_iadd hx hb dX7_fell_15 ?_
    have := i_mull (a := 6) (b := a1) (n := 6) q_6 (by omega) (by omega)
    have := i_add (a := 6 * a1) (b := a2) (by omega) (by omega)
    refine vp_callSi (va_Run.run (va_runV (As := [.int ((6 * a1) + a2)]) (rest := []) ⟨hx, hb, hml, hown, hts⟩ (kX7_fellBits l D cI ad w ((6 * a1) + a2) hI (by omega) (by omega)) (cwV 1 hts gX7_fell_X7_fellBits rfl rfl rfl mdX7_fellBits ⟨Nat.le_of_ble_eq_true rfl, Nat.le_of_ble_eq_true rfl⟩) (r7_pre hK hP) rfl rfl hl.1 rfl (lv_room (Nat.le_of_ble_eq_true rfl)) dX7_fell_16 ⟨Nat.zero_le _, Nat.zero_le _⟩)) (fun r_4 hr_4 => ?_)
    subst hr_4
    refine lv_goto (tgt := 27) hx hb dX7_fell_19 (by decide) ?_
    exact W.iret (v := (sX7_fellBits w ((6 * a1) + a2))) hx hb hr (fun t ht hW => ⟨⟨_, w, rfl, E.symm, by show va_P _ _ _ t.heap; rw [ht]; exact hP⟩, hS.F ht⟩) hS.2.2 dX7_fell_27
abbrev rmX7_whose : Room := { frames := 4, cells := 0, slots := 0, locals := 92 }
set_option maxHeartbeats 4000000 in
set_option maxRecDepth 100000 in
theorem kX7_whose (l : Launch) (D : va_G) (cI : ClassId) (ad : Nat → Nat) (w : Nat → Nat → Int32) (a1 : Int32) (a2 : Int32) (hd : RD ad) (hI : R7I w)  : Met l yX7_whose wsX7_whose rmX7_whose (va_Pc [Value.ref (ad 0), Value.int a1, Value.int a2] (fun U => va_P D vwCl (RM cI ad w) U.heap ∧ va_K D vwCl [(cI, .int)] U)) (va_Qi (fun r u => (r, u) = sX7_whose w a1 a2) (fun u t => va_P D vwCl (RM cI ad u) t.heap) (RA ad)) 0 0 (RA ad) := by
  refine Met.ofW (cc := cX7_whose) (maxL := 6) (ret := (some .int)) (by decide) rfl ?_
  intro p e s m args below meth c s₁ B hml hv
  obtain ⟨rfl, hP, hK⟩ := hv
  have hx := B.exec
  have hb := B.bytes
  have hr := B.returns
  have hts := atoms_spec (ws := wsX7_whose) B.pre
  have hown : s.vm.findClass RX7 = some m.cls := findClass_of_methodNamed B.named
  have hlocks := B.notSynchronized
  have hin : ∀ q ∈ wsX70, q ∈ wsX7_whose := by decide +kernel
  have hl := lv_entry ([.ref (ad 0), .int a1, .int a2]) (n := 6) (Nat.le_of_ble_eq_true rfl)
  rw [lg_entry_eq]
  generalize (lg_sl ([.ref (ad 0), .int a1, .int a2]) ++ List.replicate (6 - (lg_sl ([.ref (ad 0), .int a1, .int a2])).length) Slot.unset).toArray = ls at hl ⊢
  have hl : lv_has ls 6 [(0, .ref (ad 0)), (1, .int a1), (2, .int a2)] := hl
  suffices hgo : ∀ (H : Heap) (locs : List Loc), va_P D vwCl (RM cI ad w) H → va_S (RA ad) s.heap H locs → W p l e (headSpec wsX7_whose rmX7_whose).room s m [Value.ref (ad 0), Value.int a1, Value.int a2].toArray below meth c H locs 0 0 (MQ below (va_Qi (fun r u => (r, u) = sX7_whose w a1 a2) (fun u t => va_P D vwCl (RM cI ad u) t.heap) (RA ad)) [Value.ref (ad 0), Value.int a1, Value.int a2].toArray s 0 0 (RA ad)) (F0 m 0 ls []) from hgo s.heap [] hP va_S.rf
  intro H locs hP hS
  have E := sX7_whose.eq_1 w a1 a2
  refine lv_aload_n hx hb dX7_whose_0 rfl (lv_at hl 0 rfl) ?_
  refine lv_iload_n hx hb dX7_whose_1 rfl (lv_at hl 1 rfl) ?_
  refine lv_iload_n hx hb dX7_whose_2 rfl (lv_at hl 2 rfl) ?_
  refine vp_callSi (va_Run.run (va_runV (As := [.int a1, .int a2]) (rest := []) ⟨hx, hb, hml, hown, hts⟩ (kX7_isPiece l D cI ad w a1 a2) (cwV 2 hts gX7_whose_X7_isPiece rfl rfl rfl mdX7_isPiece ⟨Nat.le_of_ble_eq_true rfl, Nat.le_of_ble_eq_true rfl⟩) (r7_pre hK hP) rfl rfl hl.1 rfl (lv_room (Nat.le_of_ble_eq_true rfl)) dX7_whose_3 ⟨Nat.zero_le _, Nat.zero_le _⟩)) (fun r_1 hr_1 => ?_)
  obtain ⟨rfl, hz_1⟩ := hr_1
  refine lv_if_ne (tgt := 15) hx hb dX7_whose_6 (by decide) (fun c_2 => ?_) (fun c_2 => ?_)
  · have E := E.trans (if_neg c_2)
    have fc_2 := i_ne c_2
    rw [q_0] at fc_2
    have gc_2 := fX7_isPiece c_2
    have gpc_2 := R7I_pieces hI (j := a1.toNatClampNeg) (by have := ix_cl (x := a1) (by omega); omega)
    refine lv_bipush (v := 6) hx hb dX7_whose_15 (by decide +kernel) ?_
    refine lv_iload_n hx hb dX7_whose_17 rfl (lv_at hl 1 rfl) ?_
    refine lv_imul hx hb dX7_whose_18 ?_
    refine lv_iload_n hx hb dX7_whose_19 rfl (lv_at hl 2 rfl) ?_
    refine lv_iadd hx hb dX7_whose_20 ?_
    refine lv_istore_n (lv' := [(3, .int ((6 * a1) + a2)), (0, .ref (ad 0)), (1, .int a1), (2, .int a2)]) hx hb dX7_whose_21 rfl hl (by decide) rfl (fun ls hl => ?_)
    refine lv_aload_n hx hb dX7_whose_22 rfl (lv_at hl 1 rfl) ?_
    refine lv_iload_n hx hb dX7_whose_23 rfl (lv_at hl 0 rfl) ?_
    have := i_mull (a := 6) (b := a1) (n := 6) q_6 (by omega) (by omega)
    have := i_add (a := 6 * a1) (b := a2) (by omega) (by omega)
    refine vp_callSi (va_Run.run (va_runV (As := [.int ((6 * a1) + a2)]) (rest := []) ⟨hx, hb, hml, hown, hts⟩ (kX7_isShift l D cI ad w ((6 * a1) + a2) (by omega) (by omega)) (cwV 1 hts gX7_whose_X7_isShift rfl rfl rfl mdX7_isShift ⟨Nat.le_of_ble_eq_true rfl, Nat.le_of_ble_eq_true rfl⟩) (r7_pre hK hP) rfl rfl hl.1 rfl (lv_room (Nat.le_of_ble_eq_true rfl)) dX7_whose_24 ⟨Nat.zero_le _, Nat.zero_le _⟩)) (fun r_3 hr_3 => ?_)
    obtain ⟨rfl, hz_3⟩ := hr_3
    refine lv_if_ne (tgt := 36) hx hb dX7_whose_27 (by decide) (fun c_4 => ?_) (fun c_4 => ?_)
    · have E := E.trans (if_neg c_4)
      have fc_4 := i_ne c_4
      rw [q_0] at fc_4
      refine lv_bipush (v := (-9)) hx hb dX7_whose_36 (by decide +kernel) ?_
      refine lv_istore (lv' := [(4, .int (-9)), (3, .int ((6 * a1) + a2)), (0, .ref (ad 0)), (1, .int a1), (2, .int a2)]) hx hb dX7_whose_38 hl (by decide) rfl (fun ls hl => ?_)
      refine lv_iconst (v := 0) hx hb dX7_whose_40 (by decide) ?_
      refine lv_istore (lv' := [(5, .int 0), (4, .int (-9)), (3, .int ((6 * a1) + a2)), (0, .ref (ad 0)), (1, .int a1), (2, .int a2)]) hx hb dX7_whose_41 hl (by decide) rfl (fun ls hl => ?_)
      have L_43 : ∀ (n_43 : Nat) (x4_43 : Int32) (x5_43 : Int32) (ls : Array Slot), ((0 ≤ x5_43.toInt) ∧ (x5_43.toInt ≤ 12) ∧ (x4_43.toInt = -9 ∨ (0 ≤ x4_43.toInt ∧ x4_43.toInt < 12))) → (12 - x5_43.toInt < (n_43 : Int)) → lv_has ls 6 [(5, .int x5_43), (4, .int x4_43), (3, .int ((6 * a1) + a2)), (0, .ref (ad 0))] → sX7_whose w a1 a2 = sX7_whose_43 w a1 a2 n_43 x4_43 x5_43 → W p l e (headSpec wsX7_whose rmX7_whose).room s m [Value.ref (ad 0), Value.int a1, Value.int a2].toArray below meth c H locs 0 0 (MQ below (va_Qi (fun r u => (r, u) = sX7_whose w a1 a2) (fun u t => va_P D vwCl (RM cI ad u) t.heap) (RA ad)) [Value.ref (ad 0), Value.int a1, Value.int a2].toArray s 0 0 (RA ad)) (F0 m 43 ls []) := by
        intro n_43
        induction n_43 with
        | zero =>
          intro x4_43 x5_43 ls hinv hm
          obtain ⟨v0_43, v1_43, v2_43⟩ := hinv
          exact absurd hm (by omega)
        | succ n_43 ih_43 =>
          intro x4_43 x5_43 ls hinv hm_43 hl E
          obtain ⟨v0_43, v1_43, v2_43⟩ := hinv
          have E := E.trans (sX7_whose_43.eq_2 ..)
          refine lv_iload hx hb dX7_whose_43 (lv_at hl 0 rfl) ?_
          refine lv_aload_n hx hb dX7_whose_45 rfl (lv_at hl 3 rfl) ?_
          refine g7_layers hx hb hts hin hown hK hP (hts (.fieldLink RX7 67 "LoadedForTheLaneModel" "layers" "I") (by decide +kernel)) dX7_whose_46 ?_
          have f_5 := R7I_layers hI
          refine lv_icmp_ge (tgt := 94) hx hb dX7_whose_49 (by decide) (fun c_6 => ?_) (fun c_6 => ?_)
          · have E := E.trans (if_pos c_6)
            have fc_6 := i_le c_6
            refine lv_iload hx hb dX7_whose_94 (lv_at hl 1 rfl) ?_
            exact W.iret (v := x4_43) hx hb hr (fun t ht hW => ⟨⟨_, w, rfl, E.symm, by show va_P _ _ _ t.heap; rw [ht]; exact hP⟩, hS.F ht⟩) hS.2.2 dX7_whose_96
          · have E := E.trans (if_neg c_6)
            have fc_6 := i_nle c_6
            refine lv_aload_n hx hb dX7_whose_52 rfl (lv_at hl 3 rfl) ?_
            refine lv_iload_n hx hb dX7_whose_53 rfl (lv_at hl 2 rfl) ?_
            refine lv_iload hx hb dX7_whose_54 (lv_at hl 0 rfl) ?_
            have := i_mull (a := 6) (b := a1) (n := 6) q_6 (by omega) (by omega)
            have := i_add (a := 6 * a1) (b := a2) (by omega) (by omega)
            refine vp_callSi (va_Run.run (va_runV (As := [.int ((6 * a1) + a2), .int x5_43]) (rest := []) ⟨hx, hb, hml, hown, hts⟩ (kX7_spare l D cI ad w ((6 * a1) + a2) x5_43 hI (by omega) (by omega) (by omega) (by omega)) (cwV 2 hts gX7_whose_X7_spare rfl rfl rfl mdX7_spare ⟨Nat.le_of_ble_eq_true rfl, Nat.le_of_ble_eq_true rfl⟩) (r7_pre hK hP) rfl rfl hl.1 rfl (lv_room (Nat.le_of_ble_eq_true rfl)) dX7_whose_56 ⟨Nat.zero_le _, Nat.zero_le _⟩)) (fun r_7 hr_7 => ?_)
            subst hr_7
            refine lv_if_ge (tgt := 88) hx hb dX7_whose_59 (by decide) (fun c_8 => ?_) (fun c_8 => ?_)
            · have E := E.trans (if_pos c_8)
              have fc_8 := i_le c_8
              rw [q_0] at fc_8
              refine lv_iinc (v := x5_43 + 1) (lv' := [(5, .int (x5_43 + 1)), (4, .int x4_43), (3, .int ((6 * a1) + a2)), (0, .ref (ad 0))]) hx hb dX7_whose_88 hl (k := 0) rfl rfl (by decide) rfl (fun ls hl => ?_)
              refine lv_goto (tgt := 43) hx hb dX7_whose_91 (by decide) ?_
              try have := i_addr (a := x5_43) (b := 1) (n := 1) q_1 (by omega) (by omega)
              exact ih_43 x4_43 (x5_43 + 1) ls ⟨by omega, by omega, by omega⟩ (by omega) (lv_sub hl [0, 1, 2, 3] rfl) E
            · have E := E.trans (if_neg c_8)
              have fc_8 := i_nle c_8
              rw [q_0] at fc_8
              refine lv_iload hx hb dX7_whose_62 (lv_at hl 1 rfl) ?_
              refine lv_if_lt (tgt := 84) hx hb dX7_whose_64 (by decide) (fun c_9 => ?_) (fun c_9 => ?_)
              · have E := E.trans (if_pos c_9)
                have fc_9 := i_lt c_9
                rw [q_0] at fc_9
                refine lv_iload hx hb dX7_whose_84 (lv_at hl 0 rfl) ?_
                refine lv_istore (lv' := [(4, .int x5_43), (5, .int x5_43), (3, .int ((6 * a1) + a2)), (0, .ref (ad 0))]) hx hb dX7_whose_86 hl (by decide) rfl (fun ls hl => ?_)
                refine lv_iinc (v := x5_43 + 1) (lv' := [(5, .int (x5_43 + 1)), (4, .int x5_43), (3, .int ((6 * a1) + a2)), (0, .ref (ad 0))]) hx hb dX7_whose_88 hl (k := 1) rfl rfl (by decide) rfl (fun ls hl => ?_)
                refine lv_goto (tgt := 43) hx hb dX7_whose_91 (by decide) ?_
                try have := i_addr (a := x5_43) (b := 1) (n := 1) q_1 (by omega) (by omega)
                exact ih_43 x5_43 (x5_43 + 1) ls ⟨by omega, by omega, by omega⟩ (by omega) (lv_sub hl [0, 1, 2, 3] rfl) E
              · have E := E.trans (if_neg c_9)
                have fc_9 := i_nlt c_9
                rw [q_0] at fc_9
                refine lv_aload_n hx hb dX7_whose_67 rfl (lv_at hl 3 rfl) ?_
                refine lv_iload_n hx hb dX7_whose_68 rfl (lv_at hl 2 rfl) ?_
                refine lv_iload hx hb dX7_whose_69 (lv_at hl 0 rfl) ?_
                have := i_mull (a := 6) (b := a1) (n := 6) q_6 (by omega) (by omega)
                have := i_add (a := 6 * a1) (b := a2) (by omega) (by omega)
                refine vp_callSi (va_Run.run (va_runV (As := [.int ((6 * a1) + a2), .int x5_43]) (rest := []) ⟨hx, hb, hml, hown, hts⟩ (kX7_spare l D cI ad w ((6 * a1) + a2) x5_43 hI (by omega) (by omega) (by omega) (by omega)) (cwV 2 hts gX7_whose_X7_spare rfl rfl rfl mdX7_spare ⟨Nat.le_of_ble_eq_true rfl, Nat.le_of_ble_eq_true rfl⟩) (r7_pre hK hP) rfl rfl hl.1 rfl (lv_room (Nat.le_of_ble_eq_true rfl)) dX7_whose_71 ⟨Nat.zero_le _, Nat.zero_le _⟩)) (fun r_10 hr_10 => ?_)
                subst hr_10
                refine lv_aload_n hx hb dX7_whose_74 rfl (lv_at hl 3 rfl) ?_
                refine lv_iload_n hx hb dX7_whose_75 rfl (lv_at hl 2 rfl) ?_
                refine lv_iload hx hb dX7_whose_76 (lv_at hl 1 rfl) ?_
                have := i_mull (a := 6) (b := a1) (n := 6) q_6 (by omega) (by omega)
                have := i_add (a := 6 * a1) (b := a2) (by omega) (by omega)
                refine vp_callSi (va_Run.run (va_runV (As := [.int ((6 * a1) + a2), .int x4_43]) (rest := [.int (sX7_spare w ((6 * a1) + a2) x5_43)]) ⟨hx, hb, hml, hown, hts⟩ (kX7_spare l D cI ad w ((6 * a1) + a2) x4_43 hI (by omega) (by omega) (by omega) (by omega)) (cwV 2 hts gX7_whose_X7_spare rfl rfl rfl mdX7_spare ⟨Nat.le_of_ble_eq_true rfl, Nat.le_of_ble_eq_true rfl⟩) (r7_pre hK hP) rfl rfl hl.1 rfl (lv_room (Nat.le_of_ble_eq_true rfl)) dX7_whose_78 ⟨Nat.zero_le _, Nat.zero_le _⟩)) (fun r_11 hr_11 => ?_)
                subst hr_11
                refine lv_icmp_le (tgt := 88) hx hb dX7_whose_81 (by decide) (fun c_12 => ?_) (fun c_12 => ?_)
                · have E := E.trans (if_pos c_12)
                  have fc_12 := i_le c_12
                  refine lv_iinc (v := x5_43 + 1) (lv' := [(5, .int (x5_43 + 1)), (4, .int x4_43), (3, .int ((6 * a1) + a2)), (0, .ref (ad 0))]) hx hb dX7_whose_88 hl (k := 0) rfl rfl (by decide) rfl (fun ls hl => ?_)
                  refine lv_goto (tgt := 43) hx hb dX7_whose_91 (by decide) ?_
                  try have := i_addr (a := x5_43) (b := 1) (n := 1) q_1 (by omega) (by omega)
                  exact ih_43 x4_43 (x5_43 + 1) ls ⟨by omega, by omega, by omega⟩ (by omega) (lv_sub hl [0, 1, 2, 3] rfl) E
                · have E := E.trans (if_neg c_12)
                  have fc_12 := i_nle c_12
                  refine lv_iload hx hb dX7_whose_84 (lv_at hl 0 rfl) ?_
                  refine lv_istore (lv' := [(4, .int x5_43), (5, .int x5_43), (3, .int ((6 * a1) + a2)), (0, .ref (ad 0))]) hx hb dX7_whose_86 hl (by decide) rfl (fun ls hl => ?_)
                  refine lv_iinc (v := x5_43 + 1) (lv' := [(5, .int (x5_43 + 1)), (4, .int x5_43), (3, .int ((6 * a1) + a2)), (0, .ref (ad 0))]) hx hb dX7_whose_88 hl (k := 1) rfl rfl (by decide) rfl (fun ls hl => ?_)
                  refine lv_goto (tgt := 43) hx hb dX7_whose_91 (by decide) ?_
                  try have := i_addr (a := x5_43) (b := 1) (n := 1) q_1 (by omega) (by omega)
                  exact ih_43 x5_43 (x5_43 + 1) ls ⟨by omega, by omega, by omega⟩ (by omega) (lv_sub hl [0, 1, 2, 3] rfl) E
      have := q_m9
      have := q_0
      exact L_43 13 ((-9)) 0 ls ⟨by omega, by omega, by omega⟩ (by omega) (lv_sub hl [0, 1, 2, 3] rfl) E
    · have E := E.trans (if_pos c_4)
      have fc_4 := i_eq c_4
      rw [q_0] at fc_4
      refine lv_aload_n hx hb dX7_whose_30 rfl (lv_at hl 1 rfl) ?_
      refine lv_iload_n hx hb dX7_whose_31 rfl (lv_at hl 0 rfl) ?_
      have := i_mull (a := 6) (b := a1) (n := 6) q_6 (by omega) (by omega)
      have := i_add (a := 6 * a1) (b := a2) (by omega) (by omega)
      refine vp_callSi (va_Run.run (va_runV (As := [.int ((6 * a1) + a2)]) (rest := []) ⟨hx, hb, hml, hown, hts⟩ (kX7_caught l D cI ad w ((6 * a1) + a2) hI (by omega) (by omega)) (cwV 1 hts gX7_whose_X7_caught rfl rfl rfl mdX7_caught ⟨Nat.le_of_ble_eq_true rfl, Nat.le_of_ble_eq_true rfl⟩) (r7_pre hK hP) rfl rfl hl.1 rfl (lv_room (Nat.le_of_ble_eq_true rfl)) dX7_whose_32 ⟨Nat.zero_le _, Nat.zero_le _⟩)) (fun r_13 hr_13 => ?_)
      subst hr_13
      exact W.iret (v := (sX7_caught w ((6 * a1) + a2))) hx hb hr (fun t ht hW => ⟨⟨_, w, rfl, E.symm, by show va_P _ _ _ t.heap; rw [ht]; exact hP⟩, hS.F ht⟩) hS.2.2 dX7_whose_35
  · have E := E.trans (if_pos c_2)
    have fc_2 := i_eq c_2
    rw [q_0] at fc_2
    refine lv_aload_n hx hb dX7_whose_9 rfl (lv_at hl 0 rfl) ?_
    refine lv_iconst (v := (-1)) hx hb dX7_whose_10 (by decide) ?_
    have := q_m1
    refine va_calli (va_runV (As := [.int (-1)]) (rest := []) ⟨hx, hb, hml, hown, hts⟩ (kX7_no l D cI ad w (-1) hd hI (by omega) (by omega)) (cwV 1 hts gX7_whose_X7_no rfl rfl rfl mdX7_no ⟨Nat.le_of_ble_eq_true rfl, Nat.le_of_ble_eq_true rfl⟩) (r7_pre hK hP) rfl rfl hl.1 rfl (lv_room (Nat.le_of_ble_eq_true rfl)) dX7_whose_11 ⟨Nat.zero_le _, Nat.zero_le _⟩) hS (fun _ _ h => h) (fun _ h => h) (fun rn_14 wn_14 t H locs ht hvm hp_14 hB hz hfr hS => ?_)
    have hP : va_P D vwCl (RM cI ad wn_14) H := ht ▸ hB
    obtain ⟨hp_14, hI_14⟩ := hp_14
    have E := bnd_e E hp_14
    exact W.iret (v := rn_14) hx hb hr (fun t ht hW => ⟨⟨_, wn_14, rfl, E.symm, by show va_P _ _ _ t.heap; rw [ht]; exact hP⟩, hS.F ht⟩) hS.2.2 dX7_whose_14
abbrev rmX7_boundBy : Room := { frames := 1, cells := 0, slots := 0, locals := 23 }
set_option maxHeartbeats 4000000 in
set_option maxRecDepth 100000 in
theorem kX7_boundBy (l : Launch) (D : va_G) (cI : ClassId) (ad : Nat → Nat) (w : Nat → Nat → Int32) (a1 : Int32) (a2 : Int32) (hd : RD ad) (hI : R7I w)  : Met l yX7_boundBy wsX7_boundBy rmX7_boundBy (va_Pc [Value.ref (ad 0), Value.int a1, Value.int a2] (fun U => va_P D vwCl (RM cI ad w) U.heap ∧ va_K D vwCl [(cI, .int)] U)) (va_Qi (fun r u => (r, u) = sX7_boundBy w a1 a2) (fun u t => va_P D vwCl (RM cI ad u) t.heap) (RA ad)) 0 0 (RA ad) := by
  refine Met.ofW (cc := cX7_boundBy) (maxL := 6) (ret := (some .int)) (by decide) rfl ?_
  intro p e s m args below meth c s₁ B hml hv
  obtain ⟨rfl, hP, hK⟩ := hv
  have hx := B.exec
  have hb := B.bytes
  have hr := B.returns
  have hts := atoms_spec (ws := wsX7_boundBy) B.pre
  have hown : s.vm.findClass RX7 = some m.cls := findClass_of_methodNamed B.named
  have hlocks := B.notSynchronized
  have hin : ∀ q ∈ wsX70, q ∈ wsX7_boundBy := by decide +kernel
  have hl := lv_entry ([.ref (ad 0), .int a1, .int a2]) (n := 6) (Nat.le_of_ble_eq_true rfl)
  rw [lg_entry_eq]
  generalize (lg_sl ([.ref (ad 0), .int a1, .int a2]) ++ List.replicate (6 - (lg_sl ([.ref (ad 0), .int a1, .int a2])).length) Slot.unset).toArray = ls at hl ⊢
  have hl : lv_has ls 6 [(0, .ref (ad 0)), (1, .int a1), (2, .int a2)] := hl
  suffices hgo : ∀ (H : Heap) (locs : List Loc), va_P D vwCl (RM cI ad w) H → va_S (RA ad) s.heap H locs → W p l e (headSpec wsX7_boundBy rmX7_boundBy).room s m [Value.ref (ad 0), Value.int a1, Value.int a2].toArray below meth c H locs 0 0 (MQ below (va_Qi (fun r u => (r, u) = sX7_boundBy w a1 a2) (fun u t => va_P D vwCl (RM cI ad u) t.heap) (RA ad)) [Value.ref (ad 0), Value.int a1, Value.int a2].toArray s 0 0 (RA ad)) (F0 m 0 ls []) from hgo s.heap [] hP va_S.rf
  intro H locs hP hS
  have E := sX7_boundBy.eq_1 w a1 a2
  refine lv_iload_n hx hb dX7_boundBy_0 rfl (lv_at hl 1 rfl) ?_
  refine lv_iconst (v := 0) hx hb dX7_boundBy_1 (by decide) ?_
  refine lv_sipush (v := 999) hx hb dX7_boundBy_2 (by decide +kernel) ?_
  refine vp_callSi (va_Run.run (va_runS (As := [.int a1, .int 0, .int 999]) (rest := []) ⟨hx, hb, hml, hown, hts⟩ (kX7_bound l a1 0 999) (va_cwS 3 hts gX7_boundBy_X7_bound rfl rfl rfl mdX7_bound ⟨Nat.le_of_ble_eq_true rfl, Nat.le_of_ble_eq_true rfl⟩) s_pre rfl rfl hl.1 rfl (lv_room (Nat.le_of_ble_eq_true rfl)) dX7_boundBy_5 ⟨Nat.zero_le _, Nat.zero_le _⟩)) (fun r_1 hr_1 => ?_)
  subst hr_1
  have rf_1 := rX7_bound a1 0 999
  have := q_0
  have := q_999
  refine lv_istore_n (lv' := [(3, .int (sX7_bound a1 0 999)), (0, .ref (ad 0)), (1, .int a1), (2, .int a2)]) hx hb dX7_boundBy_8 rfl hl (by decide) rfl (fun ls hl => ?_)
  refine lv_iload_n hx hb dX7_boundBy_9 rfl (lv_at hl 0 rfl) ?_
  refine lv_if_ne (tgt := 41) hx hb dX7_boundBy_10 (by decide) (fun c_2 => ?_) (fun c_2 => ?_)
  · have E := E.trans (if_neg c_2)
    have fc_2 := i_ne c_2
    rw [q_0] at fc_2
    refine lv_iload_n hx hb dX7_boundBy_41 rfl (lv_at hl 0 rfl) ?_
    refine lv_if_eq (tgt := 51) hx hb dX7_boundBy_42 (by decide) (fun z => absurd z c_2) (fun _ => ?_)
    refine lv_aload_n hx hb dX7_boundBy_45 rfl (lv_at hl 1 rfl) ?_
    refine lv_iload_n hx hb dX7_boundBy_46 rfl (lv_at hl 0 rfl) ?_
    refine va_calli (va_runV (As := [.int (sX7_bound a1 0 999)]) (rest := []) ⟨hx, hb, hml, hown, hts⟩ (kX7_no l D cI ad w (sX7_bound a1 0 999) hd hI (by omega) (by omega)) (cwV 1 hts gX7_boundBy_X7_no rfl rfl rfl mdX7_no ⟨Nat.le_of_ble_eq_true rfl, Nat.le_of_ble_eq_true rfl⟩) (r7_pre hK hP) rfl rfl hl.1 rfl (lv_room (Nat.le_of_ble_eq_true rfl)) dX7_boundBy_47 ⟨Nat.zero_le _, Nat.zero_le _⟩) hS (fun _ _ h => h) (fun _ h => h) (fun rn_3 wn_3 t H locs ht hvm hp_3 hB hz hfr hS => ?_)
    have hP : va_P D vwCl (RM cI ad wn_3) H := ht ▸ hB
    obtain ⟨hp_3, hI_3⟩ := hp_3
    have E := bnd_e E hp_3
    exact W.iret (v := rn_3) hx hb hr (fun t ht hW => ⟨⟨_, wn_3, rfl, E.symm, by show va_P _ _ _ t.heap; rw [ht]; exact hP⟩, hS.F ht⟩) hS.2.2 dX7_boundBy_50
  · have E := E.trans (if_pos c_2)
    have fc_2 := i_eq c_2
    rw [q_0] at fc_2
    refine lv_iload_n hx hb dX7_boundBy_13 rfl (lv_at hl 3 rfl) ?_
    refine lv_iconst (v := 0) hx hb dX7_boundBy_14 (by decide) ?_
    refine lv_iconst (v := 1) hx hb dX7_boundBy_15 (by decide) ?_
    refine vp_callSi (va_Run.run (va_runS (As := [.int a2, .int 0, .int 1]) (rest := []) ⟨hx, hb, hml, hown, hts⟩ (kX7_isIn l a2 0 1) (va_cwS 3 hts gX7_boundBy_X7_isIn rfl rfl rfl mdX7_isIn ⟨Nat.le_of_ble_eq_true rfl, Nat.le_of_ble_eq_true rfl⟩) s_pre rfl rfl hl.1 rfl (lv_room (Nat.le_of_ble_eq_true rfl)) dX7_boundBy_16 ⟨Nat.zero_le _, Nat.zero_le _⟩)) (fun r_4 hr_4 => ?_)
    obtain ⟨rfl, hz_4⟩ := hr_4
    refine lv_if_ne (tgt := 27) hx hb dX7_boundBy_19 (by decide) (fun c_5 => ?_) (fun c_5 => ?_)
    · have E := E.trans (if_neg c_5)
      have fc_5 := i_ne c_5
      rw [q_0] at fc_5
      have gc_5 := fX7_isIn c_5
      have := q_0
      have := q_1
      refine lv_aload_n hx hb dX7_boundBy_27 rfl (lv_at hl 1 rfl) ?_
      refine vp_callSi (va_Run.run (va_runV (As := []) (rest := []) ⟨hx, hb, hml, hown, hts⟩ (kX7_areTwos l D cI ad w hI) (cwV 0 hts gX7_boundBy_X7_areTwos rfl rfl rfl mdX7_areTwos ⟨Nat.le_of_ble_eq_true rfl, Nat.le_of_ble_eq_true rfl⟩) (r7_pre hK hP) rfl rfl hl.1 rfl (lv_room (Nat.le_of_ble_eq_true rfl)) dX7_boundBy_28 ⟨Nat.zero_le _, Nat.zero_le _⟩)) (fun r_6 hr_6 => ?_)
      obtain ⟨rfl, hz_6⟩ := hr_6
      refine lv_if_ne (tgt := 39) hx hb dX7_boundBy_31 (by decide) (fun c_7 => ?_) (fun c_7 => ?_)
      · have E := E.trans (if_neg c_7)
        have fc_7 := i_ne c_7
        rw [q_0] at fc_7
        have gc_7 := fX7_areTwos c_7
        refine lv_iconst (v := 0) hx hb dX7_boundBy_39 (by decide) ?_
        refine lv_istore_n (lv' := [(3, .int 0), (0, .ref (ad 0)), (1, .int a1), (2, .int a2)]) hx hb dX7_boundBy_40 rfl hl (by decide) rfl (fun ls hl => ?_)
        refine lv_iload_n hx hb dX7_boundBy_41 rfl (lv_at hl 0 rfl) ?_
        refine lv_if_eq (tgt := 51) hx hb dX7_boundBy_42 (by decide) (fun _ => ?_) (fun z => absurd z (by decide))
        refine lv_bipush (v := (-9)) hx hb dX7_boundBy_51 (by decide +kernel) ?_
        refine lv_istore (lv' := [(4, .int (-9)), (3, .int 0), (0, .ref (ad 0)), (1, .int a1), (2, .int a2)]) hx hb dX7_boundBy_53 hl (by decide) rfl (fun ls hl => ?_)
        refine lv_iconst (v := 0) hx hb dX7_boundBy_55 (by decide) ?_
        refine lv_istore (lv' := [(5, .int 0), (4, .int (-9)), (3, .int 0), (0, .ref (ad 0)), (1, .int a1), (2, .int a2)]) hx hb dX7_boundBy_56 hl (by decide) rfl (fun ls hl => ?_)
        have L_58 : ∀ (n_58 : Nat) (x4_58 : Int32) (x5_58 : Int32) (ls : Array Slot), ((0 ≤ x5_58.toInt) ∧ (x5_58.toInt ≤ 21)) → (21 - x5_58.toInt < (n_58 : Int)) → lv_has ls 6 [(5, .int x5_58), (4, .int x4_58), (0, .ref (ad 0)), (1, .int a1), (2, .int a2)] → sX7_boundBy w a1 a2 = sX7_boundBy_58 w a1 a2 n_58 x4_58 x5_58 → W p l e (headSpec wsX7_boundBy rmX7_boundBy).room s m [Value.ref (ad 0), Value.int a1, Value.int a2].toArray below meth c H locs 0 0 (MQ below (va_Qi (fun r u => (r, u) = sX7_boundBy w a1 a2) (fun u t => va_P D vwCl (RM cI ad u) t.heap) (RA ad)) [Value.ref (ad 0), Value.int a1, Value.int a2].toArray s 0 0 (RA ad)) (F0 m 58 ls []) := by
          intro n_58
          induction n_58 with
          | zero =>
            intro x4_58 x5_58 ls hinv hm
            obtain ⟨v0_58, v1_58⟩ := hinv
            exact absurd hm (by omega)
          | succ n_58 ih_58 =>
            intro x4_58 x5_58 ls hinv hm_58 hl E
            obtain ⟨v0_58, v1_58⟩ := hinv
            have E := E.trans (sX7_boundBy_58.eq_2 ..)
            refine lv_iload hx hb dX7_boundBy_58 (lv_at hl 0 rfl) ?_
            refine lv_bipush (v := 21) hx hb dX7_boundBy_60 (by decide +kernel) ?_
            refine lv_icmp_ge (tgt := 95) hx hb dX7_boundBy_62 (by decide) (fun c_8 => ?_) (fun c_8 => ?_)
            · have E := E.trans (if_pos c_8)
              have fc_8 := i_le c_8
              rw [q_21] at fc_8
              refine lv_iload hx hb dX7_boundBy_95 (lv_at hl 1 rfl) ?_
              exact W.iret (v := x4_58) hx hb hr (fun t ht hW => ⟨⟨_, w, rfl, E.symm, by show va_P _ _ _ t.heap; rw [ht]; exact hP⟩, hS.F ht⟩) hS.2.2 dX7_boundBy_97
            · have E := E.trans (if_neg c_8)
              have fc_8 := i_nle c_8
              rw [q_21] at fc_8
              refine lv_aload_n hx hb dX7_boundBy_65 rfl (lv_at hl 2 rfl) ?_
              refine lv_iload hx hb dX7_boundBy_66 (lv_at hl 0 rfl) ?_
              refine lv_iload_n hx hb dX7_boundBy_68 rfl (lv_at hl 3 rfl) ?_
              refine vp_callSi (va_Run.run (va_runV (As := [.int x5_58, .int a1]) (rest := []) ⟨hx, hb, hml, hown, hts⟩ (kX7_isBoundBy l D cI ad w x5_58 a1 hI (by omega)) (cwV 2 hts gX7_boundBy_X7_isBoundBy rfl rfl rfl mdX7_isBoundBy ⟨Nat.le_of_ble_eq_true rfl, Nat.le_of_ble_eq_true rfl⟩) (r7_pre hK hP) rfl rfl hl.1 rfl (lv_room (Nat.le_of_ble_eq_true rfl)) dX7_boundBy_69 ⟨Nat.zero_le _, Nat.zero_le _⟩)) (fun r_9 hr_9 => ?_)
              obtain ⟨rfl, hz_9⟩ := hr_9
              refine lv_if_eq (tgt := 89) hx hb dX7_boundBy_72 (by decide) (fun c_10 => ?_) (fun c_10 => ?_)
              · have E := E.trans (if_pos c_10)
                have fc_10 := i_eq c_10
                rw [q_0] at fc_10
                refine lv_iinc (v := x5_58 + 1) (lv' := [(5, .int (x5_58 + 1)), (4, .int x4_58), (0, .ref (ad 0)), (1, .int a1), (2, .int a2)]) hx hb dX7_boundBy_89 hl (k := 0) rfl rfl (by decide) rfl (fun ls hl => ?_)
                refine lv_goto (tgt := 58) hx hb dX7_boundBy_92 (by decide) ?_
                try have := i_addr (a := x5_58) (b := 1) (n := 1) q_1 (by omega) (by omega)
                exact ih_58 x4_58 (x5_58 + 1) ls ⟨by omega, by omega⟩ (by omega) (lv_sub hl [0, 1, 2, 3, 4] rfl) E
              · have E := E.trans (if_neg c_10)
                have fc_10 := i_ne c_10
                rw [q_0] at fc_10
                refine lv_iload_n hx hb dX7_boundBy_75 rfl (lv_at hl 4 rfl) ?_
                refine lv_iconst (v := 1) hx hb dX7_boundBy_76 (by decide) ?_
                refine lv_icmp_eq (tgt := 85) hx hb dX7_boundBy_77 (by decide) (fun c_11 => ?_) (fun c_11 => ?_)
                · have E := E.trans (if_pos c_11)
                  have fc_11 := i_eq c_11
                  rw [q_1] at fc_11
                  refine lv_iload hx hb dX7_boundBy_85 (lv_at hl 0 rfl) ?_
                  refine lv_istore (lv' := [(4, .int x5_58), (5, .int x5_58), (0, .ref (ad 0)), (1, .int a1), (2, .int a2)]) hx hb dX7_boundBy_87 hl (by decide) rfl (fun ls hl => ?_)
                  refine lv_iinc (v := x5_58 + 1) (lv' := [(5, .int (x5_58 + 1)), (4, .int x5_58), (0, .ref (ad 0)), (1, .int a1), (2, .int a2)]) hx hb dX7_boundBy_89 hl (k := 1) rfl rfl (by decide) rfl (fun ls hl => ?_)
                  refine lv_goto (tgt := 58) hx hb dX7_boundBy_92 (by decide) ?_
                  try have := i_addr (a := x5_58) (b := 1) (n := 1) q_1 (by omega) (by omega)
                  exact ih_58 x5_58 (x5_58 + 1) ls ⟨by omega, by omega⟩ (by omega) (lv_sub hl [0, 1, 2, 3, 4] rfl) E
                · have E := E.trans (if_neg c_11)
                  have fc_11 := i_ne c_11
                  rw [q_1] at fc_11
                  refine lv_iload hx hb dX7_boundBy_80 (lv_at hl 1 rfl) ?_
                  refine lv_if_ge (tgt := 89) hx hb dX7_boundBy_82 (by decide) (fun c_12 => ?_) (fun c_12 => ?_)
                  · have E := E.trans (if_pos c_12)
                    have fc_12 := i_le c_12
                    rw [q_0] at fc_12
                    refine lv_iinc (v := x5_58 + 1) (lv' := [(5, .int (x5_58 + 1)), (4, .int x4_58), (0, .ref (ad 0)), (1, .int a1), (2, .int a2)]) hx hb dX7_boundBy_89 hl (k := 0) rfl rfl (by decide) rfl (fun ls hl => ?_)
                    refine lv_goto (tgt := 58) hx hb dX7_boundBy_92 (by decide) ?_
                    try have := i_addr (a := x5_58) (b := 1) (n := 1) q_1 (by omega) (by omega)
                    exact ih_58 x4_58 (x5_58 + 1) ls ⟨by omega, by omega⟩ (by omega) (lv_sub hl [0, 1, 2, 3, 4] rfl) E
                  · have E := E.trans (if_neg c_12)
                    have fc_12 := i_nle c_12
                    rw [q_0] at fc_12
                    refine lv_iload hx hb dX7_boundBy_85 (lv_at hl 0 rfl) ?_
                    refine lv_istore (lv' := [(4, .int x5_58), (5, .int x5_58), (0, .ref (ad 0)), (1, .int a1), (2, .int a2)]) hx hb dX7_boundBy_87 hl (by decide) rfl (fun ls hl => ?_)
                    refine lv_iinc (v := x5_58 + 1) (lv' := [(5, .int (x5_58 + 1)), (4, .int x5_58), (0, .ref (ad 0)), (1, .int a1), (2, .int a2)]) hx hb dX7_boundBy_89 hl (k := 1) rfl rfl (by decide) rfl (fun ls hl => ?_)
                    refine lv_goto (tgt := 58) hx hb dX7_boundBy_92 (by decide) ?_
                    try have := i_addr (a := x5_58) (b := 1) (n := 1) q_1 (by omega) (by omega)
                    exact ih_58 x5_58 (x5_58 + 1) ls ⟨by omega, by omega⟩ (by omega) (lv_sub hl [0, 1, 2, 3, 4] rfl) E
        have := q_0
        exact L_58 22 ((-9)) 0 ls ⟨by omega, by omega⟩ (by omega) (lv_sub hl [0, 1, 3, 4, 5] rfl) E
      · have E := E.trans (if_pos c_7)
        have fc_7 := i_eq c_7
        rw [q_0] at fc_7
        refine lv_bipush (v := (-3)) hx hb dX7_boundBy_34 (by decide +kernel) ?_
        refine lv_goto (tgt := 40) hx hb dX7_boundBy_36 (by decide) ?_
        refine lv_istore_n (lv' := [(3, .int (-3)), (0, .ref (ad 0)), (1, .int a1), (2, .int a2)]) hx hb dX7_boundBy_40 rfl hl (by decide) rfl (fun ls hl => ?_)
        refine lv_iload_n hx hb dX7_boundBy_41 rfl (lv_at hl 0 rfl) ?_
        refine lv_if_eq (tgt := 51) hx hb dX7_boundBy_42 (by decide) (fun z => absurd z (by decide)) (fun _ => ?_)
        refine lv_aload_n hx hb dX7_boundBy_45 rfl (lv_at hl 1 rfl) ?_
        refine lv_iload_n hx hb dX7_boundBy_46 rfl (lv_at hl 0 rfl) ?_
        have := q_m3
        refine va_calli (va_runV (As := [.int (-3)]) (rest := []) ⟨hx, hb, hml, hown, hts⟩ (kX7_no l D cI ad w (-3) hd hI (by omega) (by omega)) (cwV 1 hts gX7_boundBy_X7_no rfl rfl rfl mdX7_no ⟨Nat.le_of_ble_eq_true rfl, Nat.le_of_ble_eq_true rfl⟩) (r7_pre hK hP) rfl rfl hl.1 rfl (lv_room (Nat.le_of_ble_eq_true rfl)) dX7_boundBy_47 ⟨Nat.zero_le _, Nat.zero_le _⟩) hS (fun _ _ h => h) (fun _ h => h) (fun rn_13 wn_13 t H locs ht hvm hp_13 hB hz hfr hS => ?_)
        have hP : va_P D vwCl (RM cI ad wn_13) H := ht ▸ hB
        obtain ⟨hp_13, hI_13⟩ := hp_13
        have E := bnd_e E hp_13
        exact W.iret (v := rn_13) hx hb hr (fun t ht hW => ⟨⟨_, wn_13, rfl, E.symm, by show va_P _ _ _ t.heap; rw [ht]; exact hP⟩, hS.F ht⟩) hS.2.2 dX7_boundBy_50
    · have E := E.trans (if_pos c_5)
      have fc_5 := i_eq c_5
      rw [q_0] at fc_5
      refine lv_bipush (v := (-2)) hx hb dX7_boundBy_22 (by decide +kernel) ?_
      refine lv_goto (tgt := 40) hx hb dX7_boundBy_24 (by decide) ?_
      refine lv_istore_n (lv' := [(3, .int (-2)), (0, .ref (ad 0)), (1, .int a1), (2, .int a2)]) hx hb dX7_boundBy_40 rfl hl (by decide) rfl (fun ls hl => ?_)
      refine lv_iload_n hx hb dX7_boundBy_41 rfl (lv_at hl 0 rfl) ?_
      refine lv_if_eq (tgt := 51) hx hb dX7_boundBy_42 (by decide) (fun z => absurd z (by decide)) (fun _ => ?_)
      refine lv_aload_n hx hb dX7_boundBy_45 rfl (lv_at hl 1 rfl) ?_
      refine lv_iload_n hx hb dX7_boundBy_46 rfl (lv_at hl 0 rfl) ?_
      have := q_m2
      refine va_calli (va_runV (As := [.int (-2)]) (rest := []) ⟨hx, hb, hml, hown, hts⟩ (kX7_no l D cI ad w (-2) hd hI (by omega) (by omega)) (cwV 1 hts gX7_boundBy_X7_no rfl rfl rfl mdX7_no ⟨Nat.le_of_ble_eq_true rfl, Nat.le_of_ble_eq_true rfl⟩) (r7_pre hK hP) rfl rfl hl.1 rfl (lv_room (Nat.le_of_ble_eq_true rfl)) dX7_boundBy_47 ⟨Nat.zero_le _, Nat.zero_le _⟩) hS (fun _ _ h => h) (fun _ h => h) (fun rn_14 wn_14 t H locs ht hvm hp_14 hB hz hfr hS => ?_)
      have hP : va_P D vwCl (RM cI ad wn_14) H := ht ▸ hB
      obtain ⟨hp_14, hI_14⟩ := hp_14
      have E := bnd_e E hp_14
      exact W.iret (v := rn_14) hx hb hr (fun t ht hW => ⟨⟨_, wn_14, rfl, E.symm, by show va_P _ _ _ t.heap; rw [ht]; exact hP⟩, hS.F ht⟩) hS.2.2 dX7_boundBy_50
abbrev rmX7_row : Room := { frames := 1, cells := 0, slots := 0, locals := 22 }
set_option maxHeartbeats 4000000 in
set_option maxRecDepth 100000 in
theorem kX7_row (l : Launch) (D : va_G) (cI : ClassId) (ad : Nat → Nat) (w : Nat → Nat → Int32) (a1 : Int32) (hd : RD ad) (hI : R7I w)  : Met l yX7_row wsX7_row rmX7_row (va_Pc [Value.ref (ad 0), Value.int a1] (fun U => va_P D vwCl (RM cI ad w) U.heap ∧ va_K D vwCl [(cI, .int)] U)) (va_Qi (fun r u => (r, u) = sX7_row w a1 ∧ R7I u) (fun u t => va_P D vwCl (RM cI ad u) t.heap) (RA ad)) 0 0 (RA ad) := by
  refine Met.ofW (cc := cX7_row) (maxL := 3) (ret := (some .int)) (by decide) rfl ?_
  intro p e s m args below meth c s₁ B hml hv
  obtain ⟨rfl, hP, hK⟩ := hv
  have hx := B.exec
  have hb := B.bytes
  have hr := B.returns
  have hts := atoms_spec (ws := wsX7_row) B.pre
  have hown : s.vm.findClass RX7 = some m.cls := findClass_of_methodNamed B.named
  have hlocks := B.notSynchronized
  have hin : ∀ q ∈ wsX70, q ∈ wsX7_row := by decide +kernel
  have hl := lv_entry ([.ref (ad 0), .int a1]) (n := 3) (Nat.le_of_ble_eq_true rfl)
  rw [lg_entry_eq]
  generalize (lg_sl ([.ref (ad 0), .int a1]) ++ List.replicate (3 - (lg_sl ([.ref (ad 0), .int a1])).length) Slot.unset).toArray = ls at hl ⊢
  have hl : lv_has ls 3 [(0, .ref (ad 0)), (1, .int a1)] := hl
  suffices hgo : ∀ (H : Heap) (locs : List Loc), va_P D vwCl (RM cI ad w) H → va_S (RA ad) s.heap H locs → W p l e (headSpec wsX7_row rmX7_row).room s m [Value.ref (ad 0), Value.int a1].toArray below meth c H locs 0 0 (MQ below (va_Qi (fun r u => (r, u) = sX7_row w a1 ∧ R7I u) (fun u t => va_P D vwCl (RM cI ad u) t.heap) (RA ad)) [Value.ref (ad 0), Value.int a1].toArray s 0 0 (RA ad)) (F0 m 0 ls []) from hgo s.heap [] hP va_S.rf
  intro H locs hP hS
  have E := sX7_row.eq_1 w a1
  refine lv_iload_n hx hb dX7_row_0 rfl (lv_at hl 1 rfl) ?_
  refine lv_iconst (v := 0) hx hb dX7_row_1 (by decide) ?_
  refine lv_bipush (v := 99) hx hb dX7_row_2 (by decide +kernel) ?_
  refine vp_callSi (va_Run.run (va_runS (As := [.int a1, .int 0, .int 99]) (rest := []) ⟨hx, hb, hml, hown, hts⟩ (kX7_bound l a1 0 99) (va_cwS 3 hts gX7_row_X7_bound rfl rfl rfl mdX7_bound ⟨Nat.le_of_ble_eq_true rfl, Nat.le_of_ble_eq_true rfl⟩) s_pre rfl rfl hl.1 rfl (lv_room (Nat.le_of_ble_eq_true rfl)) dX7_row_4 ⟨Nat.zero_le _, Nat.zero_le _⟩)) (fun r_1 hr_1 => ?_)
  subst hr_1
  have rf_1 := rX7_bound a1 0 99
  have := q_0
  have := q_99
  refine lv_istore_n (lv' := [(2, .int (sX7_bound a1 0 99)), (0, .ref (ad 0)), (1, .int a1)]) hx hb dX7_row_7 rfl hl (by decide) rfl (fun ls hl => ?_)
  refine lv_iload_n hx hb dX7_row_8 rfl (lv_at hl 0 rfl) ?_
  refine lv_if_ne (tgt := 24) hx hb dX7_row_9 (by decide) (fun c_2 => ?_) (fun c_2 => ?_)
  · have E := E.trans (if_neg c_2)
    have fc_2 := i_ne c_2
    rw [q_0] at fc_2
    refine lv_iload_n hx hb dX7_row_24 rfl (lv_at hl 0 rfl) ?_
    refine lv_if_eq (tgt := 34) hx hb dX7_row_25 (by decide) (fun z => absurd z c_2) (fun _ => ?_)
    refine lv_aload_n hx hb dX7_row_28 rfl (lv_at hl 1 rfl) ?_
    refine lv_iload_n hx hb dX7_row_29 rfl (lv_at hl 0 rfl) ?_
    refine va_calli (va_runV (As := [.int (sX7_bound a1 0 99)]) (rest := []) ⟨hx, hb, hml, hown, hts⟩ (kX7_no l D cI ad w (sX7_bound a1 0 99) hd hI (by omega) (by omega)) (cwV 1 hts gX7_row_X7_no rfl rfl rfl mdX7_no ⟨Nat.le_of_ble_eq_true rfl, Nat.le_of_ble_eq_true rfl⟩) (r7_pre hK hP) rfl rfl hl.1 rfl (lv_room (Nat.le_of_ble_eq_true rfl)) dX7_row_30 ⟨Nat.zero_le _, Nat.zero_le _⟩) hS (fun _ _ h => h) (fun _ h => h) (fun rn_3 wn_3 t H locs ht hvm hp_3 hB hz hfr hS => ?_)
    have hP : va_P D vwCl (RM cI ad wn_3) H := ht ▸ hB
    obtain ⟨hp_3, hI_3⟩ := hp_3
    have E := bnd_e E hp_3
    exact W.iret (v := rn_3) hx hb hr (fun t ht hW => ⟨⟨_, wn_3, rfl, ⟨E.symm, hI_3⟩, by show va_P _ _ _ t.heap; rw [ht]; exact hP⟩, hS.F ht⟩) hS.2.2 dX7_row_33
  · have E := E.trans (if_pos c_2)
    have fc_2 := i_eq c_2
    rw [q_0] at fc_2
    refine lv_aload_n hx hb dX7_row_12 rfl (lv_at hl 1 rfl) ?_
    refine g7_rowMany hx hb hts hin hown hK hP (hts (.fieldLink RX7 262 "LoadedForTheLaneModel" "rowMany" "I") (by decide +kernel)) dX7_row_13 ?_
    have f_4 := R7I_rowMany hI
    refine lv_bipush (v := 12) hx hb dX7_row_16 (by decide +kernel) ?_
    refine lv_icmp_ne (tgt := 24) hx hb dX7_row_18 (by decide) (fun c_5 => ?_) (fun c_5 => ?_)
    · have E := E.trans (if_neg c_5)
      have fc_5 := i_ne c_5
      rw [q_12] at fc_5
      refine lv_iload_n hx hb dX7_row_24 rfl (lv_at hl 0 rfl) ?_
      refine lv_if_eq (tgt := 34) hx hb dX7_row_25 (by decide) (fun _ => ?_) (fun z => absurd c_2 z)
      refine lv_aload_n hx hb dX7_row_34 rfl (lv_at hl 1 rfl) ?_
      refine g7_row hx hb hts hin hown hK hP (hts (.fieldLink RX7 61 "LoadedForTheLaneModel" "row" "[I") (by decide +kernel)) dX7_row_35 ?_
      refine lv_aload_n hx hb dX7_row_38 rfl (lv_at hl 1 rfl) ?_
      refine g7_rowMany hx hb hts hin hown hK hP (hts (.fieldLink RX7 262 "LoadedForTheLaneModel" "rowMany" "I") (by decide +kernel)) dX7_row_39 ?_
      have f_6 := R7I_rowMany hI
      refine lv_iload_n hx hb dX7_row_42 rfl (lv_at hl 2 rfl) ?_
      have ix_7 : vp_in (w 27 0) 12 := ix_of (by omega) (by omega)
      refine a7_row (j := (w 27 0).toNatClampNeg) hx hb hK hP hd hS ix_7 rfl dX7_row_43 (fun H locs hP hS => ?_)
      obtain ⟨wn_7, hwn_7⟩ : ∃ x, x = st w 26 ((w 27 0).toNatClampNeg) a1 := ⟨_, rfl⟩
      rw [← hwn_7] at hP
      have E := bns_e E hwn_7
      have ft7_rowMany : (wn_7 27 0).toInt = (w 27 0).toInt := by rw [hwn_7]; rfl
      have fv_7 : (wn_7 26 ((w 27 0).toNatClampNeg)).toInt = (a1 : Int32).toInt := by rw [hwn_7, st_rd]
      have hI_7 : R7I wn_7 := by rw [hwn_7]; exact R7I_put_row hI
      refine lv_aload_n hx hb dX7_row_44 rfl (lv_at hl 1 rfl) ?_
      refine lv_dup hx hb dX7_row_45 rfl ?_
      refine g7_rowMany hx hb hts hin hown hK hP (hts (.fieldLink RX7 262 "LoadedForTheLaneModel" "rowMany" "I") (by decide +kernel)) dX7_row_46 ?_
      have f_8 := R7I_rowMany hI_7
      refine lv_iconst (v := 1) hx hb dX7_row_49 (by decide) ?_
      refine lv_iadd hx hb dX7_row_50 ?_
      refine p7_rowMany hx hb hts hin hown hK hP hd hS (hts (.fieldLink RX7 262 "LoadedForTheLaneModel" "rowMany" "I") (by decide +kernel)) dX7_row_51 (fun H locs hP hS => ?_)
      obtain ⟨wn_9, hwn_9⟩ : ∃ x, x = st wn_7 27 0 ((wn_7 27 0) + 1) := ⟨_, rfl⟩
      rw [← hwn_9] at hP
      have E := bns_e E hwn_9
      have ft9_rowMany : (wn_9 27 0).toInt = ((wn_7 27 0) + 1 : Int32).toInt := by rw [hwn_9]; rfl
      have := i_addr (a := wn_7 27 0) (b := 1) (n := 1) q_1 (by omega) (by omega)
      have := i_addr (a := wn_7 27 0) (b := 1) (n := 1) q_1 (by omega) (by omega)
      have hI_9 : R7I wn_9 := by rw [hwn_9]; exact R7I_put_rowMany hI_7 (by omega) (by omega)
      refine lv_aload_n hx hb dX7_row_54 rfl (lv_at hl 1 rfl) ?_
      refine g7_rowMany hx hb hts hin hown hK hP (hts (.fieldLink RX7 262 "LoadedForTheLaneModel" "rowMany" "I") (by decide +kernel)) dX7_row_55 ?_
      have f_10 := R7I_rowMany hI_9
      exact W.iret (v := wn_9 27 0) hx hb hr (fun t ht hW => ⟨⟨_, wn_9, rfl, ⟨E.symm, hI_9⟩, by show va_P _ _ _ t.heap; rw [ht]; exact hP⟩, hS.F ht⟩) hS.2.2 dX7_row_58
    · have E := E.trans (if_pos c_5)
      have fc_5 := i_eq c_5
      rw [q_12] at fc_5
      refine lv_bipush (v := (-6)) hx hb dX7_row_21 (by decide +kernel) ?_
      refine lv_istore_n (lv' := [(2, .int (-6)), (0, .ref (ad 0)), (1, .int a1)]) hx hb dX7_row_23 rfl hl (by decide) rfl (fun ls hl => ?_)
      refine lv_iload_n hx hb dX7_row_24 rfl (lv_at hl 0 rfl) ?_
      refine lv_if_eq (tgt := 34) hx hb dX7_row_25 (by decide) (fun z => absurd z (by decide)) (fun _ => ?_)
      refine lv_aload_n hx hb dX7_row_28 rfl (lv_at hl 1 rfl) ?_
      refine lv_iload_n hx hb dX7_row_29 rfl (lv_at hl 0 rfl) ?_
      have := q_m6
      refine va_calli (va_runV (As := [.int (-6)]) (rest := []) ⟨hx, hb, hml, hown, hts⟩ (kX7_no l D cI ad w (-6) hd hI (by omega) (by omega)) (cwV 1 hts gX7_row_X7_no rfl rfl rfl mdX7_no ⟨Nat.le_of_ble_eq_true rfl, Nat.le_of_ble_eq_true rfl⟩) (r7_pre hK hP) rfl rfl hl.1 rfl (lv_room (Nat.le_of_ble_eq_true rfl)) dX7_row_30 ⟨Nat.zero_le _, Nat.zero_le _⟩) hS (fun _ _ h => h) (fun _ h => h) (fun rn_11 wn_11 t H locs ht hvm hp_11 hB hz hfr hS => ?_)
      have hP : va_P D vwCl (RM cI ad wn_11) H := ht ▸ hB
      obtain ⟨hp_11, hI_11⟩ := hp_11
      have E := bnd_e E hp_11
      exact W.iret (v := rn_11) hx hb hr (fun t ht hW => ⟨⟨_, wn_11, rfl, ⟨E.symm, hI_11⟩, by show va_P _ _ _ t.heap; rw [ht]; exact hP⟩, hS.F ht⟩) hS.2.2 dX7_row_33
abbrev rmX7_judge : Room := { frames := 6, cells := 0, slots := 0, locals := 138 }
set_option maxHeartbeats 4000000 in
set_option maxRecDepth 100000 in
theorem kX7_judge (l : Launch) (D : va_G) (cI : ClassId) (ad : Nat → Nat) (w : Nat → Nat → Int32) (a1 : Int32) (hd : RD ad) (hI : R7I w)  : Met l yX7_judge wsX7_judge rmX7_judge (va_Pc [Value.ref (ad 0), Value.int a1] (fun U => va_P D vwCl (RM cI ad w) U.heap ∧ va_K D vwCl [(cI, .int)] U)) (va_Qi (fun r u => (r, u) = sX7_judge w a1 ∧ R7I u) (fun u t => va_P D vwCl (RM cI ad u) t.heap) (RA ad)) 0 0 (RA ad) := by
  refine Met.ofW (cc := cX7_judge) (maxL := 6) (ret := (some .int)) (by decide) rfl ?_
  intro p e s m args below meth c s₁ B hml hv
  obtain ⟨rfl, hP, hK⟩ := hv
  have hx := B.exec
  have hb := B.bytes
  have hr := B.returns
  have hts := atoms_spec (ws := wsX7_judge) B.pre
  have hown : s.vm.findClass RX7 = some m.cls := findClass_of_methodNamed B.named
  have hlocks := B.notSynchronized
  have hin : ∀ q ∈ wsX70, q ∈ wsX7_judge := by decide +kernel
  have hl := lv_entry ([.ref (ad 0), .int a1]) (n := 6) (Nat.le_of_ble_eq_true rfl)
  rw [lg_entry_eq]
  generalize (lg_sl ([.ref (ad 0), .int a1]) ++ List.replicate (6 - (lg_sl ([.ref (ad 0), .int a1])).length) Slot.unset).toArray = ls at hl ⊢
  have hl : lv_has ls 6 [(0, .ref (ad 0)), (1, .int a1)] := hl
  suffices hgo : ∀ (H : Heap) (locs : List Loc), va_P D vwCl (RM cI ad w) H → va_S (RA ad) s.heap H locs → W p l e (headSpec wsX7_judge rmX7_judge).room s m [Value.ref (ad 0), Value.int a1].toArray below meth c H locs 0 0 (MQ below (va_Qi (fun r u => (r, u) = sX7_judge w a1 ∧ R7I u) (fun u t => va_P D vwCl (RM cI ad u) t.heap) (RA ad)) [Value.ref (ad 0), Value.int a1].toArray s 0 0 (RA ad)) (F0 m 0 ls []) from hgo s.heap [] hP va_S.rf
  intro H locs hP hS
  have E := sX7_judge.eq_1 w a1
  refine lv_iload_n hx hb dX7_judge_0 rfl (lv_at hl 1 rfl) ?_
  refine vp_callSi (va_Run.run (va_runS (As := [.int a1]) (rest := []) ⟨hx, hb, hml, hown, hts⟩ (kX7_isWay l a1) (va_cwS 1 hts gX7_judge_X7_isWay rfl rfl rfl mdX7_isWay ⟨Nat.le_of_ble_eq_true rfl, Nat.le_of_ble_eq_true rfl⟩) s_pre rfl rfl hl.1 rfl (lv_room (Nat.le_of_ble_eq_true rfl)) dX7_judge_1 ⟨Nat.zero_le _, Nat.zero_le _⟩)) (fun r_1 hr_1 => ?_)
  obtain ⟨rfl, hz_1⟩ := hr_1
  refine lv_if_ne (tgt := 13) hx hb dX7_judge_4 (by decide) (fun c_2 => ?_) (fun c_2 => ?_)
  · have E := E.trans (if_neg c_2)
    have fc_2 := i_ne c_2
    rw [q_0] at fc_2
    have gc_2 := fX7_isWay c_2
    refine lv_aload_n hx hb dX7_judge_13 rfl (lv_at hl 0 rfl) ?_
    refine g7_rowMany hx hb hts hin hown hK hP (hts (.fieldLink RX7 262 "LoadedForTheLaneModel" "rowMany" "I") (by decide +kernel)) dX7_judge_14 ?_
    have f_3 := R7I_rowMany hI
    refine lv_istore_n (lv' := [(2, .int (w 27 0)), (0, .ref (ad 0)), (1, .int a1)]) hx hb dX7_judge_17 rfl hl (by decide) rfl (fun ls hl => ?_)
    refine lv_aload_n hx hb dX7_judge_18 rfl (lv_at hl 1 rfl) ?_
    refine lv_iconst (v := 0) hx hb dX7_judge_19 (by decide) ?_
    refine p7_rowMany hx hb hts hin hown hK hP hd hS (hts (.fieldLink RX7 262 "LoadedForTheLaneModel" "rowMany" "I") (by decide +kernel)) dX7_judge_20 (fun H locs hP hS => ?_)
    obtain ⟨wn_4, hwn_4⟩ : ∃ x, x = st w 27 0 0 := ⟨_, rfl⟩
    rw [← hwn_4] at hP
    have E := bns_e E hwn_4
    have := q_0
    have hI_4 : R7I wn_4 := by rw [hwn_4]; exact R7I_put_rowMany hI (by omega) (by omega)
    refine lv_aload_n hx hb dX7_judge_23 rfl (lv_at hl 1 rfl) ?_
    refine g7_setting hx hb hts hin hown hK hP (hts (.fieldLink RX7 13 "LoadedForTheLaneModel" "setting" "[I") (by decide +kernel)) dX7_judge_24 ?_
    refine lv_iconst (v := 0) hx hb dX7_judge_27 (by decide) ?_
    have ix_5 : vp_in 0 4 := by unfold vp_in; decide
    refine l7_setting (j := 0) hx hb hK hP ix_5 (by decide) dX7_judge_28 ?_
    refine lv_istore_n (lv' := [(3, .int (wn_4 1 0)), (2, .int (w 27 0)), (0, .ref (ad 0)), (1, .int a1)]) hx hb dX7_judge_29 rfl hl (by decide) rfl (fun ls hl => ?_)
    refine lv_bipush (v := (-9)) hx hb dX7_judge_30 (by decide +kernel) ?_
    refine lv_istore (lv' := [(4, .int (-9)), (3, .int (wn_4 1 0)), (2, .int (w 27 0)), (0, .ref (ad 0)), (1, .int a1)]) hx hb dX7_judge_32 hl (by decide) rfl (fun ls hl => ?_)
    refine lv_iconst (v := 0) hx hb dX7_judge_34 (by decide) ?_
    refine lv_istore (lv' := [(5, .int 0), (4, .int (-9)), (3, .int (wn_4 1 0)), (2, .int (w 27 0)), (0, .ref (ad 0)), (1, .int a1)]) hx hb dX7_judge_35 hl (by decide) rfl (fun ls hl => ?_)
    have L_37 : ∀ (n_37 : Nat) (x4_37 : Int32) (x5_37 : Int32) (w_37 : Nat → Nat → Int32) (H : Heap) (locs : List Loc) (ls : Array Slot), ((0 ≤ x5_37.toInt) ∧ (x5_37.toInt ≤ 12)) → (12 - x5_37.toInt < (n_37 : Int)) → R7I w_37 → va_P D vwCl (RM cI ad w_37) H → va_S (RA ad) s.heap H locs → lv_has ls 6 [(5, .int x5_37), (4, .int x4_37), (3, .int (wn_4 1 0)), (2, .int (w 27 0)), (0, .ref (ad 0)), (1, .int a1)] → sX7_judge w a1 = sX7_judge_37 w a1 wn_4 n_37 x4_37 x5_37 w_37 → W p l e (headSpec wsX7_judge rmX7_judge).room s m [Value.ref (ad 0), Value.int a1].toArray below meth c H locs 0 0 (MQ below (va_Qi (fun r u => (r, u) = sX7_judge w a1 ∧ R7I u) (fun u t => va_P D vwCl (RM cI ad u) t.heap) (RA ad)) [Value.ref (ad 0), Value.int a1].toArray s 0 0 (RA ad)) (F0 m 37 ls []) := by
      intro n_37
      induction n_37 with
      | zero =>
        intro x4_37 x5_37 w_37 H locs ls hinv hm
        obtain ⟨v0_37, v1_37⟩ := hinv
        exact absurd hm (by omega)
      | succ n_37 ih_37 =>
        intro x4_37 x5_37 w_37 H locs ls hinv hm_37 hI_37 hP hS hl E
        obtain ⟨v0_37, v1_37⟩ := hinv
        have E := E.trans (sX7_judge_37.eq_2 ..)
        refine lv_iload hx hb dX7_judge_37 (lv_at hl 0 rfl) ?_
        refine lv_iload_n hx hb dX7_judge_39 rfl (lv_at hl 3 rfl) ?_
        refine lv_icmp_ge (tgt := 102) hx hb dX7_judge_40 (by decide) (fun c_6 => ?_) (fun c_6 => ?_)
        · have E := E.trans (if_pos c_6)
          have fc_6 := i_le c_6
          refine lv_aload_n hx hb dX7_judge_102 rfl (lv_at hl 4 rfl) ?_
          refine g7_setting hx hb hts hin hown hK hP (hts (.fieldLink RX7 13 "LoadedForTheLaneModel" "setting" "[I") (by decide +kernel)) dX7_judge_103 ?_
          refine lv_iconst (v := 0) hx hb dX7_judge_106 (by decide) ?_
          refine lv_iload_n hx hb dX7_judge_107 rfl (lv_at hl 2 rfl) ?_
          have ix_7 : vp_in 0 4 := by unfold vp_in; decide
          refine a7_setting (j := 0) hx hb hK hP hd hS ix_7 (by decide) dX7_judge_108 (fun H locs hP hS => ?_)
          obtain ⟨wn_7, hwn_7⟩ : ∃ x, x = st w_37 1 0 (wn_4 1 0) := ⟨_, rfl⟩
          rw [← hwn_7] at hP
          have E := bns_e E hwn_7
          have hI_7 : R7I wn_7 := by rw [hwn_7]; exact R7I_put_setting hI_37
          refine lv_iload hx hb dX7_judge_109 (lv_at hl 1 rfl) ?_
          exact W.iret (v := x4_37) hx hb hr (fun t ht hW => ⟨⟨_, wn_7, rfl, ⟨E.symm, hI_7⟩, by show va_P _ _ _ t.heap; rw [ht]; exact hP⟩, hS.F ht⟩) hS.2.2 dX7_judge_111
        · have E := E.trans (if_neg c_6)
          have fc_6 := i_nle c_6
          refine lv_iload hx hb dX7_judge_43 (lv_at hl 1 rfl) ?_
          refine lv_if_ge (tgt := 102) hx hb dX7_judge_45 (by decide) (fun c_8 => ?_) (fun c_8 => ?_)
          · have E := E.trans (if_pos c_8)
            have fc_8 := i_le c_8
            rw [q_0] at fc_8
            refine lv_aload_n hx hb dX7_judge_102 rfl (lv_at hl 4 rfl) ?_
            refine g7_setting hx hb hts hin hown hK hP (hts (.fieldLink RX7 13 "LoadedForTheLaneModel" "setting" "[I") (by decide +kernel)) dX7_judge_103 ?_
            refine lv_iconst (v := 0) hx hb dX7_judge_106 (by decide) ?_
            refine lv_iload_n hx hb dX7_judge_107 rfl (lv_at hl 2 rfl) ?_
            have ix_9 : vp_in 0 4 := by unfold vp_in; decide
            refine a7_setting (j := 0) hx hb hK hP hd hS ix_9 (by decide) dX7_judge_108 (fun H locs hP hS => ?_)
            obtain ⟨wn_9, hwn_9⟩ : ∃ x, x = st w_37 1 0 (wn_4 1 0) := ⟨_, rfl⟩
            rw [← hwn_9] at hP
            have E := bns_e E hwn_9
            have hI_9 : R7I wn_9 := by rw [hwn_9]; exact R7I_put_setting hI_37
            refine lv_iload hx hb dX7_judge_109 (lv_at hl 1 rfl) ?_
            exact W.iret (v := x4_37) hx hb hr (fun t ht hW => ⟨⟨_, wn_9, rfl, ⟨E.symm, hI_9⟩, by show va_P _ _ _ t.heap; rw [ht]; exact hP⟩, hS.F ht⟩) hS.2.2 dX7_judge_111
          · have E := E.trans (if_neg c_8)
            have fc_8 := i_nle c_8
            rw [q_0] at fc_8
            refine lv_aload_n hx hb dX7_judge_48 rfl (lv_at hl 4 rfl) ?_
            refine g7_setting hx hb hts hin hown hK hP (hts (.fieldLink RX7 13 "LoadedForTheLaneModel" "setting" "[I") (by decide +kernel)) dX7_judge_49 ?_
            refine lv_iconst (v := 0) hx hb dX7_judge_52 (by decide) ?_
            refine lv_iload hx hb dX7_judge_53 (lv_at hl 0 rfl) ?_
            have ix_10 : vp_in 0 4 := by unfold vp_in; decide
            refine a7_setting (j := 0) hx hb hK hP hd hS ix_10 (by decide) dX7_judge_55 (fun H locs hP hS => ?_)
            obtain ⟨wn_10, hwn_10⟩ : ∃ x, x = st w_37 1 0 x5_37 := ⟨_, rfl⟩
            rw [← hwn_10] at hP
            have E := bns_e E hwn_10
            have hI_10 : R7I wn_10 := by rw [hwn_10]; exact R7I_put_setting hI_37
            refine lv_aload_n hx hb dX7_judge_56 rfl (lv_at hl 4 rfl) ?_
            refine lv_iload_n hx hb dX7_judge_57 rfl (lv_at hl 5 rfl) ?_
            refine va_callv (va_runV (As := [.int a1]) (rest := []) ⟨hx, hb, hml, hown, hts⟩ (kX7_findSlip l D cI ad wn_10 a1 hd hI_10 (by omega) (by omega)) (cwV 1 hts gX7_judge_X7_findSlip rfl rfl rfl mdX7_findSlip ⟨Nat.le_of_ble_eq_true rfl, Nat.le_of_ble_eq_true rfl⟩) (r7_pre hK hP) rfl rfl hl.1 rfl (lv_room (Nat.le_of_ble_eq_true rfl)) dX7_judge_58 ⟨Nat.zero_le _, Nat.zero_le _⟩) hS (fun _ _ h => h) (fun _ h => h) (fun wn_11 t H locs ht hvm hp_11 hB hz hfr hS => ?_)
            have hP : va_P D vwCl (RM cI ad wn_11) H := ht ▸ hB
            obtain ⟨hp_11, hI_11, hq0_11⟩ := hp_11
            have E := bns_e E hp_11
            refine lv_aload_n hx hb dX7_judge_61 rfl (lv_at hl 4 rfl) ?_
            refine g7_slipLayer hx hb hts hin hown hK hP (hts (.fieldLink RX7 208 "LoadedForTheLaneModel" "slipLayer" "I") (by decide +kernel)) dX7_judge_62 ?_
            refine lv_if_ge (tgt := 73) hx hb dX7_judge_65 (by decide) (fun c_12 => ?_) (fun c_12 => ?_)
            · have E := E.trans (if_pos c_12)
              have fc_12 := i_le c_12
              rw [q_0] at fc_12
              refine lv_aload_n hx hb dX7_judge_73 rfl (lv_at hl 4 rfl) ?_
              refine g7_slipLayer hx hb hts hin hown hK hP (hts (.fieldLink RX7 208 "LoadedForTheLaneModel" "slipLayer" "I") (by decide +kernel)) dX7_judge_74 ?_
              refine lv_aload_n hx hb dX7_judge_77 rfl (lv_at hl 4 rfl) ?_
              refine g7_row hx hb hts hin hown hK hP (hts (.fieldLink RX7 61 "LoadedForTheLaneModel" "row" "[I") (by decide +kernel)) dX7_judge_78 ?_
              refine lv_iload hx hb dX7_judge_81 (lv_at hl 0 rfl) ?_
              have ix_13 : vp_in x5_37 12 := ix_of (by omega) (by omega)
              refine l7_row (j := x5_37.toNatClampNeg) hx hb hK hP ix_13 rfl dX7_judge_83 ?_
              refine lv_icmp_ne (tgt := 92) hx hb dX7_judge_84 (by decide) (fun c_14 => ?_) (fun c_14 => ?_)
              · have E := E.trans (if_neg c_14)
                have fc_14 := i_ne c_14
                refine lv_iload hx hb dX7_judge_92 (lv_at hl 0 rfl) ?_
                refine lv_istore (lv' := [(4, .int x5_37), (5, .int x5_37), (3, .int (wn_4 1 0)), (2, .int (w 27 0)), (0, .ref (ad 0)), (1, .int a1)]) hx hb dX7_judge_94 hl (by decide) rfl (fun ls hl => ?_)
                refine lv_iinc (v := x5_37 + 1) (lv' := [(5, .int (x5_37 + 1)), (4, .int x5_37), (3, .int (wn_4 1 0)), (2, .int (w 27 0)), (0, .ref (ad 0)), (1, .int a1)]) hx hb dX7_judge_96 hl (k := 1) rfl rfl (by decide) rfl (fun ls hl => ?_)
                refine lv_goto (tgt := 37) hx hb dX7_judge_99 (by decide) ?_
                try have := i_addr (a := x5_37) (b := 1) (n := 1) q_1 (by omega) (by omega)
                exact ih_37 x5_37 (x5_37 + 1) wn_11 H locs ls ⟨by omega, by omega⟩ (by omega) hI_11 hP hS (lv_sub hl [0, 1, 2, 3, 4, 5] rfl) E
              · have E := E.trans (if_pos c_14)
                have fc_14 := i_eq c_14
                refine lv_bipush (v := (-9)) hx hb dX7_judge_87 (by decide +kernel) ?_
                refine lv_goto (tgt := 94) hx hb dX7_judge_89 (by decide) ?_
                refine lv_istore (lv' := [(4, .int (-9)), (5, .int x5_37), (3, .int (wn_4 1 0)), (2, .int (w 27 0)), (0, .ref (ad 0)), (1, .int a1)]) hx hb dX7_judge_94 hl (by decide) rfl (fun ls hl => ?_)
                refine lv_iinc (v := x5_37 + 1) (lv' := [(5, .int (x5_37 + 1)), (4, .int (-9)), (3, .int (wn_4 1 0)), (2, .int (w 27 0)), (0, .ref (ad 0)), (1, .int a1)]) hx hb dX7_judge_96 hl (k := 1) rfl rfl (by decide) rfl (fun ls hl => ?_)
                refine lv_goto (tgt := 37) hx hb dX7_judge_99 (by decide) ?_
                try have := i_addr (a := x5_37) (b := 1) (n := 1) q_1 (by omega) (by omega)
                exact ih_37 ((-9)) (x5_37 + 1) wn_11 H locs ls ⟨by omega, by omega⟩ (by omega) hI_11 hP hS (lv_sub hl [0, 1, 2, 3, 4, 5] rfl) E
            · have E := E.trans (if_neg c_12)
              have fc_12 := i_nle c_12
              rw [q_0] at fc_12
              refine lv_bipush (v := 99) hx hb dX7_judge_68 (by decide +kernel) ?_
              refine lv_goto (tgt := 77) hx hb dX7_judge_70 (by decide) ?_
              refine lv_aload_n hx hb dX7_judge_77 rfl (lv_at hl 4 rfl) ?_
              refine g7_row hx hb hts hin hown hK hP (hts (.fieldLink RX7 61 "LoadedForTheLaneModel" "row" "[I") (by decide +kernel)) dX7_judge_78 ?_
              refine lv_iload hx hb dX7_judge_81 (lv_at hl 0 rfl) ?_
              have ix_15 : vp_in x5_37 12 := ix_of (by omega) (by omega)
              refine l7_row (j := x5_37.toNatClampNeg) hx hb hK hP ix_15 rfl dX7_judge_83 ?_
              refine lv_icmp_ne (tgt := 92) hx hb dX7_judge_84 (by decide) (fun c_16 => ?_) (fun c_16 => ?_)
              · have E := E.trans (if_neg c_16)
                have fc_16 := i_ne c_16
                rw [q_99] at fc_16
                refine lv_iload hx hb dX7_judge_92 (lv_at hl 0 rfl) ?_
                refine lv_istore (lv' := [(4, .int x5_37), (5, .int x5_37), (3, .int (wn_4 1 0)), (2, .int (w 27 0)), (0, .ref (ad 0)), (1, .int a1)]) hx hb dX7_judge_94 hl (by decide) rfl (fun ls hl => ?_)
                refine lv_iinc (v := x5_37 + 1) (lv' := [(5, .int (x5_37 + 1)), (4, .int x5_37), (3, .int (wn_4 1 0)), (2, .int (w 27 0)), (0, .ref (ad 0)), (1, .int a1)]) hx hb dX7_judge_96 hl (k := 1) rfl rfl (by decide) rfl (fun ls hl => ?_)
                refine lv_goto (tgt := 37) hx hb dX7_judge_99 (by decide) ?_
                try have := i_addr (a := x5_37) (b := 1) (n := 1) q_1 (by omega) (by omega)
                exact ih_37 x5_37 (x5_37 + 1) wn_11 H locs ls ⟨by omega, by omega⟩ (by omega) hI_11 hP hS (lv_sub hl [0, 1, 2, 3, 4, 5] rfl) E
              · have E := E.trans (if_pos c_16)
                have fc_16 := i_eq c_16
                rw [q_99] at fc_16
                refine lv_bipush (v := (-9)) hx hb dX7_judge_87 (by decide +kernel) ?_
                refine lv_goto (tgt := 94) hx hb dX7_judge_89 (by decide) ?_
                refine lv_istore (lv' := [(4, .int (-9)), (5, .int x5_37), (3, .int (wn_4 1 0)), (2, .int (w 27 0)), (0, .ref (ad 0)), (1, .int a1)]) hx hb dX7_judge_94 hl (by decide) rfl (fun ls hl => ?_)
                refine lv_iinc (v := x5_37 + 1) (lv' := [(5, .int (x5_37 + 1)), (4, .int (-9)), (3, .int (wn_4 1 0)), (2, .int (w 27 0)), (0, .ref (ad 0)), (1, .int a1)]) hx hb dX7_judge_96 hl (k := 1) rfl rfl (by decide) rfl (fun ls hl => ?_)
                refine lv_goto (tgt := 37) hx hb dX7_judge_99 (by decide) ?_
                try have := i_addr (a := x5_37) (b := 1) (n := 1) q_1 (by omega) (by omega)
                exact ih_37 ((-9)) (x5_37 + 1) wn_11 H locs ls ⟨by omega, by omega⟩ (by omega) hI_11 hP hS (lv_sub hl [0, 1, 2, 3, 4, 5] rfl) E
    have := q_0
    exact L_37 13 ((-9)) 0 wn_4 H locs ls ⟨by omega, by omega⟩ (by omega) hI_4 hP hS (lv_sub hl [0, 1, 2, 3, 4, 5] rfl) E
  · have E := E.trans (if_pos c_2)
    have fc_2 := i_eq c_2
    rw [q_0] at fc_2
    refine lv_aload_n hx hb dX7_judge_7 rfl (lv_at hl 0 rfl) ?_
    refine lv_iconst (v := (-1)) hx hb dX7_judge_8 (by decide) ?_
    have := q_m1
    refine va_calli (va_runV (As := [.int (-1)]) (rest := []) ⟨hx, hb, hml, hown, hts⟩ (kX7_no l D cI ad w (-1) hd hI (by omega) (by omega)) (cwV 1 hts gX7_judge_X7_no rfl rfl rfl mdX7_no ⟨Nat.le_of_ble_eq_true rfl, Nat.le_of_ble_eq_true rfl⟩) (r7_pre hK hP) rfl rfl hl.1 rfl (lv_room (Nat.le_of_ble_eq_true rfl)) dX7_judge_9 ⟨Nat.zero_le _, Nat.zero_le _⟩) hS (fun _ _ h => h) (fun _ h => h) (fun rn_17 wn_17 t H locs ht hvm hp_17 hB hz hfr hS => ?_)
    have hP : va_P D vwCl (RM cI ad wn_17) H := ht ▸ hB
    obtain ⟨hp_17, hI_17⟩ := hp_17
    have E := bnd_e E hp_17
    exact W.iret (v := rn_17) hx hb hr (fun t ht hW => ⟨⟨_, wn_17, rfl, ⟨E.symm, hI_17⟩, by show va_P _ _ _ t.heap; rw [ht]; exact hP⟩, hS.F ht⟩) hS.2.2 dX7_judge_12
abbrev rmX7_draw : Room := { frames := 0, cells := 0, slots := 0, locals := 0 }
set_option maxHeartbeats 4000000 in
set_option maxRecDepth 100000 in
theorem kX7_draw (l : Launch) (D : va_G) (cI : ClassId) (ad : Nat → Nat) (w : Nat → Nat → Int32) (a1 : Int32) (hd : RD ad) (hI : R7I w) (h1 : a1.toInt ≠ 0) : Met l yX7_draw wsX7_draw rmX7_draw (va_Pc [Value.ref (ad 0), Value.int a1] (fun U => va_P D vwCl (RM cI ad w) U.heap ∧ va_K D vwCl [(cI, .int)] U)) (va_Qi (fun r u => (r, u) = sX7_draw w a1 ∧ R7I u) (fun u t => va_P D vwCl (RM cI ad u) t.heap) (RA ad)) 0 0 (RA ad) := by
  refine Met.ofW (cc := cX7_draw) (maxL := 2) (ret := (some .int)) (by decide) rfl ?_
  intro p e s m args below meth c s₁ B hml hv
  obtain ⟨rfl, hP, hK⟩ := hv
  have hx := B.exec
  have hb := B.bytes
  have hr := B.returns
  have hts := atoms_spec (ws := wsX7_draw) B.pre
  have hown : s.vm.findClass RX7 = some m.cls := findClass_of_methodNamed B.named
  have hlocks := B.notSynchronized
  have hin : ∀ q ∈ wsX70, q ∈ wsX7_draw := by decide +kernel
  have hl := lv_entry ([.ref (ad 0), .int a1]) (n := 2) (Nat.le_of_ble_eq_true rfl)
  rw [lg_entry_eq]
  generalize (lg_sl ([.ref (ad 0), .int a1]) ++ List.replicate (2 - (lg_sl ([.ref (ad 0), .int a1])).length) Slot.unset).toArray = ls at hl ⊢
  have hl : lv_has ls 2 [(0, .ref (ad 0)), (1, .int a1)] := hl
  suffices hgo : ∀ (H : Heap) (locs : List Loc), va_P D vwCl (RM cI ad w) H → va_S (RA ad) s.heap H locs → W p l e (headSpec wsX7_draw rmX7_draw).room s m [Value.ref (ad 0), Value.int a1].toArray below meth c H locs 0 0 (MQ below (va_Qi (fun r u => (r, u) = sX7_draw w a1 ∧ R7I u) (fun u t => va_P D vwCl (RM cI ad u) t.heap) (RA ad)) [Value.ref (ad 0), Value.int a1].toArray s 0 0 (RA ad)) (F0 m 0 ls []) from hgo s.heap [] hP va_S.rf
  intro H locs hP hS
  have E := sX7_draw.eq_1 w a1
  refine lv_aload_n hx hb dX7_draw_0 rfl (lv_at hl 0 rfl) ?_
  refine lv_aload_n hx hb dX7_draw_1 rfl (lv_at hl 0 rfl) ?_
  refine g7_lots hx hb hts hin hown hK hP (hts (.fieldLink RX7 271 "LoadedForTheLaneModel" "lots" "I") (by decide +kernel)) dX7_draw_2 ?_
  refine lv_ldcw (own := RX7) (v := 1664525) hx hb hown (hts (.constant RX7 274 (1664525)) (by decide +kernel)) dX7_draw_5 ?_
  refine lv_imul hx hb dX7_draw_8 ?_
  refine lv_ldcw (own := RX7) (v := 1013904223) hx hb hown (hts (.constant RX7 275 (1013904223)) (by decide +kernel)) dX7_draw_9 ?_
  refine lv_iadd hx hb dX7_draw_12 ?_
  refine p7_lots hx hb hts hin hown hK hP hd hS (hts (.fieldLink RX7 271 "LoadedForTheLaneModel" "lots" "I") (by decide +kernel)) dX7_draw_13 (fun H locs hP hS => ?_)
  obtain ⟨wn_1, hwn_1⟩ : ∃ x, x = st w 28 0 (((w 28 0) * 1664525) + 1013904223) := ⟨_, rfl⟩
  rw [← hwn_1] at hP
  have E := bns_e E hwn_1
  have hI_1 : R7I wn_1 := by rw [hwn_1]; exact R7I_put_lots hI
  refine lv_aload_n hx hb dX7_draw_16 rfl (lv_at hl 0 rfl) ?_
  refine g7_lots hx hb hts hin hown hK hP (hts (.fieldLink RX7 271 "LoadedForTheLaneModel" "lots" "I") (by decide +kernel)) dX7_draw_17 ?_
  refine lv_ldcw (own := RX7) (v := 2147483647) hx hb hown (hts (.constant RX7 276 (2147483647)) (by decide +kernel)) dX7_draw_20 ?_
  refine lv_iand hx hb dX7_draw_23 ?_
  refine lv_sipush (v := 256) hx hb dX7_draw_24 (by decide +kernel) ?_
  refine lv_idiv hx hb dX7_draw_27 (by decide) ?_
  refine lv_iload_n hx hb dX7_draw_28 rfl (lv_at hl 1 rfl) ?_
  refine lv_irem hx hb dX7_draw_29 (i_ne0 (by omega)) ?_
  exact W.iret (v := (((wn_1 28 0) &&& 2147483647) / 256) - (((wn_1 28 0) &&& 2147483647) / 256) / a1 * a1) hx hb hr (fun t ht hW => ⟨⟨_, wn_1, rfl, ⟨E.symm, hI_1⟩, by show va_P _ _ _ t.heap; rw [ht]; exact hP⟩, hS.F ht⟩) hS.2.2 dX7_draw_30
