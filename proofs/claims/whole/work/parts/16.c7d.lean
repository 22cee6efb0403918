abbrev rmX7_comes : Room := { frames := 2, cells := 0, slots := 0, locals := 43 }
set_option maxHeartbeats 4000000 in
set_option maxRecDepth 100000 in
theorem kX7_comes (l : Launch) (D : va_G) (cI : ClassId) (ad : Nat → Nat) (w : Nat → Nat → Int32) (a1 : Int32) (hd : RD ad) (hI : R7I w) (h1 : 0 ≤ a1.toInt) (h2 : a1.toInt < 48) (h3 : (w 11 0).toInt ≤ 11) : Met l yX7_comes wsX7_comes rmX7_comes (va_Pc [Value.ref (ad 0), Value.int a1] (fun U => va_P D vwCl (RM cI ad w) U.heap ∧ va_K D vwCl [(cI, .int)] U)) (va_Qi (fun r u => (r, u) = sX7_comes w a1 ∧ (r = 0 ∨ r = 1) ∧ R7I u ∧ ((u 11 0).toInt ≤ 11)) (fun u t => va_P D vwCl (RM cI ad u) t.heap) (RA ad)) 0 0 (RA ad) := by
  refine Met.ofW (cc := cX7_comes) (maxL := 3) (ret := (some .boolean)) (by decide) rfl ?_
  intro p e s m args below meth c s₁ B hml hv
  obtain ⟨rfl, hP, hK⟩ := hv
  have hx := B.exec
  have hb := B.bytes
  have hr := B.returns
  have hts := atoms_spec (ws := wsX7_comes) B.pre
  have hown : s.vm.findClass RX7 = some m.cls := findClass_of_methodNamed B.named
  have hlocks := B.notSynchronized
  have hin : ∀ q ∈ wsX70, q ∈ wsX7_comes := by decide +kernel
  have hl := lv_entry ([.ref (ad 0), .int a1]) (n := 3) (Nat.le_of_ble_eq_true rfl)
  rw [lg_entry_eq]
  generalize (lg_sl ([.ref (ad 0), .int a1]) ++ List.replicate (3 - (lg_sl ([.ref (ad 0), .int a1])).length) Slot.unset).toArray = ls at hl ⊢
  have hl : lv_has ls 3 [(0, .ref (ad 0)), (1, .int a1)] := hl
  suffices hgo : ∀ (H : Heap) (locs : List Loc), va_P D vwCl (RM cI ad w) H → va_S (RA ad) s.heap H locs → W p l e (headSpec wsX7_comes rmX7_comes).room s m [Value.ref (ad 0), Value.int a1].toArray below meth c H locs 0 0 (MQ below (va_Qi (fun r u => (r, u) = sX7_comes w a1 ∧ (r = 0 ∨ r = 1) ∧ R7I u ∧ ((u 11 0).toInt ≤ 11)) (fun u t => va_P D vwCl (RM cI ad u) t.heap) (RA ad)) [Value.ref (ad 0), Value.int a1].toArray s 0 0 (RA ad)) (F0 m 0 ls []) from hgo s.heap [] hP va_S.rf
  intro H locs hP hS
  have E := sX7_comes.eq_1 w a1
  refine lv_iconst (v := 4) hx hb dX7_comes_0 (by decide) ?_
  refine lv_iload_n hx hb dX7_comes_1 rfl (lv_at hl 1 rfl) ?_
  refine lv_imul hx hb dX7_comes_2 ?_
  refine lv_istore_n (lv' := [(2, .int (4 * a1)), (0, .ref (ad 0)), (1, .int a1)]) hx hb dX7_comes_3 rfl hl (by decide) rfl (fun ls hl => ?_)
  refine lv_aload_n hx hb dX7_comes_4 rfl (lv_at hl 1 rfl) ?_
  refine g7_letter hx hb hts hin hown hK hP (hts (.fieldLink RX7 46 "LoadedForTheLaneModel" "letter" "[I") (by decide +kernel)) dX7_comes_5 ?_
  refine lv_iload_n hx hb dX7_comes_8 rfl (lv_at hl 2 rfl) ?_
  have ix_1 : vp_in a1 48 := ix_of (by omega) (by omega)
  refine l7_letter (j := a1.toNatClampNeg) hx hb hK hP ix_1 rfl dX7_comes_9 ?_
  by_cases c_2 : (w 13 (a1.toNatClampNeg)) = 102
  · have E := E.trans (if_pos c_2)
    refine lv_lookup (off := 142) (tgt := 152) hx hb dX7_comes_10 (by decide) (by rw [c_2]; decide) (by decide) ?_
    have fc_2 := i_eq c_2
    rw [q_102] at fc_2
    refine lv_aload_n hx hb dX7_comes_152 rfl (lv_at hl 1 rfl) ?_
    refine g7_setting hx hb hts hin hown hK hP (hts (.fieldLink RX7 13 "LoadedForTheLaneModel" "setting" "[I") (by decide +kernel)) dX7_comes_153 ?_
    refine lv_iconst (v := 3) hx hb dX7_comes_156 (by decide) ?_
    refine lv_aload_n hx hb dX7_comes_157 rfl (lv_at hl 1 rfl) ?_
    refine g7_told hx hb hts hin hown hK hP (hts (.fieldLink RX7 52 "LoadedForTheLaneModel" "told" "[I") (by decide +kernel)) dX7_comes_158 ?_
    refine lv_iload_n hx hb dX7_comes_161 rfl (lv_at hl 0 rfl) ?_
    have := i_mull (a := 4) (b := a1) (n := 4) q_4 (by omega) (by omega)
    have ix_3 : vp_in (4 * a1) 192 := ix_of (by omega) (by omega)
    refine l7_told (j := (4 * a1).toNatClampNeg) hx hb hK hP ix_3 rfl dX7_comes_162 ?_
    have ix_4 : vp_in 3 4 := by unfold vp_in; decide
    refine a7_setting (j := 3) hx hb hK hP hd hS ix_4 (by decide) dX7_comes_163 (fun H locs hP hS => ?_)
    obtain ⟨wn_4, hwn_4⟩ : ∃ x, x = st w 1 3 (w 15 ((4 * a1).toNatClampNeg)) := ⟨_, rfl⟩
    rw [← hwn_4] at hP
    have E := bns_e E hwn_4
    have ft4_layers : (wn_4 11 0).toInt = (w 11 0).toInt := by rw [hwn_4]; rfl
    have fv_4 : (wn_4 1 3).toInt = (w 15 ((4 * a1).toNatClampNeg) : Int32).toInt := by rw [hwn_4, st_rd]
    have hI_4 : R7I wn_4 := by rw [hwn_4]; exact R7I_put_setting hI
    refine lv_iconst (v := 1) hx hb dX7_comes_164 (by decide) ?_
    have := q_1
    exact W.zret (ty := .boolean) (v := 1) hx hb hr (z_nar (Or.inr rfl)) (fun t ht hW => ⟨⟨_, wn_4, rfl, ⟨E.symm, (Or.inr rfl), hI_4, by omega⟩, by show va_P _ _ _ t.heap; rw [ht]; exact hP⟩, hS.F ht⟩) hS.2.2 dX7_comes_165
  have E := E.trans (if_neg c_2)
  have fc_2 := i_ne c_2
  rw [q_102] at fc_2
  by_cases c_5 : (w 13 (a1.toNatClampNeg)) = 107
  · have E := E.trans (if_pos c_5)
    refine lv_lookup (off := 90) (tgt := 100) hx hb dX7_comes_10 (by decide) (by rw [c_5]; decide) (by decide) ?_
    have fc_5 := i_eq c_5
    rw [q_107] at fc_5
    refine lv_aload_n hx hb dX7_comes_100 rfl (lv_at hl 1 rfl) ?_
    refine g7_setting hx hb hts hin hown hK hP (hts (.fieldLink RX7 13 "LoadedForTheLaneModel" "setting" "[I") (by decide +kernel)) dX7_comes_101 ?_
    refine lv_iconst (v := 1) hx hb dX7_comes_104 (by decide) ?_
    refine lv_aload_n hx hb dX7_comes_105 rfl (lv_at hl 1 rfl) ?_
    refine g7_told hx hb hts hin hown hK hP (hts (.fieldLink RX7 52 "LoadedForTheLaneModel" "told" "[I") (by decide +kernel)) dX7_comes_106 ?_
    refine lv_iload_n hx hb dX7_comes_109 rfl (lv_at hl 0 rfl) ?_
    have := i_mull (a := 4) (b := a1) (n := 4) q_4 (by omega) (by omega)
    have ix_6 : vp_in (4 * a1) 192 := ix_of (by omega) (by omega)
    refine l7_told (j := (4 * a1).toNatClampNeg) hx hb hK hP ix_6 rfl dX7_comes_110 ?_
    have ix_7 : vp_in 1 4 := by unfold vp_in; decide
    refine a7_setting (j := 1) hx hb hK hP hd hS ix_7 (by decide) dX7_comes_111 (fun H locs hP hS => ?_)
    obtain ⟨wn_7, hwn_7⟩ : ∃ x, x = st w 1 1 (w 15 ((4 * a1).toNatClampNeg)) := ⟨_, rfl⟩
    rw [← hwn_7] at hP
    have E := bns_e E hwn_7
    have ft7_layers : (wn_7 11 0).toInt = (w 11 0).toInt := by rw [hwn_7]; rfl
    have fv_7 : (wn_7 1 1).toInt = (w 15 ((4 * a1).toNatClampNeg) : Int32).toInt := by rw [hwn_7, st_rd]
    have hI_7 : R7I wn_7 := by rw [hwn_7]; exact R7I_put_setting hI
    refine lv_aload_n hx hb dX7_comes_112 rfl (lv_at hl 1 rfl) ?_
    refine g7_setting hx hb hts hin hown hK hP (hts (.fieldLink RX7 13 "LoadedForTheLaneModel" "setting" "[I") (by decide +kernel)) dX7_comes_113 ?_
    refine lv_iconst (v := 2) hx hb dX7_comes_116 (by decide) ?_
    refine lv_aload_n hx hb dX7_comes_117 rfl (lv_at hl 1 rfl) ?_
    refine g7_told hx hb hts hin hown hK hP (hts (.fieldLink RX7 52 "LoadedForTheLaneModel" "told" "[I") (by decide +kernel)) dX7_comes_118 ?_
    refine lv_iload_n hx hb dX7_comes_121 rfl (lv_at hl 0 rfl) ?_
    refine lv_iconst (v := 1) hx hb dX7_comes_122 (by decide) ?_
    refine lv_iadd hx hb dX7_comes_123 ?_
    have := i_mull (a := 4) (b := a1) (n := 4) q_4 (by omega) (by omega)
    have := i_addr (a := 4 * a1) (b := 1) (n := 1) q_1 (by omega) (by omega)
    have ix_8 : vp_in ((4 * a1) + 1) 192 := ix_of (by omega) (by omega)
    refine l7_told (j := ((4 * a1) + 1).toNatClampNeg) hx hb hK hP ix_8 rfl dX7_comes_124 ?_
    have ix_9 : vp_in 2 4 := by unfold vp_in; decide
    refine a7_setting (j := 2) hx hb hK hP hd hS ix_9 (by decide) dX7_comes_125 (fun H locs hP hS => ?_)
    obtain ⟨wn_9, hwn_9⟩ : ∃ x, x = st wn_7 1 2 (wn_7 15 (((4 * a1) + 1).toNatClampNeg)) := ⟨_, rfl⟩
    rw [← hwn_9] at hP
    have E := bns_e E hwn_9
    have ft9_layers : (wn_9 11 0).toInt = (wn_7 11 0).toInt := by rw [hwn_9]; rfl
    have fv_9 : (wn_9 1 2).toInt = (wn_7 15 (((4 * a1) + 1).toNatClampNeg) : Int32).toInt := by rw [hwn_9, st_rd]
    have hI_9 : R7I wn_9 := by rw [hwn_9]; exact R7I_put_setting hI_7
    refine lv_aload_n hx hb dX7_comes_126 rfl (lv_at hl 1 rfl) ?_
    refine g7_told hx hb hts hin hown hK hP (hts (.fieldLink RX7 52 "LoadedForTheLaneModel" "told" "[I") (by decide +kernel)) dX7_comes_127 ?_
    refine lv_iload_n hx hb dX7_comes_130 rfl (lv_at hl 0 rfl) ?_
    have := i_mull (a := 4) (b := a1) (n := 4) q_4 (by omega) (by omega)
    have ix_10 : vp_in (4 * a1) 192 := ix_of (by omega) (by omega)
    refine l7_told (j := (4 * a1).toNatClampNeg) hx hb hK hP ix_10 rfl dX7_comes_131 ?_
    refine lv_if_le (tgt := 150) hx hb dX7_comes_132 (by decide) (fun c_11 => ?_) (fun c_11 => ?_)
    · have E := E.trans (if_pos c_11)
      have fc_11 := i_le c_11
      rw [q_0] at fc_11
      refine lv_iconst (v := 0) hx hb dX7_comes_150 (by decide) ?_
      have := q_0
      exact W.zret (ty := .boolean) (v := 0) hx hb hr (z_nar (Or.inl rfl)) (fun t ht hW => ⟨⟨_, wn_9, rfl, ⟨E.symm, (Or.inl rfl), hI_9, by omega⟩, by show va_P _ _ _ t.heap; rw [ht]; exact hP⟩, hS.F ht⟩) hS.2.2 dX7_comes_151
    · have E := E.trans (if_neg c_11)
      have fc_11 := i_nle c_11
      rw [q_0] at fc_11
      refine lv_aload_n hx hb dX7_comes_135 rfl (lv_at hl 1 rfl) ?_
      refine g7_told hx hb hts hin hown hK hP (hts (.fieldLink RX7 52 "LoadedForTheLaneModel" "told" "[I") (by decide +kernel)) dX7_comes_136 ?_
      refine lv_iload_n hx hb dX7_comes_139 rfl (lv_at hl 0 rfl) ?_
      refine lv_iconst (v := 1) hx hb dX7_comes_140 (by decide) ?_
      refine lv_iadd hx hb dX7_comes_141 ?_
      have := i_mull (a := 4) (b := a1) (n := 4) q_4 (by omega) (by omega)
      have := i_addr (a := 4 * a1) (b := 1) (n := 1) q_1 (by omega) (by omega)
      have ix_12 : vp_in ((4 * a1) + 1) 192 := ix_of (by omega) (by omega)
      refine l7_told (j := ((4 * a1) + 1).toNatClampNeg) hx hb hK hP ix_12 rfl dX7_comes_142 ?_
      refine lv_if_le (tgt := 150) hx hb dX7_comes_143 (by decide) (fun c_13 => ?_) (fun c_13 => ?_)
      · have E := E.trans (if_pos c_13)
        have fc_13 := i_le c_13
        rw [q_0] at fc_13
        refine lv_iconst (v := 0) hx hb dX7_comes_150 (by decide) ?_
        have := q_0
        exact W.zret (ty := .boolean) (v := 0) hx hb hr (z_nar (Or.inl rfl)) (fun t ht hW => ⟨⟨_, wn_9, rfl, ⟨E.symm, (Or.inl rfl), hI_9, by omega⟩, by show va_P _ _ _ t.heap; rw [ht]; exact hP⟩, hS.F ht⟩) hS.2.2 dX7_comes_151
      · have E := E.trans (if_neg c_13)
        have fc_13 := i_nle c_13
        rw [q_0] at fc_13
        refine lv_iconst (v := 1) hx hb dX7_comes_146 (by decide) ?_
        refine lv_goto (tgt := 151) hx hb dX7_comes_147 (by decide) ?_
        have := q_1
        exact W.zret (ty := .boolean) (v := 1) hx hb hr (z_nar (Or.inr rfl)) (fun t ht hW => ⟨⟨_, wn_9, rfl, ⟨E.symm, (Or.inr rfl), hI_9, by omega⟩, by show va_P _ _ _ t.heap; rw [ht]; exact hP⟩, hS.F ht⟩) hS.2.2 dX7_comes_151
  have E := E.trans (if_neg c_5)
  have fc_5 := i_ne c_5
  rw [q_107] at fc_5
  by_cases c_14 : (w 13 (a1.toNatClampNeg)) = 114
  · have E := E.trans (if_pos c_14)
    refine lv_lookup (off := 62) (tgt := 72) hx hb dX7_comes_10 (by decide) (by rw [c_14]; decide) (by decide) ?_
    have fc_14 := i_eq c_14
    rw [q_114] at fc_14
    refine lv_aload_n hx hb dX7_comes_72 rfl (lv_at hl 1 rfl) ?_
    refine g7_setting hx hb hts hin hown hK hP (hts (.fieldLink RX7 13 "LoadedForTheLaneModel" "setting" "[I") (by decide +kernel)) dX7_comes_73 ?_
    refine lv_iconst (v := 0) hx hb dX7_comes_76 (by decide) ?_
    refine lv_aload_n hx hb dX7_comes_77 rfl (lv_at hl 1 rfl) ?_
    refine g7_told hx hb hts hin hown hK hP (hts (.fieldLink RX7 52 "LoadedForTheLaneModel" "told" "[I") (by decide +kernel)) dX7_comes_78 ?_
    refine lv_iload_n hx hb dX7_comes_81 rfl (lv_at hl 0 rfl) ?_
    have := i_mull (a := 4) (b := a1) (n := 4) q_4 (by omega) (by omega)
    have ix_15 : vp_in (4 * a1) 192 := ix_of (by omega) (by omega)
    refine l7_told (j := (4 * a1).toNatClampNeg) hx hb hK hP ix_15 rfl dX7_comes_82 ?_
    have ix_16 : vp_in 0 4 := by unfold vp_in; decide
    refine a7_setting (j := 0) hx hb hK hP hd hS ix_16 (by decide) dX7_comes_83 (fun H locs hP hS => ?_)
    obtain ⟨wn_16, hwn_16⟩ : ∃ x, x = st w 1 0 (w 15 ((4 * a1).toNatClampNeg)) := ⟨_, rfl⟩
    rw [← hwn_16] at hP
    have E := bns_e E hwn_16
    have ft16_layers : (wn_16 11 0).toInt = (w 11 0).toInt := by rw [hwn_16]; rfl
    have fv_16 : (wn_16 1 0).toInt = (w 15 ((4 * a1).toNatClampNeg) : Int32).toInt := by rw [hwn_16, st_rd]
    have hI_16 : R7I wn_16 := by rw [hwn_16]; exact R7I_put_setting hI
    refine lv_aload_n hx hb dX7_comes_84 rfl (lv_at hl 1 rfl) ?_
    refine g7_told hx hb hts hin hown hK hP (hts (.fieldLink RX7 52 "LoadedForTheLaneModel" "told" "[I") (by decide +kernel)) dX7_comes_85 ?_
    refine lv_iload_n hx hb dX7_comes_88 rfl (lv_at hl 0 rfl) ?_
    have := i_mull (a := 4) (b := a1) (n := 4) q_4 (by omega) (by omega)
    have ix_17 : vp_in (4 * a1) 192 := ix_of (by omega) (by omega)
    refine l7_told (j := (4 * a1).toNatClampNeg) hx hb hK hP ix_17 rfl dX7_comes_89 ?_
    refine lv_iconst (v := 5) hx hb dX7_comes_90 (by decide) ?_
    refine lv_icmp_gt (tgt := 98) hx hb dX7_comes_91 (by decide) (fun c_18 => ?_) (fun c_18 => ?_)
    · have E := E.trans (if_pos c_18)
      have fc_18 := i_lt c_18
      rw [q_5] at fc_18
      refine lv_iconst (v := 0) hx hb dX7_comes_98 (by decide) ?_
      have := q_0
      exact W.zret (ty := .boolean) (v := 0) hx hb hr (z_nar (Or.inl rfl)) (fun t ht hW => ⟨⟨_, wn_16, rfl, ⟨E.symm, (Or.inl rfl), hI_16, by omega⟩, by show va_P _ _ _ t.heap; rw [ht]; exact hP⟩, hS.F ht⟩) hS.2.2 dX7_comes_99
    · have E := E.trans (if_neg c_18)
      have fc_18 := i_nlt c_18
      rw [q_5] at fc_18
      refine lv_iconst (v := 1) hx hb dX7_comes_94 (by decide) ?_
      refine lv_goto (tgt := 99) hx hb dX7_comes_95 (by decide) ?_
      have := q_1
      exact W.zret (ty := .boolean) (v := 1) hx hb hr (z_nar (Or.inr rfl)) (fun t ht hW => ⟨⟨_, wn_16, rfl, ⟨E.symm, (Or.inr rfl), hI_16, by omega⟩, by show va_P _ _ _ t.heap; rw [ht]; exact hP⟩, hS.F ht⟩) hS.2.2 dX7_comes_99
  have E := E.trans (if_neg c_14)
  have fc_14 := i_ne c_14
  rw [q_114] at fc_14
  by_cases c_19 : (w 13 (a1.toNatClampNeg)) = 119
  · have E := E.trans (if_pos c_19)
    refine lv_lookup (off := 56) (tgt := 66) hx hb dX7_comes_10 (by decide) (by rw [c_19]; decide) (by decide) ?_
    have fc_19 := i_eq c_19
    rw [q_119] at fc_19
    refine lv_aload_n hx hb dX7_comes_66 rfl (lv_at hl 1 rfl) ?_
    refine lv_iload_n hx hb dX7_comes_67 rfl (lv_at hl 0 rfl) ?_
    have := i_mull (a := 4) (b := a1) (n := 4) q_4 (by omega) (by omega)
    refine va_calli (va_runV (As := [.int (4 * a1)]) (rest := []) ⟨hx, hb, hml, hown, hts⟩ (kX7_comesPiece l D cI ad w (4 * a1) hd hI (by omega) (by omega)) (cwV 1 hts gX7_comes_X7_comesPiece rfl rfl rfl mdX7_comesPiece ⟨Nat.le_of_ble_eq_true rfl, Nat.le_of_ble_eq_true rfl⟩) (r7_pre hK hP) rfl rfl hl.1 rfl (lv_room (Nat.le_of_ble_eq_true rfl)) dX7_comes_68 ⟨Nat.zero_le _, Nat.zero_le _⟩) hS (fun _ _ h => h) (fun _ h => h) (fun rn_20 wn_20 t H locs ht hvm hp_20 hB hz hfr hS => ?_)
    have hP : va_P D vwCl (RM cI ad wn_20) H := ht ▸ hB
    obtain ⟨hp_20, hz_20, hI_20, hq0_20⟩ := hp_20
    have E := bnd_e E hp_20
    have hzi_20 := z_int hz_20
    exact W.zret (ty := .boolean) (v := rn_20) hx hb hr (z_nar hz_20) (fun t ht hW => ⟨⟨_, wn_20, rfl, ⟨E.symm, hz_20, hI_20, by omega⟩, by show va_P _ _ _ t.heap; rw [ht]; exact hP⟩, hS.F ht⟩) hS.2.2 dX7_comes_71
  have E := E.trans (if_neg c_19)
  have fc_19 := i_ne c_19
  rw [q_119] at fc_19
  by_cases c_21 : (w 13 (a1.toNatClampNeg)) = 121
  · have E := E.trans (if_pos c_21)
    refine lv_lookup (off := 50) (tgt := 60) hx hb dX7_comes_10 (by decide) (by rw [c_21]; decide) (by decide) ?_
    have fc_21 := i_eq c_21
    rw [q_121] at fc_21
    refine lv_aload_n hx hb dX7_comes_60 rfl (lv_at hl 1 rfl) ?_
    refine lv_iload_n hx hb dX7_comes_61 rfl (lv_at hl 0 rfl) ?_
    have := i_mull (a := 4) (b := a1) (n := 4) q_4 (by omega) (by omega)
    refine va_calli (va_runV (As := [.int (4 * a1)]) (rest := []) ⟨hx, hb, hml, hown, hts⟩ (kX7_comesLayer l D cI ad w (4 * a1) hd hI (by omega) (by omega) (by omega)) (cwV 1 hts gX7_comes_X7_comesLayer rfl rfl rfl mdX7_comesLayer ⟨Nat.le_of_ble_eq_true rfl, Nat.le_of_ble_eq_true rfl⟩) (r7_pre hK hP) rfl rfl hl.1 rfl (lv_room (Nat.le_of_ble_eq_true rfl)) dX7_comes_62 ⟨Nat.zero_le _, Nat.zero_le _⟩) hS (fun _ _ h => h) (fun _ h => h) (fun rn_22 wn_22 t H locs ht hvm hp_22 hB hz hfr hS => ?_)
    have hP : va_P D vwCl (RM cI ad wn_22) H := ht ▸ hB
    obtain ⟨hp_22, hz_22, hI_22, hq0_22⟩ := hp_22
    have E := bnd_e E hp_22
    have hzi_22 := z_int hz_22
    exact W.zret (ty := .boolean) (v := rn_22) hx hb hr (z_nar hz_22) (fun t ht hW => ⟨⟨_, wn_22, rfl, ⟨E.symm, hz_22, hI_22, by omega⟩, by show va_P _ _ _ t.heap; rw [ht]; exact hP⟩, hS.F ht⟩) hS.2.2 dX7_comes_65
  have E := E.trans (if_neg c_21)
  have fc_21 := i_ne c_21
  rw [q_121] at fc_21
  refine lv_lookup (off := 156) (tgt := 166) hx hb dX7_comes_10 (by decide) ((lv_osw c_2 rfl).trans ((lv_osw c_5 rfl).trans ((lv_osw c_14 rfl).trans ((lv_osw c_19 rfl).trans ((lv_osw c_21 rfl).trans rfl))))) (by decide) ?_
  refine lv_aload_n hx hb dX7_comes_166 rfl (lv_at hl 1 rfl) ?_
  refine g7_layers hx hb hts hin hown hK hP (hts (.fieldLink RX7 67 "LoadedForTheLaneModel" "layers" "I") (by decide +kernel)) dX7_comes_167 ?_
  have f_23 := R7I_layers hI
  refine lv_if_ne (tgt := 175) hx hb dX7_comes_170 (by decide) (fun c_24 => ?_) (fun c_24 => ?_)
  · have E := E.trans (if_neg c_24)
    have fc_24 := i_ne c_24
    rw [q_0] at fc_24
    refine lv_aload_n hx hb dX7_comes_175 rfl (lv_at hl 1 rfl) ?_
    refine lv_dup hx hb dX7_comes_176 rfl ?_
    refine g7_layers hx hb hts hin hown hK hP (hts (.fieldLink RX7 67 "LoadedForTheLaneModel" "layers" "I") (by decide +kernel)) dX7_comes_177 ?_
    have f_25 := R7I_layers hI
    refine lv_iconst (v := 1) hx hb dX7_comes_180 (by decide) ?_
    refine lv_isub hx hb dX7_comes_181 ?_
    refine p7_layers hx hb hts hin hown hK hP hd hS (hts (.fieldLink RX7 67 "LoadedForTheLaneModel" "layers" "I") (by decide +kernel)) dX7_comes_182 (fun H locs hP hS => ?_)
    obtain ⟨wn_26, hwn_26⟩ : ∃ x, x = st w 11 0 ((w 11 0) - 1) := ⟨_, rfl⟩
    rw [← hwn_26] at hP
    have E := bns_e E hwn_26
    have ft26_layers : (wn_26 11 0).toInt = ((w 11 0) - 1 : Int32).toInt := by rw [hwn_26]; rfl
    have := i_subr (a := w 11 0) (b := 1) (n := 1) q_1 (by omega) (by omega)
    have := i_subr (a := w 11 0) (b := 1) (n := 1) q_1 (by omega) (by omega)
    have hI_26 : R7I wn_26 := by rw [hwn_26]; exact R7I_put_layers hI (by omega) (by omega)
    refine lv_iconst (v := 1) hx hb dX7_comes_185 (by decide) ?_
    have := q_1
    exact W.zret (ty := .boolean) (v := 1) hx hb hr (z_nar (Or.inr rfl)) (fun t ht hW => ⟨⟨_, wn_26, rfl, ⟨E.symm, (Or.inr rfl), hI_26, by omega⟩, by show va_P _ _ _ t.heap; rw [ht]; exact hP⟩, hS.F ht⟩) hS.2.2 dX7_comes_186
  · have E := E.trans (if_pos c_24)
    have fc_24 := i_eq c_24
    rw [q_0] at fc_24
    refine lv_iconst (v := 0) hx hb dX7_comes_173 (by decide) ?_
    have := q_0
    exact W.zret (ty := .boolean) (v := 0) hx hb hr (z_nar (Or.inl rfl)) (fun t ht hW => ⟨⟨_, w, rfl, ⟨E.symm, (Or.inl rfl), hI, by omega⟩, by show va_P _ _ _ t.heap; rw [ht]; exact hP⟩, hS.F ht⟩) hS.2.2 dX7_comes_174
abbrev rmX7_passes : Room := { frames := 0, cells := 0, slots := 0, locals := 0 }
set_option maxHeartbeats 4000000 in
set_option maxRecDepth 100000 in
theorem kX7_passes_setting (l : Launch) (D : va_G) (cI : ClassId) (ad : Nat → Nat) (w : Nat → Nat → Int32) (hd : RD ad) (h1 : 0 ≤ (w 22 0).toInt) (h2 : (w 22 0).toInt ≤ 246) : Met l yX7_passes wsX7_passes rmX7_passes (va_Pc [Value.ref (ad 0), Value.ref (ad 2)] (fun U => va_P D vwCl (RM cI ad w) U.heap ∧ va_K D vwCl [(cI, .int)] U)) (va_Qv (fun u => u = sX7_passes_setting w ∧ ((u 22 0).toInt = (w 22 0).toInt + 4)) (fun u t => va_P D vwCl (RM cI ad u) t.heap) (RA ad)) 0 0 (RA ad) := by
  refine Met.ofW (cc := cX7_passes) (maxL := 3) (ret := none) (by decide) rfl ?_
  intro p e s m args below meth c s₁ B hml hv
  obtain ⟨rfl, hP, hK⟩ := hv
  have hx := B.exec
  have hb := B.bytes
  have hr := B.returns
  have hts := atoms_spec (ws := wsX7_passes) B.pre
  have hown : s.vm.findClass RX7 = some m.cls := findClass_of_methodNamed B.named
  have hlocks := B.notSynchronized
  have hin : ∀ q ∈ wsX70, q ∈ wsX7_passes := by decide +kernel
  have hl := lv_entry ([.ref (ad 0), .ref (ad 2)]) (n := 3) (Nat.le_of_ble_eq_true rfl)
  rw [lg_entry_eq]
  generalize (lg_sl ([.ref (ad 0), .ref (ad 2)]) ++ List.replicate (3 - (lg_sl ([.ref (ad 0), .ref (ad 2)])).length) Slot.unset).toArray = ls at hl ⊢
  have hl : lv_has ls 3 [(0, .ref (ad 0)), (1, .ref (ad 2))] := hl
  suffices hgo : ∀ (H : Heap) (locs : List Loc), va_P D vwCl (RM cI ad w) H → va_S (RA ad) s.heap H locs → W p l e (headSpec wsX7_passes rmX7_passes).room s m [Value.ref (ad 0), Value.ref (ad 2)].toArray below meth c H locs 0 0 (MQ below (va_Qv (fun u => u = sX7_passes_setting w ∧ ((u 22 0).toInt = (w 22 0).toInt + 4)) (fun u t => va_P D vwCl (RM cI ad u) t.heap) (RA ad)) [Value.ref (ad 0), Value.ref (ad 2)].toArray s 0 0 (RA ad)) (F0 m 0 ls []) from hgo s.heap [] hP va_S.rf
  intro H locs hP hS
  have E := sX7_passes_setting.eq_1 w
  refine lv_iconst (v := 0) hx hb dX7_passes_0 (by decide) ?_
  refine lv_istore_n (lv' := [(2, .int 0), (0, .ref (ad 0)), (1, .ref (ad 2))]) hx hb dX7_passes_1 rfl hl (by decide) rfl (fun ls hl => ?_)
  have L_2 : ∀ (n_2 : Nat) (x2_2 : Int32) (w_2 : Nat → Nat → Int32) (H : Heap) (locs : List Loc) (ls : Array Slot), ((0 ≤ x2_2.toInt) ∧ (x2_2.toInt ≤ 4) ∧ ((w_2 22 0).toInt = (w 22 0).toInt + x2_2.toInt)) → (4 - x2_2.toInt < (n_2 : Int)) → va_P D vwCl (RM cI ad w_2) H → va_S (RA ad) s.heap H locs → lv_has ls 3 [(2, .int x2_2), (0, .ref (ad 0)), (1, .ref (ad 2))] → sX7_passes_setting w = sX7_passes_setting_2 n_2 x2_2 w_2 → W p l e (headSpec wsX7_passes rmX7_passes).room s m [Value.ref (ad 0), Value.ref (ad 2)].toArray below meth c H locs 0 0 (MQ below (va_Qv (fun u => u = sX7_passes_setting w ∧ ((u 22 0).toInt = (w 22 0).toInt + 4)) (fun u t => va_P D vwCl (RM cI ad u) t.heap) (RA ad)) [Value.ref (ad 0), Value.ref (ad 2)].toArray s 0 0 (RA ad)) (F0 m 2 ls []) := by
    intro n_2
    induction n_2 with
    | zero =>
      intro x2_2 w_2 H locs ls hinv hm
      obtain ⟨v0_2, v1_2, v2_2⟩ := hinv
      exact absurd hm (by omega)
    | succ n_2 ih_2 =>
      intro x2_2 w_2 H locs ls hinv hm_2 hP hS hl E
      obtain ⟨v0_2, v1_2, v2_2⟩ := hinv
      have E := E.trans (sX7_passes_setting_2.eq_2 ..)
      refine lv_iload_n hx hb dX7_passes_2 rfl (lv_at hl 0 rfl) ?_
      refine lv_aload_n hx hb dX7_passes_3 rfl (lv_at hl 2 rfl) ?_
      refine n7_setting (v := 4) hx hb hK hP (by decide) dX7_passes_4 ?_
      refine lv_icmp_ge (tgt := 58) hx hb dX7_passes_5 (by decide) (fun c_1 => ?_) (fun c_1 => ?_)
      · have E := E.trans (if_pos c_1)
        have fc_1 := i_le c_1
        rw [q_4] at fc_1
        exact W.vret hx hb hr (fun t ht hW => ⟨⟨w_2, rfl, ⟨E.symm, by omega⟩, by show va_P _ _ _ t.heap; rw [ht]; exact hP⟩, hS.F ht⟩) hS.2.2 dX7_passes_58
      · have E := E.trans (if_neg c_1)
        have fc_1 := i_nle c_1
        rw [q_4] at fc_1
        refine lv_aload_n hx hb dX7_passes_8 rfl (lv_at hl 1 rfl) ?_
        refine g7_isKeeping hx hb hts hin hown hK hP (hts (.fieldLink RX7 136 "LoadedForTheLaneModel" "isKeeping" "Z") (by decide +kernel)) dX7_passes_9 ?_
        refine lv_if_eq (tgt := 30) hx hb dX7_passes_12 (by decide) (fun c_2 => ?_) (fun c_2 => ?_)
        · have E := E.trans (if_pos c_2)
          have fc_2 := i_eq c_2
          rw [q_0] at fc_2
          refine lv_aload_n hx hb dX7_passes_30 rfl (lv_at hl 2 rfl) ?_
          refine lv_iload_n hx hb dX7_passes_31 rfl (lv_at hl 0 rfl) ?_
          refine lv_aload_n hx hb dX7_passes_32 rfl (lv_at hl 1 rfl) ?_
          refine g7_kept hx hb hts hin hown hK hP (hts (.fieldLink RX7 55 "LoadedForTheLaneModel" "kept" "[I") (by decide +kernel)) dX7_passes_33 ?_
          refine lv_aload_n hx hb dX7_passes_36 rfl (lv_at hl 1 rfl) ?_
          refine g7_cursor hx hb hts hin hown hK hP (hts (.fieldLink RX7 140 "LoadedForTheLaneModel" "cursor" "I") (by decide +kernel)) dX7_passes_37 ?_
          have ix_3 : vp_in (w_2 22 0) 250 := ix_of (by omega) (by omega)
          refine l7_kept (j := (w_2 22 0).toNatClampNeg) hx hb hK hP ix_3 rfl dX7_passes_40 ?_
          have ix_4 : vp_in x2_2 4 := ix_of (by omega) (by omega)
          refine a7_setting (j := x2_2.toNatClampNeg) hx hb hK hP hd hS ix_4 rfl dX7_passes_41 (fun H locs hP hS => ?_)
          obtain ⟨wn_4, hwn_4⟩ : ∃ x, x = st w_2 1 (x2_2.toNatClampNeg) (w_2 19 ((w_2 22 0).toNatClampNeg)) := ⟨_, rfl⟩
          rw [← hwn_4] at hP
          have E := bns_e E hwn_4
          have ft4_cursor : (wn_4 22 0).toInt = (w_2 22 0).toInt := by rw [hwn_4]; rfl
          have fv_4 : (wn_4 1 (x2_2.toNatClampNeg)).toInt = (w_2 19 ((w_2 22 0).toNatClampNeg) : Int32).toInt := by rw [hwn_4, st_rd]
          refine lv_aload_n hx hb dX7_passes_42 rfl (lv_at hl 1 rfl) ?_
          refine lv_dup hx hb dX7_passes_43 rfl ?_
          refine g7_cursor hx hb hts hin hown hK hP (hts (.fieldLink RX7 140 "LoadedForTheLaneModel" "cursor" "I") (by decide +kernel)) dX7_passes_44 ?_
          refine lv_iconst (v := 1) hx hb dX7_passes_47 (by decide) ?_
          refine lv_iadd hx hb dX7_passes_48 ?_
          refine p7_cursor hx hb hts hin hown hK hP hd hS (hts (.fieldLink RX7 140 "LoadedForTheLaneModel" "cursor" "I") (by decide +kernel)) dX7_passes_49 (fun H locs hP hS => ?_)
          obtain ⟨wn_5, hwn_5⟩ : ∃ x, x = st wn_4 22 0 ((wn_4 22 0) + 1) := ⟨_, rfl⟩
          rw [← hwn_5] at hP
          have E := bns_e E hwn_5
          have ft5_cursor : (wn_5 22 0).toInt = ((wn_4 22 0) + 1 : Int32).toInt := by rw [hwn_5]; rfl
          have := i_addr (a := wn_4 22 0) (b := 1) (n := 1) q_1 (by omega) (by omega)
          refine lv_iinc (v := x2_2 + 1) (lv' := [(2, .int (x2_2 + 1)), (0, .ref (ad 0)), (1, .ref (ad 2))]) hx hb dX7_passes_52 hl (k := 0) rfl rfl (by decide) rfl (fun ls hl => ?_)
          refine lv_goto (tgt := 2) hx hb dX7_passes_55 (by decide) ?_
          try have := i_addr (a := x2_2) (b := 1) (n := 1) q_1 (by omega) (by omega)
          exact ih_2 (x2_2 + 1) wn_5 H locs ls ⟨by omega, by omega, by omega⟩ (by omega) hP hS (lv_sub hl [0, 1, 2] rfl) E
        · have E := E.trans (if_neg c_2)
          have fc_2 := i_ne c_2
          rw [q_0] at fc_2
          refine lv_aload_n hx hb dX7_passes_15 rfl (lv_at hl 1 rfl) ?_
          refine g7_kept hx hb hts hin hown hK hP (hts (.fieldLink RX7 55 "LoadedForTheLaneModel" "kept" "[I") (by decide +kernel)) dX7_passes_16 ?_
          refine lv_aload_n hx hb dX7_passes_19 rfl (lv_at hl 1 rfl) ?_
          refine g7_cursor hx hb hts hin hown hK hP (hts (.fieldLink RX7 140 "LoadedForTheLaneModel" "cursor" "I") (by decide +kernel)) dX7_passes_20 ?_
          refine lv_aload_n hx hb dX7_passes_23 rfl (lv_at hl 2 rfl) ?_
          refine lv_iload_n hx hb dX7_passes_24 rfl (lv_at hl 0 rfl) ?_
          have ix_6 : vp_in x2_2 4 := ix_of (by omega) (by omega)
          refine l7_setting (j := x2_2.toNatClampNeg) hx hb hK hP ix_6 rfl dX7_passes_25 ?_
          have ix_7 : vp_in (w_2 22 0) 250 := ix_of (by omega) (by omega)
          refine a7_kept (j := (w_2 22 0).toNatClampNeg) hx hb hK hP hd hS ix_7 rfl dX7_passes_26 (fun H locs hP hS => ?_)
          obtain ⟨wn_7, hwn_7⟩ : ∃ x, x = st w_2 19 ((w_2 22 0).toNatClampNeg) (w_2 1 (x2_2.toNatClampNeg)) := ⟨_, rfl⟩
          rw [← hwn_7] at hP
          have E := bns_e E hwn_7
          have ft7_cursor : (wn_7 22 0).toInt = (w_2 22 0).toInt := by rw [hwn_7]; rfl
          have fv_7 : (wn_7 19 ((w_2 22 0).toNatClampNeg)).toInt = (w_2 1 (x2_2.toNatClampNeg) : Int32).toInt := by rw [hwn_7, st_rd]
          refine lv_goto (tgt := 42) hx hb dX7_passes_27 (by decide) ?_
          refine lv_aload_n hx hb dX7_passes_42 rfl (lv_at hl 1 rfl) ?_
          refine lv_dup hx hb dX7_passes_43 rfl ?_
          refine g7_cursor hx hb hts hin hown hK hP (hts (.fieldLink RX7 140 "LoadedForTheLaneModel" "cursor" "I") (by decide +kernel)) dX7_passes_44 ?_
          refine lv_iconst (v := 1) hx hb dX7_passes_47 (by decide) ?_
          refine lv_iadd hx hb dX7_passes_48 ?_
          refine p7_cursor hx hb hts hin hown hK hP hd hS (hts (.fieldLink RX7 140 "LoadedForTheLaneModel" "cursor" "I") (by decide +kernel)) dX7_passes_49 (fun H locs hP hS => ?_)
          obtain ⟨wn_8, hwn_8⟩ : ∃ x, x = st wn_7 22 0 ((wn_7 22 0) + 1) := ⟨_, rfl⟩
          rw [← hwn_8] at hP
          have E := bns_e E hwn_8
          have ft8_cursor : (wn_8 22 0).toInt = ((wn_7 22 0) + 1 : Int32).toInt := by rw [hwn_8]; rfl
          have := i_addr (a := wn_7 22 0) (b := 1) (n := 1) q_1 (by omega) (by omega)
          refine lv_iinc (v := x2_2 + 1) (lv' := [(2, .int (x2_2 + 1)), (0, .ref (ad 0)), (1, .ref (ad 2))]) hx hb dX7_passes_52 hl (k := 0) rfl rfl (by decide) rfl (fun ls hl => ?_)
          refine lv_goto (tgt := 2) hx hb dX7_passes_55 (by decide) ?_
          try have := i_addr (a := x2_2) (b := 1) (n := 1) q_1 (by omega) (by omega)
          exact ih_2 (x2_2 + 1) wn_8 H locs ls ⟨by omega, by omega, by omega⟩ (by omega) hP hS (lv_sub hl [0, 1, 2] rfl) E
  have := q_0
  exact L_2 5 0 w H locs ls ⟨by omega, by omega, by omega⟩ (by omega) hP hS (lv_sub hl [0, 1, 2] rfl) E

set_option maxHeartbeats 4000000 in
set_option maxRecDepth 100000 in
theorem kX7_passes_kind (l : Launch) (D : va_G) (cI : ClassId) (ad : Nat → Nat) (w : Nat → Nat → Int32) (hd : RD ad) (h1 : 0 ≤ (w 22 0).toInt) (h2 : (w 22 0).toInt ≤ 238) : Met l yX7_passes wsX7_passes rmX7_passes (va_Pc [Value.ref (ad 0), Value.ref (ad 3)] (fun U => va_P D vwCl (RM cI ad w) U.heap ∧ va_K D vwCl [(cI, .int)] U)) (va_Qv (fun u => u = sX7_passes_kind w ∧ ((u 22 0).toInt = (w 22 0).toInt + 12)) (fun u t => va_P D vwCl (RM cI ad u) t.heap) (RA ad)) 0 0 (RA ad) := by
  refine Met.ofW (cc := cX7_passes) (maxL := 3) (ret := none) (by decide) rfl ?_
  intro p e s m args below meth c s₁ B hml hv
  obtain ⟨rfl, hP, hK⟩ := hv
  have hx := B.exec
  have hb := B.bytes
  have hr := B.returns
  have hts := atoms_spec (ws := wsX7_passes) B.pre
  have hown : s.vm.findClass RX7 = some m.cls := findClass_of_methodNamed B.named
  have hlocks := B.notSynchronized
  have hin : ∀ q ∈ wsX70, q ∈ wsX7_passes := by decide +kernel
  have hl := lv_entry ([.ref (ad 0), .ref (ad 3)]) (n := 3) (Nat.le_of_ble_eq_true rfl)
  rw [lg_entry_eq]
  generalize (lg_sl ([.ref (ad 0), .ref (ad 3)]) ++ List.replicate (3 - (lg_sl ([.ref (ad 0), .ref (ad 3)])).length) Slot.unset).toArray = ls at hl ⊢
  have hl : lv_has ls 3 [(0, .ref (ad 0)), (1, .ref (ad 3))] := hl
  suffices hgo : ∀ (H : Heap) (locs : List Loc), va_P D vwCl (RM cI ad w) H → va_S (RA ad) s.heap H locs → W p l e (headSpec wsX7_passes rmX7_passes).room s m [Value.ref (ad 0), Value.ref (ad 3)].toArray below meth c H locs 0 0 (MQ below (va_Qv (fun u => u = sX7_passes_kind w ∧ ((u 22 0).toInt = (w 22 0).toInt + 12)) (fun u t => va_P D vwCl (RM cI ad u) t.heap) (RA ad)) [Value.ref (ad 0), Value.ref (ad 3)].toArray s 0 0 (RA ad)) (F0 m 0 ls []) from hgo s.heap [] hP va_S.rf
  intro H locs hP hS
  have E := sX7_passes_kind.eq_1 w
  refine lv_iconst (v := 0) hx hb dX7_passes_0 (by decide) ?_
  refine lv_istore_n (lv' := [(2, .int 0), (0, .ref (ad 0)), (1, .ref (ad 3))]) hx hb dX7_passes_1 rfl hl (by decide) rfl (fun ls hl => ?_)
  have L_2 : ∀ (n_2 : Nat) (x2_2 : Int32) (w_2 : Nat → Nat → Int32) (H : Heap) (locs : List Loc) (ls : Array Slot), ((0 ≤ x2_2.toInt) ∧ (x2_2.toInt ≤ 12) ∧ ((w_2 22 0).toInt = (w 22 0).toInt + x2_2.toInt)) → (12 - x2_2.toInt < (n_2 : Int)) → va_P D vwCl (RM cI ad w_2) H → va_S (RA ad) s.heap H locs → lv_has ls 3 [(2, .int x2_2), (0, .ref (ad 0)), (1, .ref (ad 3))] → sX7_passes_kind w = sX7_passes_kind_2 n_2 x2_2 w_2 → W p l e (headSpec wsX7_passes rmX7_passes).room s m [Value.ref (ad 0), Value.ref (ad 3)].toArray below meth c H locs 0 0 (MQ below (va_Qv (fun u => u = sX7_passes_kind w ∧ ((u 22 0).toInt = (w 22 0).toInt + 12)) (fun u t => va_P D vwCl (RM cI ad u) t.heap) (RA ad)) [Value.ref (ad 0), Value.ref (ad 3)].toArray s 0 0 (RA ad)) (F0 m 2 ls []) := by
    intro n_2
    induction n_2 with
    | zero =>
      intro x2_2 w_2 H locs ls hinv hm
      obtain ⟨v0_2, v1_2, v2_2⟩ := hinv
      exact absurd hm (by omega)
    | succ n_2 ih_2 =>
      intro x2_2 w_2 H locs ls hinv hm_2 hP hS hl E
      obtain ⟨v0_2, v1_2, v2_2⟩ := hinv
      have E := E.trans (sX7_passes_kind_2.eq_2 ..)
      refine lv_iload_n hx hb dX7_passes_2 rfl (lv_at hl 0 rfl) ?_
      refine lv_aload_n hx hb dX7_passes_3 rfl (lv_at hl 2 rfl) ?_
      refine n7_kind (v := 12) hx hb hK hP (by decide) dX7_passes_4 ?_
      refine lv_icmp_ge (tgt := 58) hx hb dX7_passes_5 (by decide) (fun c_1 => ?_) (fun c_1 => ?_)
      · have E := E.trans (if_pos c_1)
        have fc_1 := i_le c_1
        rw [q_12] at fc_1
        exact W.vret hx hb hr (fun t ht hW => ⟨⟨w_2, rfl, ⟨E.symm, by omega⟩, by show va_P _ _ _ t.heap; rw [ht]; exact hP⟩, hS.F ht⟩) hS.2.2 dX7_passes_58
      · have E := E.trans (if_neg c_1)
        have fc_1 := i_nle c_1
        rw [q_12] at fc_1
        refine lv_aload_n hx hb dX7_passes_8 rfl (lv_at hl 1 rfl) ?_
        refine g7_isKeeping hx hb hts hin hown hK hP (hts (.fieldLink RX7 136 "LoadedForTheLaneModel" "isKeeping" "Z") (by decide +kernel)) dX7_passes_9 ?_
        refine lv_if_eq (tgt := 30) hx hb dX7_passes_12 (by decide) (fun c_2 => ?_) (fun c_2 => ?_)
        · have E := E.trans (if_pos c_2)
          have fc_2 := i_eq c_2
          rw [q_0] at fc_2
          refine lv_aload_n hx hb dX7_passes_30 rfl (lv_at hl 2 rfl) ?_
          refine lv_iload_n hx hb dX7_passes_31 rfl (lv_at hl 0 rfl) ?_
          refine lv_aload_n hx hb dX7_passes_32 rfl (lv_at hl 1 rfl) ?_
          refine g7_kept hx hb hts hin hown hK hP (hts (.fieldLink RX7 55 "LoadedForTheLaneModel" "kept" "[I") (by decide +kernel)) dX7_passes_33 ?_
          refine lv_aload_n hx hb dX7_passes_36 rfl (lv_at hl 1 rfl) ?_
          refine g7_cursor hx hb hts hin hown hK hP (hts (.fieldLink RX7 140 "LoadedForTheLaneModel" "cursor" "I") (by decide +kernel)) dX7_passes_37 ?_
          have ix_3 : vp_in (w_2 22 0) 250 := ix_of (by omega) (by omega)
          refine l7_kept (j := (w_2 22 0).toNatClampNeg) hx hb hK hP ix_3 rfl dX7_passes_40 ?_
          have ix_4 : vp_in x2_2 12 := ix_of (by omega) (by omega)
          refine a7_kind (j := x2_2.toNatClampNeg) hx hb hK hP hd hS ix_4 rfl dX7_passes_41 (fun H locs hP hS => ?_)
          obtain ⟨wn_4, hwn_4⟩ : ∃ x, x = st w_2 2 (x2_2.toNatClampNeg) (w_2 19 ((w_2 22 0).toNatClampNeg)) := ⟨_, rfl⟩
          rw [← hwn_4] at hP
          have E := bns_e E hwn_4
          have ft4_cursor : (wn_4 22 0).toInt = (w_2 22 0).toInt := by rw [hwn_4]; rfl
          have fv_4 : (wn_4 2 (x2_2.toNatClampNeg)).toInt = (w_2 19 ((w_2 22 0).toNatClampNeg) : Int32).toInt := by rw [hwn_4, st_rd]
          refine lv_aload_n hx hb dX7_passes_42 rfl (lv_at hl 1 rfl) ?_
          refine lv_dup hx hb dX7_passes_43 rfl ?_
          refine g7_cursor hx hb hts hin hown hK hP (hts (.fieldLink RX7 140 "LoadedForTheLaneModel" "cursor" "I") (by decide +kernel)) dX7_passes_44 ?_
          refine lv_iconst (v := 1) hx hb dX7_passes_47 (by decide) ?_
          refine lv_iadd hx hb dX7_passes_48 ?_
          refine p7_cursor hx hb hts hin hown hK hP hd hS (hts (.fieldLink RX7 140 "LoadedForTheLaneModel" "cursor" "I") (by decide +kernel)) dX7_passes_49 (fun H locs hP hS => ?_)
          obtain ⟨wn_5, hwn_5⟩ : ∃ x, x = st wn_4 22 0 ((wn_4 22 0) + 1) := ⟨_, rfl⟩
          rw [← hwn_5] at hP
          have E := bns_e E hwn_5
          have ft5_cursor : (wn_5 22 0).toInt = ((wn_4 22 0) + 1 : Int32).toInt := by rw [hwn_5]; rfl
          have := i_addr (a := wn_4 22 0) (b := 1) (n := 1) q_1 (by omega) (by omega)
          refine lv_iinc (v := x2_2 + 1) (lv' := [(2, .int (x2_2 + 1)), (0, .ref (ad 0)), (1, .ref (ad 3))]) hx hb dX7_passes_52 hl (k := 0) rfl rfl (by decide) rfl (fun ls hl => ?_)
          refine lv_goto (tgt := 2) hx hb dX7_passes_55 (by decide) ?_
          try have := i_addr (a := x2_2) (b := 1) (n := 1) q_1 (by omega) (by omega)
          exact ih_2 (x2_2 + 1) wn_5 H locs ls ⟨by omega, by omega, by omega⟩ (by omega) hP hS (lv_sub hl [0, 1, 2] rfl) E
        · have E := E.trans (if_neg c_2)
          have fc_2 := i_ne c_2
          rw [q_0] at fc_2
          refine lv_aload_n hx hb dX7_passes_15 rfl (lv_at hl 1 rfl) ?_
          refine g7_kept hx hb hts hin hown hK hP (hts (.fieldLink RX7 55 "LoadedForTheLaneModel" "kept" "[I") (by decide +kernel)) dX7_passes_16 ?_
          refine lv_aload_n hx hb dX7_passes_19 rfl (lv_at hl 1 rfl) ?_
          refine g7_cursor hx hb hts hin hown hK hP (hts (.fieldLink RX7 140 "LoadedForTheLaneModel" "cursor" "I") (by decide +kernel)) dX7_passes_20 ?_
          refine lv_aload_n hx hb dX7_passes_23 rfl (lv_at hl 2 rfl) ?_
          refine lv_iload_n hx hb dX7_passes_24 rfl (lv_at hl 0 rfl) ?_
          have ix_6 : vp_in x2_2 12 := ix_of (by omega) (by omega)
          refine l7_kind (j := x2_2.toNatClampNeg) hx hb hK hP ix_6 rfl dX7_passes_25 ?_
          have ix_7 : vp_in (w_2 22 0) 250 := ix_of (by omega) (by omega)
          refine a7_kept (j := (w_2 22 0).toNatClampNeg) hx hb hK hP hd hS ix_7 rfl dX7_passes_26 (fun H locs hP hS => ?_)
          obtain ⟨wn_7, hwn_7⟩ : ∃ x, x = st w_2 19 ((w_2 22 0).toNatClampNeg) (w_2 2 (x2_2.toNatClampNeg)) := ⟨_, rfl⟩
          rw [← hwn_7] at hP
          have E := bns_e E hwn_7
          have ft7_cursor : (wn_7 22 0).toInt = (w_2 22 0).toInt := by rw [hwn_7]; rfl
          have fv_7 : (wn_7 19 ((w_2 22 0).toNatClampNeg)).toInt = (w_2 2 (x2_2.toNatClampNeg) : Int32).toInt := by rw [hwn_7, st_rd]
          refine lv_goto (tgt := 42) hx hb dX7_passes_27 (by decide) ?_
          refine lv_aload_n hx hb dX7_passes_42 rfl (lv_at hl 1 rfl) ?_
          refine lv_dup hx hb dX7_passes_43 rfl ?_
          refine g7_cursor hx hb hts hin hown hK hP (hts (.fieldLink RX7 140 "LoadedForTheLaneModel" "cursor" "I") (by decide +kernel)) dX7_passes_44 ?_
          refine lv_iconst (v := 1) hx hb dX7_passes_47 (by decide) ?_
          refine lv_iadd hx hb dX7_passes_48 ?_
          refine p7_cursor hx hb hts hin hown hK hP hd hS (hts (.fieldLink RX7 140 "LoadedForTheLaneModel" "cursor" "I") (by decide +kernel)) dX7_passes_49 (fun H locs hP hS => ?_)
          obtain ⟨wn_8, hwn_8⟩ : ∃ x, x = st wn_7 22 0 ((wn_7 22 0) + 1) := ⟨_, rfl⟩
          rw [← hwn_8] at hP
          have E := bns_e E hwn_8
          have ft8_cursor : (wn_8 22 0).toInt = ((wn_7 22 0) + 1 : Int32).toInt := by rw [hwn_8]; rfl
          have := i_addr (a := wn_7 22 0) (b := 1) (n := 1) q_1 (by omega) (by omega)
          refine lv_iinc (v := x2_2 + 1) (lv' := [(2, .int (x2_2 + 1)), (0, .ref (ad 0)), (1, .ref (ad 3))]) hx hb dX7_passes_52 hl (k := 0) rfl rfl (by decide) rfl (fun ls hl => ?_)
          refine lv_goto (tgt := 2) hx hb dX7_passes_55 (by decide) ?_
          try have := i_addr (a := x2_2) (b := 1) (n := 1) q_1 (by omega) (by omega)
          exact ih_2 (x2_2 + 1) wn_8 H locs ls ⟨by omega, by omega, by omega⟩ (by omega) hP hS (lv_sub hl [0, 1, 2] rfl) E
  have := q_0
  exact L_2 13 0 w H locs ls ⟨by omega, by omega, by omega⟩ (by omega) hP hS (lv_sub hl [0, 1, 2] rfl) E

set_option maxHeartbeats 4000000 in
set_option maxRecDepth 100000 in
theorem kX7_passes_sheaves (l : Launch) (D : va_G) (cI : ClassId) (ad : Nat → Nat) (w : Nat → Nat → Int32) (hd : RD ad) (h1 : 0 ≤ (w 22 0).toInt) (h2 : (w 22 0).toInt ≤ 238) : Met l yX7_passes wsX7_passes rmX7_passes (va_Pc [Value.ref (ad 0), Value.ref (ad 4)] (fun U => va_P D vwCl (RM cI ad w) U.heap ∧ va_K D vwCl [(cI, .int)] U)) (va_Qv (fun u => u = sX7_passes_sheaves w ∧ ((u 22 0).toInt = (w 22 0).toInt + 12)) (fun u t => va_P D vwCl (RM cI ad u) t.heap) (RA ad)) 0 0 (RA ad) := by
  refine Met.ofW (cc := cX7_passes) (maxL := 3) (ret := none) (by decide) rfl ?_
  intro p e s m args below meth c s₁ B hml hv
  obtain ⟨rfl, hP, hK⟩ := hv
  have hx := B.exec
  have hb := B.bytes
  have hr := B.returns
  have hts := atoms_spec (ws := wsX7_passes) B.pre
  have hown : s.vm.findClass RX7 = some m.cls := findClass_of_methodNamed B.named
  have hlocks := B.notSynchronized
  have hin : ∀ q ∈ wsX70, q ∈ wsX7_passes := by decide +kernel
  have hl := lv_entry ([.ref (ad 0), .ref (ad 4)]) (n := 3) (Nat.le_of_ble_eq_true rfl)
  rw [lg_entry_eq]
  generalize (lg_sl ([.ref (ad 0), .ref (ad 4)]) ++ List.replicate (3 - (lg_sl ([.ref (ad 0), .ref (ad 4)])).length) Slot.unset).toArray = ls at hl ⊢
  have hl : lv_has ls 3 [(0, .ref (ad 0)), (1, .ref (ad 4))] := hl
  suffices hgo : ∀ (H : Heap) (locs : List Loc), va_P D vwCl (RM cI ad w) H → va_S (RA ad) s.heap H locs → W p l e (headSpec wsX7_passes rmX7_passes).room s m [Value.ref (ad 0), Value.ref (ad 4)].toArray below meth c H locs 0 0 (MQ below (va_Qv (fun u => u = sX7_passes_sheaves w ∧ ((u 22 0).toInt = (w 22 0).toInt + 12)) (fun u t => va_P D vwCl (RM cI ad u) t.heap) (RA ad)) [Value.ref (ad 0), Value.ref (ad 4)].toArray s 0 0 (RA ad)) (F0 m 0 ls []) from hgo s.heap [] hP va_S.rf
  intro H locs hP hS
  have E := sX7_passes_sheaves.eq_1 w
  refine lv_iconst (v := 0) hx hb dX7_passes_0 (by decide) ?_
  refine lv_istore_n (lv' := [(2, .int 0), (0, .ref (ad 0)), (1, .ref (ad 4))]) hx hb dX7_passes_1 rfl hl (by decide) rfl (fun ls hl => ?_)
  have L_2 : ∀ (n_2 : Nat) (x2_2 : Int32) (w_2 : Nat → Nat → Int32) (H : Heap) (locs : List Loc) (ls : Array Slot), ((0 ≤ x2_2.toInt) ∧ (x2_2.toInt ≤ 12) ∧ ((w_2 22 0).toInt = (w 22 0).toInt + x2_2.toInt)) → (12 - x2_2.toInt < (n_2 : Int)) → va_P D vwCl (RM cI ad w_2) H → va_S (RA ad) s.heap H locs → lv_has ls 3 [(2, .int x2_2), (0, .ref (ad 0)), (1, .ref (ad 4))] → sX7_passes_sheaves w = sX7_passes_sheaves_2 n_2 x2_2 w_2 → W p l e (headSpec wsX7_passes rmX7_passes).room s m [Value.ref (ad 0), Value.ref (ad 4)].toArray below meth c H locs 0 0 (MQ below (va_Qv (fun u => u = sX7_passes_sheaves w ∧ ((u 22 0).toInt = (w 22 0).toInt + 12)) (fun u t => va_P D vwCl (RM cI ad u) t.heap) (RA ad)) [Value.ref (ad 0), Value.ref (ad 4)].toArray s 0 0 (RA ad)) (F0 m 2 ls []) := by
    intro n_2
    induction n_2 with
    | zero =>
      intro x2_2 w_2 H locs ls hinv hm
      obtain ⟨v0_2, v1_2, v2_2⟩ := hinv
      exact absurd hm (by omega)
    | succ n_2 ih_2 =>
      intro x2_2 w_2 H locs ls hinv hm_2 hP hS hl E
      obtain ⟨v0_2, v1_2, v2_2⟩ := hinv
      have E := E.trans (sX7_passes_sheaves_2.eq_2 ..)
      refine lv_iload_n hx hb dX7_passes_2 rfl (lv_at hl 0 rfl) ?_
      refine lv_aload_n hx hb dX7_passes_3 rfl (lv_at hl 2 rfl) ?_
      refine n7_sheaves (v := 12) hx hb hK hP (by decide) dX7_passes_4 ?_
      refine lv_icmp_ge (tgt := 58) hx hb dX7_passes_5 (by decide) (fun c_1 => ?_) (fun c_1 => ?_)
      · have E := E.trans (if_pos c_1)
        have fc_1 := i_le c_1
        rw [q_12] at fc_1
        exact W.vret hx hb hr (fun t ht hW => ⟨⟨w_2, rfl, ⟨E.symm, by omega⟩, by show va_P _ _ _ t.heap; rw [ht]; exact hP⟩, hS.F ht⟩) hS.2.2 dX7_passes_58
      · have E := E.trans (if_neg c_1)
        have fc_1 := i_nle c_1
        rw [q_12] at fc_1
        refine lv_aload_n hx hb dX7_passes_8 rfl (lv_at hl 1 rfl) ?_
        refine g7_isKeeping hx hb hts hin hown hK hP (hts (.fieldLink RX7 136 "LoadedForTheLaneModel" "isKeeping" "Z") (by decide +kernel)) dX7_passes_9 ?_
        refine lv_if_eq (tgt := 30) hx hb dX7_passes_12 (by decide) (fun c_2 => ?_) (fun c_2 => ?_)
        · have E := E.trans (if_pos c_2)
          have fc_2 := i_eq c_2
          rw [q_0] at fc_2
          refine lv_aload_n hx hb dX7_passes_30 rfl (lv_at hl 2 rfl) ?_
          refine lv_iload_n hx hb dX7_passes_31 rfl (lv_at hl 0 rfl) ?_
          refine lv_aload_n hx hb dX7_passes_32 rfl (lv_at hl 1 rfl) ?_
          refine g7_kept hx hb hts hin hown hK hP (hts (.fieldLink RX7 55 "LoadedForTheLaneModel" "kept" "[I") (by decide +kernel)) dX7_passes_33 ?_
          refine lv_aload_n hx hb dX7_passes_36 rfl (lv_at hl 1 rfl) ?_
          refine g7_cursor hx hb hts hin hown hK hP (hts (.fieldLink RX7 140 "LoadedForTheLaneModel" "cursor" "I") (by decide +kernel)) dX7_passes_37 ?_
          have ix_3 : vp_in (w_2 22 0) 250 := ix_of (by omega) (by omega)
          refine l7_kept (j := (w_2 22 0).toNatClampNeg) hx hb hK hP ix_3 rfl dX7_passes_40 ?_
          have ix_4 : vp_in x2_2 12 := ix_of (by omega) (by omega)
          refine a7_sheaves (j := x2_2.toNatClampNeg) hx hb hK hP hd hS ix_4 rfl dX7_passes_41 (fun H locs hP hS => ?_)
          obtain ⟨wn_4, hwn_4⟩ : ∃ x, x = st w_2 3 (x2_2.toNatClampNeg) (w_2 19 ((w_2 22 0).toNatClampNeg)) := ⟨_, rfl⟩
          rw [← hwn_4] at hP
          have E := bns_e E hwn_4
          have ft4_cursor : (wn_4 22 0).toInt = (w_2 22 0).toInt := by rw [hwn_4]; rfl
          have fv_4 : (wn_4 3 (x2_2.toNatClampNeg)).toInt = (w_2 19 ((w_2 22 0).toNatClampNeg) : Int32).toInt := by rw [hwn_4, st_rd]
          refine lv_aload_n hx hb dX7_passes_42 rfl (lv_at hl 1 rfl) ?_
          refine lv_dup hx hb dX7_passes_43 rfl ?_
          refine g7_cursor hx hb hts hin hown hK hP (hts (.fieldLink RX7 140 "LoadedForTheLaneModel" "cursor" "I") (by decide +kernel)) dX7_passes_44 ?_
          refine lv_iconst (v := 1) hx hb dX7_passes_47 (by decide) ?_
          refine lv_iadd hx hb dX7_passes_48 ?_
          refine p7_cursor hx hb hts hin hown hK hP hd hS (hts (.fieldLink RX7 140 "LoadedForTheLaneModel" "cursor" "I") (by decide +kernel)) dX7_passes_49 (fun H locs hP hS => ?_)
          obtain ⟨wn_5, hwn_5⟩ : ∃ x, x = st wn_4 22 0 ((wn_4 22 0) + 1) := ⟨_, rfl⟩
          rw [← hwn_5] at hP
          have E := bns_e E hwn_5
          have ft5_cursor : (wn_5 22 0).toInt = ((wn_4 22 0) + 1 : Int32).toInt := by rw [hwn_5]; rfl
          have := i_addr (a := wn_4 22 0) (b := 1) (n := 1) q_1 (by omega) (by omega)
          refine lv_iinc (v := x2_2 + 1) (lv' := [(2, .int (x2_2 + 1)), (0, .ref (ad 0)), (1, .ref (ad 4))]) hx hb dX7_passes_52 hl (k := 0) rfl rfl (by decide) rfl (fun ls hl => ?_)
          refine lv_goto (tgt := 2) hx hb dX7_passes_55 (by decide) ?_
          try have := i_addr (a := x2_2) (b := 1) (n := 1) q_1 (by omega) (by omega)
          exact ih_2 (x2_2 + 1) wn_5 H locs ls ⟨by omega, by omega, by omega⟩ (by omega) hP hS (lv_sub hl [0, 1, 2] rfl) E
        · have E := E.trans (if_neg c_2)
          have fc_2 := i_ne c_2
          rw [q_0] at fc_2
          refine lv_aload_n hx hb dX7_passes_15 rfl (lv_at hl 1 rfl) ?_
          refine g7_kept hx hb hts hin hown hK hP (hts (.fieldLink RX7 55 "LoadedForTheLaneModel" "kept" "[I") (by decide +kernel)) dX7_passes_16 ?_
          refine lv_aload_n hx hb dX7_passes_19 rfl (lv_at hl 1 rfl) ?_
          refine g7_cursor hx hb hts hin hown hK hP (hts (.fieldLink RX7 140 "LoadedForTheLaneModel" "cursor" "I") (by decide +kernel)) dX7_passes_20 ?_
          refine lv_aload_n hx hb dX7_passes_23 rfl (lv_at hl 2 rfl) ?_
          refine lv_iload_n hx hb dX7_passes_24 rfl (lv_at hl 0 rfl) ?_
          have ix_6 : vp_in x2_2 12 := ix_of (by omega) (by omega)
          refine l7_sheaves (j := x2_2.toNatClampNeg) hx hb hK hP ix_6 rfl dX7_passes_25 ?_
          have ix_7 : vp_in (w_2 22 0) 250 := ix_of (by omega) (by omega)
          refine a7_kept (j := (w_2 22 0).toNatClampNeg) hx hb hK hP hd hS ix_7 rfl dX7_passes_26 (fun H locs hP hS => ?_)
          obtain ⟨wn_7, hwn_7⟩ : ∃ x, x = st w_2 19 ((w_2 22 0).toNatClampNeg) (w_2 3 (x2_2.toNatClampNeg)) := ⟨_, rfl⟩
          rw [← hwn_7] at hP
          have E := bns_e E hwn_7
          have ft7_cursor : (wn_7 22 0).toInt = (w_2 22 0).toInt := by rw [hwn_7]; rfl
          have fv_7 : (wn_7 19 ((w_2 22 0).toNatClampNeg)).toInt = (w_2 3 (x2_2.toNatClampNeg) : Int32).toInt := by rw [hwn_7, st_rd]
          refine lv_goto (tgt := 42) hx hb dX7_passes_27 (by decide) ?_
          refine lv_aload_n hx hb dX7_passes_42 rfl (lv_at hl 1 rfl) ?_
          refine lv_dup hx hb dX7_passes_43 rfl ?_
          refine g7_cursor hx hb hts hin hown hK hP (hts (.fieldLink RX7 140 "LoadedForTheLaneModel" "cursor" "I") (by decide +kernel)) dX7_passes_44 ?_
          refine lv_iconst (v := 1) hx hb dX7_passes_47 (by decide) ?_
          refine lv_iadd hx hb dX7_passes_48 ?_
          refine p7_cursor hx hb hts hin hown hK hP hd hS (hts (.fieldLink RX7 140 "LoadedForTheLaneModel" "cursor" "I") (by decide +kernel)) dX7_passes_49 (fun H locs hP hS => ?_)
          obtain ⟨wn_8, hwn_8⟩ : ∃ x, x = st wn_7 22 0 ((wn_7 22 0) + 1) := ⟨_, rfl⟩
          rw [← hwn_8] at hP
          have E := bns_e E hwn_8
          have ft8_cursor : (wn_8 22 0).toInt = ((wn_7 22 0) + 1 : Int32).toInt := by rw [hwn_8]; rfl
          have := i_addr (a := wn_7 22 0) (b := 1) (n := 1) q_1 (by omega) (by omega)
          refine lv_iinc (v := x2_2 + 1) (lv' := [(2, .int (x2_2 + 1)), (0, .ref (ad 0)), (1, .ref (ad 4))]) hx hb dX7_passes_52 hl (k := 0) rfl rfl (by decide) rfl (fun ls hl => ?_)
          refine lv_goto (tgt := 2) hx hb dX7_passes_55 (by decide) ?_
          try have := i_addr (a := x2_2) (b := 1) (n := 1) q_1 (by omega) (by omega)
          exact ih_2 (x2_2 + 1) wn_8 H locs ls ⟨by omega, by omega, by omega⟩ (by omega) hP hS (lv_sub hl [0, 1, 2] rfl) E
  have := q_0
  exact L_2 13 0 w H locs ls ⟨by omega, by omega, by omega⟩ (by omega) hP hS (lv_sub hl [0, 1, 2] rfl) E

set_option maxHeartbeats 4000000 in
set_option maxRecDepth 100000 in
theorem kX7_passes_out (l : Launch) (D : va_G) (cI : ClassId) (ad : Nat → Nat) (w : Nat → Nat → Int32) (hd : RD ad) (h1 : 0 ≤ (w 22 0).toInt) (h2 : (w 22 0).toInt ≤ 238) : Met l yX7_passes wsX7_passes rmX7_passes (va_Pc [Value.ref (ad 0), Value.ref (ad 5)] (fun U => va_P D vwCl (RM cI ad w) U.heap ∧ va_K D vwCl [(cI, .int)] U)) (va_Qv (fun u => u = sX7_passes_out w ∧ ((u 22 0).toInt = (w 22 0).toInt + 12)) (fun u t => va_P D vwCl (RM cI ad u) t.heap) (RA ad)) 0 0 (RA ad) := by
  refine Met.ofW (cc := cX7_passes) (maxL := 3) (ret := none) (by decide) rfl ?_
  intro p e s m args below meth c s₁ B hml hv
  obtain ⟨rfl, hP, hK⟩ := hv
  have hx := B.exec
  have hb := B.bytes
  have hr := B.returns
  have hts := atoms_spec (ws := wsX7_passes) B.pre
  have hown : s.vm.findClass RX7 = some m.cls := findClass_of_methodNamed B.named
  have hlocks := B.notSynchronized
  have hin : ∀ q ∈ wsX70, q ∈ wsX7_passes := by decide +kernel
  have hl := lv_entry ([.ref (ad 0), .ref (ad 5)]) (n := 3) (Nat.le_of_ble_eq_true rfl)
  rw [lg_entry_eq]
  generalize (lg_sl ([.ref (ad 0), .ref (ad 5)]) ++ List.replicate (3 - (lg_sl ([.ref (ad 0), .ref (ad 5)])).length) Slot.unset).toArray = ls at hl ⊢
  have hl : lv_has ls 3 [(0, .ref (ad 0)), (1, .ref (ad 5))] := hl
  suffices hgo : ∀ (H : Heap) (locs : List Loc), va_P D vwCl (RM cI ad w) H → va_S (RA ad) s.heap H locs → W p l e (headSpec wsX7_passes rmX7_passes).room s m [Value.ref (ad 0), Value.ref (ad 5)].toArray below meth c H locs 0 0 (MQ below (va_Qv (fun u => u = sX7_passes_out w ∧ ((u 22 0).toInt = (w 22 0).toInt + 12)) (fun u t => va_P D vwCl (RM cI ad u) t.heap) (RA ad)) [Value.ref (ad 0), Value.ref (ad 5)].toArray s 0 0 (RA ad)) (F0 m 0 ls []) from hgo s.heap [] hP va_S.rf
  intro H locs hP hS
  have E := sX7_passes_out.eq_1 w
  refine lv_iconst (v := 0) hx hb dX7_passes_0 (by decide) ?_
  refine lv_istore_n (lv' := [(2, .int 0), (0, .ref (ad 0)), (1, .ref (ad 5))]) hx hb dX7_passes_1 rfl hl (by decide) rfl (fun ls hl => ?_)
  have L_2 : ∀ (n_2 : Nat) (x2_2 : Int32) (w_2 : Nat → Nat → Int32) (H : Heap) (locs : List Loc) (ls : Array Slot), ((0 ≤ x2_2.toInt) ∧ (x2_2.toInt ≤ 12) ∧ ((w_2 22 0).toInt = (w 22 0).toInt + x2_2.toInt)) → (12 - x2_2.toInt < (n_2 : Int)) → va_P D vwCl (RM cI ad w_2) H → va_S (RA ad) s.heap H locs → lv_has ls 3 [(2, .int x2_2), (0, .ref (ad 0)), (1, .ref (ad 5))] → sX7_passes_out w = sX7_passes_out_2 n_2 x2_2 w_2 → W p l e (headSpec wsX7_passes rmX7_passes).room s m [Value.ref (ad 0), Value.ref (ad 5)].toArray below meth c H locs 0 0 (MQ below (va_Qv (fun u => u = sX7_passes_out w ∧ ((u 22 0).toInt = (w 22 0).toInt + 12)) (fun u t => va_P D vwCl (RM cI ad u) t.heap) (RA ad)) [Value.ref (ad 0), Value.ref (ad 5)].toArray s 0 0 (RA ad)) (F0 m 2 ls []) := by
    intro n_2
    induction n_2 with
    | zero =>
      intro x2_2 w_2 H locs ls hinv hm
      obtain ⟨v0_2, v1_2, v2_2⟩ := hinv
      exact absurd hm (by omega)
    | succ n_2 ih_2 =>
      intro x2_2 w_2 H locs ls hinv hm_2 hP hS hl E
      obtain ⟨v0_2, v1_2, v2_2⟩ := hinv
      have E := E.trans (sX7_passes_out_2.eq_2 ..)
      refine lv_iload_n hx hb dX7_passes_2 rfl (lv_at hl 0 rfl) ?_
      refine lv_aload_n hx hb dX7_passes_3 rfl (lv_at hl 2 rfl) ?_
      refine n7_out (v := 12) hx hb hK hP (by decide) dX7_passes_4 ?_
      refine lv_icmp_ge (tgt := 58) hx hb dX7_passes_5 (by decide) (fun c_1 => ?_) (fun c_1 => ?_)
      · have E := E.trans (if_pos c_1)
        have fc_1 := i_le c_1
        rw [q_12] at fc_1
        exact W.vret hx hb hr (fun t ht hW => ⟨⟨w_2, rfl, ⟨E.symm, by omega⟩, by show va_P _ _ _ t.heap; rw [ht]; exact hP⟩, hS.F ht⟩) hS.2.2 dX7_passes_58
      · have E := E.trans (if_neg c_1)
        have fc_1 := i_nle c_1
        rw [q_12] at fc_1
        refine lv_aload_n hx hb dX7_passes_8 rfl (lv_at hl 1 rfl) ?_
        refine g7_isKeeping hx hb hts hin hown hK hP (hts (.fieldLink RX7 136 "LoadedForTheLaneModel" "isKeeping" "Z") (by decide +kernel)) dX7_passes_9 ?_
        refine lv_if_eq (tgt := 30) hx hb dX7_passes_12 (by decide) (fun c_2 => ?_) (fun c_2 => ?_)
        · have E := E.trans (if_pos c_2)
          have fc_2 := i_eq c_2
          rw [q_0] at fc_2
          refine lv_aload_n hx hb dX7_passes_30 rfl (lv_at hl 2 rfl) ?_
          refine lv_iload_n hx hb dX7_passes_31 rfl (lv_at hl 0 rfl) ?_
          refine lv_aload_n hx hb dX7_passes_32 rfl (lv_at hl 1 rfl) ?_
          refine g7_kept hx hb hts hin hown hK hP (hts (.fieldLink RX7 55 "LoadedForTheLaneModel" "kept" "[I") (by decide +kernel)) dX7_passes_33 ?_
          refine lv_aload_n hx hb dX7_passes_36 rfl (lv_at hl 1 rfl) ?_
          refine g7_cursor hx hb hts hin hown hK hP (hts (.fieldLink RX7 140 "LoadedForTheLaneModel" "cursor" "I") (by decide +kernel)) dX7_passes_37 ?_
          have ix_3 : vp_in (w_2 22 0) 250 := ix_of (by omega) (by omega)
          refine l7_kept (j := (w_2 22 0).toNatClampNeg) hx hb hK hP ix_3 rfl dX7_passes_40 ?_
          have ix_4 : vp_in x2_2 12 := ix_of (by omega) (by omega)
          refine a7_out (j := x2_2.toNatClampNeg) hx hb hK hP hd hS ix_4 rfl dX7_passes_41 (fun H locs hP hS => ?_)
          obtain ⟨wn_4, hwn_4⟩ : ∃ x, x = st w_2 4 (x2_2.toNatClampNeg) (w_2 19 ((w_2 22 0).toNatClampNeg)) := ⟨_, rfl⟩
          rw [← hwn_4] at hP
          have E := bns_e E hwn_4
          have ft4_cursor : (wn_4 22 0).toInt = (w_2 22 0).toInt := by rw [hwn_4]; rfl
          have fv_4 : (wn_4 4 (x2_2.toNatClampNeg)).toInt = (w_2 19 ((w_2 22 0).toNatClampNeg) : Int32).toInt := by rw [hwn_4, st_rd]
          refine lv_aload_n hx hb dX7_passes_42 rfl (lv_at hl 1 rfl) ?_
          refine lv_dup hx hb dX7_passes_43 rfl ?_
          refine g7_cursor hx hb hts hin hown hK hP (hts (.fieldLink RX7 140 "LoadedForTheLaneModel" "cursor" "I") (by decide +kernel)) dX7_passes_44 ?_
          refine lv_iconst (v := 1) hx hb dX7_passes_47 (by decide) ?_
          refine lv_iadd hx hb dX7_passes_48 ?_
          refine p7_cursor hx hb hts hin hown hK hP hd hS (hts (.fieldLink RX7 140 "LoadedForTheLaneModel" "cursor" "I") (by decide +kernel)) dX7_passes_49 (fun H locs hP hS => ?_)
          obtain ⟨wn_5, hwn_5⟩ : ∃ x, x = st wn_4 22 0 ((wn_4 22 0) + 1) := ⟨_, rfl⟩
          rw [← hwn_5] at hP
          have E := bns_e E hwn_5
          have ft5_cursor : (wn_5 22 0).toInt = ((wn_4 22 0) + 1 : Int32).toInt := by rw [hwn_5]; rfl
          have := i_addr (a := wn_4 22 0) (b := 1) (n := 1) q_1 (by omega) (by omega)
          refine lv_iinc (v := x2_2 + 1) (lv' := [(2, .int (x2_2 + 1)), (0, .ref (ad 0)), (1, .ref (ad 5))]) hx hb dX7_passes_52 hl (k := 0) rfl rfl (by decide) rfl (fun ls hl => ?_)
          refine lv_goto (tgt := 2) hx hb dX7_passes_55 (by decide) ?_
          try have := i_addr (a := x2_2) (b := 1) (n := 1) q_1 (by omega) (by omega)
          exact ih_2 (x2_2 + 1) wn_5 H locs ls ⟨by omega, by omega, by omega⟩ (by omega) hP hS (lv_sub hl [0, 1, 2] rfl) E
        · have E := E.trans (if_neg c_2)
          have fc_2 := i_ne c_2
          rw [q_0] at fc_2
          refine lv_aload_n hx hb dX7_passes_15 rfl (lv_at hl 1 rfl) ?_
          refine g7_kept hx hb hts hin hown hK hP (hts (.fieldLink RX7 55 "LoadedForTheLaneModel" "kept" "[I") (by decide +kernel)) dX7_passes_16 ?_
          refine lv_aload_n hx hb dX7_passes_19 rfl (lv_at hl 1 rfl) ?_
          refine g7_cursor hx hb hts hin hown hK hP (hts (.fieldLink RX7 140 "LoadedForTheLaneModel" "cursor" "I") (by decide +kernel)) dX7_passes_20 ?_
          refine lv_aload_n hx hb dX7_passes_23 rfl (lv_at hl 2 rfl) ?_
          refine lv_iload_n hx hb dX7_passes_24 rfl (lv_at hl 0 rfl) ?_
          have ix_6 : vp_in x2_2 12 := ix_of (by omega) (by omega)
          refine l7_out (j := x2_2.toNatClampNeg) hx hb hK hP ix_6 rfl dX7_passes_25 ?_
          have ix_7 : vp_in (w_2 22 0) 250 := ix_of (by omega) (by omega)
          refine a7_kept (j := (w_2 22 0).toNatClampNeg) hx hb hK hP hd hS ix_7 rfl dX7_passes_26 (fun H locs hP hS => ?_)
          obtain ⟨wn_7, hwn_7⟩ : ∃ x, x = st w_2 19 ((w_2 22 0).toNatClampNeg) (w_2 4 (x2_2.toNatClampNeg)) := ⟨_, rfl⟩
          rw [← hwn_7] at hP
          have E := bns_e E hwn_7
          have ft7_cursor : (wn_7 22 0).toInt = (w_2 22 0).toInt := by rw [hwn_7]; rfl
          have fv_7 : (wn_7 19 ((w_2 22 0).toNatClampNeg)).toInt = (w_2 4 (x2_2.toNatClampNeg) : Int32).toInt := by rw [hwn_7, st_rd]
          refine lv_goto (tgt := 42) hx hb dX7_passes_27 (by decide) ?_
          refine lv_aload_n hx hb dX7_passes_42 rfl (lv_at hl 1 rfl) ?_
          refine lv_dup hx hb dX7_passes_43 rfl ?_
          refine g7_cursor hx hb hts hin hown hK hP (hts (.fieldLink RX7 140 "LoadedForTheLaneModel" "cursor" "I") (by decide +kernel)) dX7_passes_44 ?_
          refine lv_iconst (v := 1) hx hb dX7_passes_47 (by decide) ?_
          refine lv_iadd hx hb dX7_passes_48 ?_
          refine p7_cursor hx hb hts hin hown hK hP hd hS (hts (.fieldLink RX7 140 "LoadedForTheLaneModel" "cursor" "I") (by decide +kernel)) dX7_passes_49 (fun H locs hP hS => ?_)
          obtain ⟨wn_8, hwn_8⟩ : ∃ x, x = st wn_7 22 0 ((wn_7 22 0) + 1) := ⟨_, rfl⟩
          rw [← hwn_8] at hP
          have E := bns_e E hwn_8
          have ft8_cursor : (wn_8 22 0).toInt = ((wn_7 22 0) + 1 : Int32).toInt := by rw [hwn_8]; rfl
          have := i_addr (a := wn_7 22 0) (b := 1) (n := 1) q_1 (by omega) (by omega)
          refine lv_iinc (v := x2_2 + 1) (lv' := [(2, .int (x2_2 + 1)), (0, .ref (ad 0)), (1, .ref (ad 5))]) hx hb dX7_passes_52 hl (k := 0) rfl rfl (by decide) rfl (fun ls hl => ?_)
          refine lv_goto (tgt := 2) hx hb dX7_passes_55 (by decide) ?_
          try have := i_addr (a := x2_2) (b := 1) (n := 1) q_1 (by omega) (by omega)
          exact ih_2 (x2_2 + 1) wn_8 H locs ls ⟨by omega, by omega, by omega⟩ (by omega) hP hS (lv_sub hl [0, 1, 2] rfl) E
  have := q_0
  exact L_2 13 0 w H locs ls ⟨by omega, by omega, by omega⟩ (by omega) hP hS (lv_sub hl [0, 1, 2] rfl) E

set_option maxHeartbeats 4000000 in
set_option maxRecDepth 100000 in
theorem kX7_passes_lean (l : Launch) (D : va_G) (cI : ClassId) (ad : Nat → Nat) (w : Nat → Nat → Int32) (hd : RD ad) (h1 : 0 ≤ (w 22 0).toInt) (h2 : (w 22 0).toInt ≤ 238) : Met l yX7_passes wsX7_passes rmX7_passes (va_Pc [Value.ref (ad 0), Value.ref (ad 6)] (fun U => va_P D vwCl (RM cI ad w) U.heap ∧ va_K D vwCl [(cI, .int)] U)) (va_Qv (fun u => u = sX7_passes_lean w ∧ ((u 22 0).toInt = (w 22 0).toInt + 12)) (fun u t => va_P D vwCl (RM cI ad u) t.heap) (RA ad)) 0 0 (RA ad) := by
  refine Met.ofW (cc := cX7_passes) (maxL := 3) (ret := none) (by decide) rfl ?_
  intro p e s m args below meth c s₁ B hml hv
  obtain ⟨rfl, hP, hK⟩ := hv
  have hx := B.exec
  have hb := B.bytes
  have hr := B.returns
  have hts := atoms_spec (ws := wsX7_passes) B.pre
  have hown : s.vm.findClass RX7 = some m.cls := findClass_of_methodNamed B.named
  have hlocks := B.notSynchronized
  have hin : ∀ q ∈ wsX70, q ∈ wsX7_passes := by decide +kernel
  have hl := lv_entry ([.ref (ad 0), .ref (ad 6)]) (n := 3) (Nat.le_of_ble_eq_true rfl)
  rw [lg_entry_eq]
  generalize (lg_sl ([.ref (ad 0), .ref (ad 6)]) ++ List.replicate (3 - (lg_sl ([.ref (ad 0), .ref (ad 6)])).length) Slot.unset).toArray = ls at hl ⊢
  have hl : lv_has ls 3 [(0, .ref (ad 0)), (1, .ref (ad 6))] := hl
  suffices hgo : ∀ (H : Heap) (locs : List Loc), va_P D vwCl (RM cI ad w) H → va_S (RA ad) s.heap H locs → W p l e (headSpec wsX7_passes rmX7_passes).room s m [Value.ref (ad 0), Value.ref (ad 6)].toArray below meth c H locs 0 0 (MQ below (va_Qv (fun u => u = sX7_passes_lean w ∧ ((u 22 0).toInt = (w 22 0).toInt + 12)) (fun u t => va_P D vwCl (RM cI ad u) t.heap) (RA ad)) [Value.ref (ad 0), Value.ref (ad 6)].toArray s 0 0 (RA ad)) (F0 m 0 ls []) from hgo s.heap [] hP va_S.rf
  intro H locs hP hS
  have E := sX7_passes_lean.eq_1 w
  refine lv_iconst (v := 0) hx hb dX7_passes_0 (by decide) ?_
  refine lv_istore_n (lv' := [(2, .int 0), (0, .ref (ad 0)), (1, .ref (ad 6))]) hx hb dX7_passes_1 rfl hl (by decide) rfl (fun ls hl => ?_)
  have L_2 : ∀ (n_2 : Nat) (x2_2 : Int32) (w_2 : Nat → Nat → Int32) (H : Heap) (locs : List Loc) (ls : Array Slot), ((0 ≤ x2_2.toInt) ∧ (x2_2.toInt ≤ 12) ∧ ((w_2 22 0).toInt = (w 22 0).toInt + x2_2.toInt)) → (12 - x2_2.toInt < (n_2 : Int)) → va_P D vwCl (RM cI ad w_2) H → va_S (RA ad) s.heap H locs → lv_has ls 3 [(2, .int x2_2), (0, .ref (ad 0)), (1, .ref (ad 6))] → sX7_passes_lean w = sX7_passes_lean_2 n_2 x2_2 w_2 → W p l e (headSpec wsX7_passes rmX7_passes).room s m [Value.ref (ad 0), Value.ref (ad 6)].toArray below meth c H locs 0 0 (MQ below (va_Qv (fun u => u = sX7_passes_lean w ∧ ((u 22 0).toInt = (w 22 0).toInt + 12)) (fun u t => va_P D vwCl (RM cI ad u) t.heap) (RA ad)) [Value.ref (ad 0), Value.ref (ad 6)].toArray s 0 0 (RA ad)) (F0 m 2 ls []) := by
    intro n_2
    induction n_2 with
    | zero =>
      intro x2_2 w_2 H locs ls hinv hm
      obtain ⟨v0_2, v1_2, v2_2⟩ := hinv
      exact absurd hm (by omega)
    | succ n_2 ih_2 =>
      intro x2_2 w_2 H locs ls hinv hm_2 hP hS hl E
      obtain ⟨v0_2, v1_2, v2_2⟩ := hinv
      have E := E.trans (sX7_passes_lean_2.eq_2 ..)
      refine lv_iload_n hx hb dX7_passes_2 rfl (lv_at hl 0 rfl) ?_
      refine lv_aload_n hx hb dX7_passes_3 rfl (lv_at hl 2 rfl) ?_
      refine n7_lean (v := 12) hx hb hK hP (by decide) dX7_passes_4 ?_
      refine lv_icmp_ge (tgt := 58) hx hb dX7_passes_5 (by decide) (fun c_1 => ?_) (fun c_1 => ?_)
      · have E := E.trans (if_pos c_1)
        have fc_1 := i_le c_1
        rw [q_12] at fc_1
        exact W.vret hx hb hr (fun t ht hW => ⟨⟨w_2, rfl, ⟨E.symm, by omega⟩, by show va_P _ _ _ t.heap; rw [ht]; exact hP⟩, hS.F ht⟩) hS.2.2 dX7_passes_58
      · have E := E.trans (if_neg c_1)
        have fc_1 := i_nle c_1
        rw [q_12] at fc_1
        refine lv_aload_n hx hb dX7_passes_8 rfl (lv_at hl 1 rfl) ?_
        refine g7_isKeeping hx hb hts hin hown hK hP (hts (.fieldLink RX7 136 "LoadedForTheLaneModel" "isKeeping" "Z") (by decide +kernel)) dX7_passes_9 ?_
        refine lv_if_eq (tgt := 30) hx hb dX7_passes_12 (by decide) (fun c_2 => ?_) (fun c_2 => ?_)
        · have E := E.trans (if_pos c_2)
          have fc_2 := i_eq c_2
          rw [q_0] at fc_2
          refine lv_aload_n hx hb dX7_passes_30 rfl (lv_at hl 2 rfl) ?_
          refine lv_iload_n hx hb dX7_passes_31 rfl (lv_at hl 0 rfl) ?_
          refine lv_aload_n hx hb dX7_passes_32 rfl (lv_at hl 1 rfl) ?_
          refine g7_kept hx hb hts hin hown hK hP (hts (.fieldLink RX7 55 "LoadedForTheLaneModel" "kept" "[I") (by decide +kernel)) dX7_passes_33 ?_
          refine lv_aload_n hx hb dX7_passes_36 rfl (lv_at hl 1 rfl) ?_
          refine g7_cursor hx hb hts hin hown hK hP (hts (.fieldLink RX7 140 "LoadedForTheLaneModel" "cursor" "I") (by decide +kernel)) dX7_passes_37 ?_
          have ix_3 : vp_in (w_2 22 0) 250 := ix_of (by omega) (by omega)
          refine l7_kept (j := (w_2 22 0).toNatClampNeg) hx hb hK hP ix_3 rfl dX7_passes_40 ?_
          have ix_4 : vp_in x2_2 12 := ix_of (by omega) (by omega)
          refine a7_lean (j := x2_2.toNatClampNeg) hx hb hK hP hd hS ix_4 rfl dX7_passes_41 (fun H locs hP hS => ?_)
          obtain ⟨wn_4, hwn_4⟩ : ∃ x, x = st w_2 5 (x2_2.toNatClampNeg) (w_2 19 ((w_2 22 0).toNatClampNeg)) := ⟨_, rfl⟩
          rw [← hwn_4] at hP
          have E := bns_e E hwn_4
          have ft4_cursor : (wn_4 22 0).toInt = (w_2 22 0).toInt := by rw [hwn_4]; rfl
          have fv_4 : (wn_4 5 (x2_2.toNatClampNeg)).toInt = (w_2 19 ((w_2 22 0).toNatClampNeg) : Int32).toInt := by rw [hwn_4, st_rd]
          refine lv_aload_n hx hb dX7_passes_42 rfl (lv_at hl 1 rfl) ?_
          refine lv_dup hx hb dX7_passes_43 rfl ?_
          refine g7_cursor hx hb hts hin hown hK hP (hts (.fieldLink RX7 140 "LoadedForTheLaneModel" "cursor" "I") (by decide +kernel)) dX7_passes_44 ?_
          refine lv_iconst (v := 1) hx hb dX7_passes_47 (by decide) ?_
          refine lv_iadd hx hb dX7_passes_48 ?_
          refine p7_cursor hx hb hts hin hown hK hP hd hS (hts (.fieldLink RX7 140 "LoadedForTheLaneModel" "cursor" "I") (by decide +kernel)) dX7_passes_49 (fun H locs hP hS => ?_)
          obtain ⟨wn_5, hwn_5⟩ : ∃ x, x = st wn_4 22 0 ((wn_4 22 0) + 1) := ⟨_, rfl⟩
          rw [← hwn_5] at hP
          have E := bns_e E hwn_5
          have ft5_cursor : (wn_5 22 0).toInt = ((wn_4 22 0) + 1 : Int32).toInt := by rw [hwn_5]; rfl
          have := i_addr (a := wn_4 22 0) (b := 1) (n := 1) q_1 (by omega) (by omega)
          refine lv_iinc (v := x2_2 + 1) (lv' := [(2, .int (x2_2 + 1)), (0, .ref (ad 0)), (1, .ref (ad 6))]) hx hb dX7_passes_52 hl (k := 0) rfl rfl (by decide) rfl (fun ls hl => ?_)
          refine lv_goto (tgt := 2) hx hb dX7_passes_55 (by decide) ?_
          try have := i_addr (a := x2_2) (b := 1) (n := 1) q_1 (by omega) (by omega)
          exact ih_2 (x2_2 + 1) wn_5 H locs ls ⟨by omega, by omega, by omega⟩ (by omega) hP hS (lv_sub hl [0, 1, 2] rfl) E
        · have E := E.trans (if_neg c_2)
          have fc_2 := i_ne c_2
          rw [q_0] at fc_2
          refine lv_aload_n hx hb dX7_passes_15 rfl (lv_at hl 1 rfl) ?_
          refine g7_kept hx hb hts hin hown hK hP (hts (.fieldLink RX7 55 "LoadedForTheLaneModel" "kept" "[I") (by decide +kernel)) dX7_passes_16 ?_
          refine lv_aload_n hx hb dX7_passes_19 rfl (lv_at hl 1 rfl) ?_
          refine g7_cursor hx hb hts hin hown hK hP (hts (.fieldLink RX7 140 "LoadedForTheLaneModel" "cursor" "I") (by decide +kernel)) dX7_passes_20 ?_
          refine lv_aload_n hx hb dX7_passes_23 rfl (lv_at hl 2 rfl) ?_
          refine lv_iload_n hx hb dX7_passes_24 rfl (lv_at hl 0 rfl) ?_
          have ix_6 : vp_in x2_2 12 := ix_of (by omega) (by omega)
          refine l7_lean (j := x2_2.toNatClampNeg) hx hb hK hP ix_6 rfl dX7_passes_25 ?_
          have ix_7 : vp_in (w_2 22 0) 250 := ix_of (by omega) (by omega)
          refine a7_kept (j := (w_2 22 0).toNatClampNeg) hx hb hK hP hd hS ix_7 rfl dX7_passes_26 (fun H locs hP hS => ?_)
          obtain ⟨wn_7, hwn_7⟩ : ∃ x, x = st w_2 19 ((w_2 22 0).toNatClampNeg) (w_2 5 (x2_2.toNatClampNeg)) := ⟨_, rfl⟩
          rw [← hwn_7] at hP
          have E := bns_e E hwn_7
          have ft7_cursor : (wn_7 22 0).toInt = (w_2 22 0).toInt := by rw [hwn_7]; rfl
          have fv_7 : (wn_7 19 ((w_2 22 0).toNatClampNeg)).toInt = (w_2 5 (x2_2.toNatClampNeg) : Int32).toInt := by rw [hwn_7, st_rd]
          refine lv_goto (tgt := 42) hx hb dX7_passes_27 (by decide) ?_
          refine lv_aload_n hx hb dX7_passes_42 rfl (lv_at hl 1 rfl) ?_
          refine lv_dup hx hb dX7_passes_43 rfl ?_
          refine g7_cursor hx hb hts hin hown hK hP (hts (.fieldLink RX7 140 "LoadedForTheLaneModel" "cursor" "I") (by decide +kernel)) dX7_passes_44 ?_
          refine lv_iconst (v := 1) hx hb dX7_passes_47 (by decide) ?_
          refine lv_iadd hx hb dX7_passes_48 ?_
          refine p7_cursor hx hb hts hin hown hK hP hd hS (hts (.fieldLink RX7 140 "LoadedForTheLaneModel" "cursor" "I") (by decide +kernel)) dX7_passes_49 (fun H locs hP hS => ?_)
          obtain ⟨wn_8, hwn_8⟩ : ∃ x, x = st wn_7 22 0 ((wn_7 22 0) + 1) := ⟨_, rfl⟩
          rw [← hwn_8] at hP
          have E := bns_e E hwn_8
          have ft8_cursor : (wn_8 22 0).toInt = ((wn_7 22 0) + 1 : Int32).toInt := by rw [hwn_8]; rfl
          have := i_addr (a := wn_7 22 0) (b := 1) (n := 1) q_1 (by omega) (by omega)
          refine lv_iinc (v := x2_2 + 1) (lv' := [(2, .int (x2_2 + 1)), (0, .ref (ad 0)), (1, .ref (ad 6))]) hx hb dX7_passes_52 hl (k := 0) rfl rfl (by decide) rfl (fun ls hl => ?_)
          refine lv_goto (tgt := 2) hx hb dX7_passes_55 (by decide) ?_
          try have := i_addr (a := x2_2) (b := 1) (n := 1) q_1 (by omega) (by omega)
          exact ih_2 (x2_2 + 1) wn_8 H locs ls ⟨by omega, by omega, by omega⟩ (by omega) hP hS (lv_sub hl [0, 1, 2] rfl) E
  have := q_0
  exact L_2 13 0 w H locs ls ⟨by omega, by omega, by omega⟩ (by omega) hP hS (lv_sub hl [0, 1, 2] rfl) E

set_option maxHeartbeats 4000000 in
set_option maxRecDepth 100000 in
theorem kX7_passes_badly (l : Launch) (D : va_G) (cI : ClassId) (ad : Nat → Nat) (w : Nat → Nat → Int32) (hd : RD ad) (h1 : 0 ≤ (w 22 0).toInt) (h2 : (w 22 0).toInt ≤ 238) : Met l yX7_passes wsX7_passes rmX7_passes (va_Pc [Value.ref (ad 0), Value.ref (ad 7)] (fun U => va_P D vwCl (RM cI ad w) U.heap ∧ va_K D vwCl [(cI, .int)] U)) (va_Qv (fun u => u = sX7_passes_badly w ∧ ((u 22 0).toInt = (w 22 0).toInt + 12)) (fun u t => va_P D vwCl (RM cI ad u) t.heap) (RA ad)) 0 0 (RA ad) := by
  refine Met.ofW (cc := cX7_passes) (maxL := 3) (ret := none) (by decide) rfl ?_
  intro p e s m args below meth c s₁ B hml hv
  obtain ⟨rfl, hP, hK⟩ := hv
  have hx := B.exec
  have hb := B.bytes
  have hr := B.returns
  have hts := atoms_spec (ws := wsX7_passes) B.pre
  have hown : s.vm.findClass RX7 = some m.cls := findClass_of_methodNamed B.named
  have hlocks := B.notSynchronized
  have hin : ∀ q ∈ wsX70, q ∈ wsX7_passes := by decide +kernel
  have hl := lv_entry ([.ref (ad 0), .ref (ad 7)]) (n := 3) (Nat.le_of_ble_eq_true rfl)
  rw [lg_entry_eq]
  generalize (lg_sl ([.ref (ad 0), .ref (ad 7)]) ++ List.replicate (3 - (lg_sl ([.ref (ad 0), .ref (ad 7)])).length) Slot.unset).toArray = ls at hl ⊢
  have hl : lv_has ls 3 [(0, .ref (ad 0)), (1, .ref (ad 7))] := hl
  suffices hgo : ∀ (H : Heap) (locs : List Loc), va_P D vwCl (RM cI ad w) H → va_S (RA ad) s.heap H locs → W p l e (headSpec wsX7_passes rmX7_passes).room s m [Value.ref (ad 0), Value.ref (ad 7)].toArray below meth c H locs 0 0 (MQ below (va_Qv (fun u => u = sX7_passes_badly w ∧ ((u 22 0).toInt = (w 22 0).toInt + 12)) (fun u t => va_P D vwCl (RM cI ad u) t.heap) (RA ad)) [Value.ref (ad 0), Value.ref (ad 7)].toArray s 0 0 (RA ad)) (F0 m 0 ls []) from hgo s.heap [] hP va_S.rf
  intro H locs hP hS
  have E := sX7_passes_badly.eq_1 w
  refine lv_iconst (v := 0) hx hb dX7_passes_0 (by decide) ?_
  refine lv_istore_n (lv' := [(2, .int 0), (0, .ref (ad 0)), (1, .ref (ad 7))]) hx hb dX7_passes_1 rfl hl (by decide) rfl (fun ls hl => ?_)
  have L_2 : ∀ (n_2 : Nat) (x2_2 : Int32) (w_2 : Nat → Nat → Int32) (H : Heap) (locs : List Loc) (ls : Array Slot), ((0 ≤ x2_2.toInt) ∧ (x2_2.toInt ≤ 12) ∧ ((w_2 22 0).toInt = (w 22 0).toInt + x2_2.toInt)) → (12 - x2_2.toInt < (n_2 : Int)) → va_P D vwCl (RM cI ad w_2) H → va_S (RA ad) s.heap H locs → lv_has ls 3 [(2, .int x2_2), (0, .ref (ad 0)), (1, .ref (ad 7))] → sX7_passes_badly w = sX7_passes_badly_2 n_2 x2_2 w_2 → W p l e (headSpec wsX7_passes rmX7_passes).room s m [Value.ref (ad 0), Value.ref (ad 7)].toArray below meth c H locs 0 0 (MQ below (va_Qv (fun u => u = sX7_passes_badly w ∧ ((u 22 0).toInt = (w 22 0).toInt + 12)) (fun u t => va_P D vwCl (RM cI ad u) t.heap) (RA ad)) [Value.ref (ad 0), Value.ref (ad 7)].toArray s 0 0 (RA ad)) (F0 m 2 ls []) := by
    intro n_2
    induction n_2 with
    | zero =>
      intro x2_2 w_2 H locs ls hinv hm
      obtain ⟨v0_2, v1_2, v2_2⟩ := hinv
      exact absurd hm (by omega)
    | succ n_2 ih_2 =>
      intro x2_2 w_2 H locs ls hinv hm_2 hP hS hl E
      obtain ⟨v0_2, v1_2, v2_2⟩ := hinv
      have E := E.trans (sX7_passes_badly_2.eq_2 ..)
      refine lv_iload_n hx hb dX7_passes_2 rfl (lv_at hl 0 rfl) ?_
      refine lv_aload_n hx hb dX7_passes_3 rfl (lv_at hl 2 rfl) ?_
      refine n7_badly (v := 12) hx hb hK hP (by decide) dX7_passes_4 ?_
      refine lv_icmp_ge (tgt := 58) hx hb dX7_passes_5 (by decide) (fun c_1 => ?_) (fun c_1 => ?_)
      · have E := E.trans (if_pos c_1)
        have fc_1 := i_le c_1
        rw [q_12] at fc_1
        exact W.vret hx hb hr (fun t ht hW => ⟨⟨w_2, rfl, ⟨E.symm, by omega⟩, by show va_P _ _ _ t.heap; rw [ht]; exact hP⟩, hS.F ht⟩) hS.2.2 dX7_passes_58
      · have E := E.trans (if_neg c_1)
        have fc_1 := i_nle c_1
        rw [q_12] at fc_1
        refine lv_aload_n hx hb dX7_passes_8 rfl (lv_at hl 1 rfl) ?_
        refine g7_isKeeping hx hb hts hin hown hK hP (hts (.fieldLink RX7 136 "LoadedForTheLaneModel" "isKeeping" "Z") (by decide +kernel)) dX7_passes_9 ?_
        refine lv_if_eq (tgt := 30) hx hb dX7_passes_12 (by decide) (fun c_2 => ?_) (fun c_2 => ?_)
        · have E := E.trans (if_pos c_2)
          have fc_2 := i_eq c_2
          rw [q_0] at fc_2
          refine lv_aload_n hx hb dX7_passes_30 rfl (lv_at hl 2 rfl) ?_
          refine lv_iload_n hx hb dX7_passes_31 rfl (lv_at hl 0 rfl) ?_
          refine lv_aload_n hx hb dX7_passes_32 rfl (lv_at hl 1 rfl) ?_
          refine g7_kept hx hb hts hin hown hK hP (hts (.fieldLink RX7 55 "LoadedForTheLaneModel" "kept" "[I") (by decide +kernel)) dX7_passes_33 ?_
          refine lv_aload_n hx hb dX7_passes_36 rfl (lv_at hl 1 rfl) ?_
          refine g7_cursor hx hb hts hin hown hK hP (hts (.fieldLink RX7 140 "LoadedForTheLaneModel" "cursor" "I") (by decide +kernel)) dX7_passes_37 ?_
          have ix_3 : vp_in (w_2 22 0) 250 := ix_of (by omega) (by omega)
          refine l7_kept (j := (w_2 22 0).toNatClampNeg) hx hb hK hP ix_3 rfl dX7_passes_40 ?_
          have ix_4 : vp_in x2_2 12 := ix_of (by omega) (by omega)
          refine a7_badly (j := x2_2.toNatClampNeg) hx hb hK hP hd hS ix_4 rfl dX7_passes_41 (fun H locs hP hS => ?_)
          obtain ⟨wn_4, hwn_4⟩ : ∃ x, x = st w_2 6 (x2_2.toNatClampNeg) (w_2 19 ((w_2 22 0).toNatClampNeg)) := ⟨_, rfl⟩
          rw [← hwn_4] at hP
          have E := bns_e E hwn_4
          have ft4_cursor : (wn_4 22 0).toInt = (w_2 22 0).toInt := by rw [hwn_4]; rfl
          have fv_4 : (wn_4 6 (x2_2.toNatClampNeg)).toInt = (w_2 19 ((w_2 22 0).toNatClampNeg) : Int32).toInt := by rw [hwn_4, st_rd]
          refine lv_aload_n hx hb dX7_passes_42 rfl (lv_at hl 1 rfl) ?_
          refine lv_dup hx hb dX7_passes_43 rfl ?_
          refine g7_cursor hx hb hts hin hown hK hP (hts (.fieldLink RX7 140 "LoadedForTheLaneModel" "cursor" "I") (by decide +kernel)) dX7_passes_44 ?_
          refine lv_iconst (v := 1) hx hb dX7_passes_47 (by decide) ?_
          refine lv_iadd hx hb dX7_passes_48 ?_
          refine p7_cursor hx hb hts hin hown hK hP hd hS (hts (.fieldLink RX7 140 "LoadedForTheLaneModel" "cursor" "I") (by decide +kernel)) dX7_passes_49 (fun H locs hP hS => ?_)
          obtain ⟨wn_5, hwn_5⟩ : ∃ x, x = st wn_4 22 0 ((wn_4 22 0) + 1) := ⟨_, rfl⟩
          rw [← hwn_5] at hP
          have E := bns_e E hwn_5
          have ft5_cursor : (wn_5 22 0).toInt = ((wn_4 22 0) + 1 : Int32).toInt := by rw [hwn_5]; rfl
          have := i_addr (a := wn_4 22 0) (b := 1) (n := 1) q_1 (by omega) (by omega)
          refine lv_iinc (v := x2_2 + 1) (lv' := [(2, .int (x2_2 + 1)), (0, .ref (ad 0)), (1, .ref (ad 7))]) hx hb dX7_passes_52 hl (k := 0) rfl rfl (by decide) rfl (fun ls hl => ?_)
          refine lv_goto (tgt := 2) hx hb dX7_passes_55 (by decide) ?_
          try have := i_addr (a := x2_2) (b := 1) (n := 1) q_1 (by omega) (by omega)
          exact ih_2 (x2_2 + 1) wn_5 H locs ls ⟨by omega, by omega, by omega⟩ (by omega) hP hS (lv_sub hl [0, 1, 2] rfl) E
        · have E := E.trans (if_neg c_2)
          have fc_2 := i_ne c_2
          rw [q_0] at fc_2
          refine lv_aload_n hx hb dX7_passes_15 rfl (lv_at hl 1 rfl) ?_
          refine g7_kept hx hb hts hin hown hK hP (hts (.fieldLink RX7 55 "LoadedForTheLaneModel" "kept" "[I") (by decide +kernel)) dX7_passes_16 ?_
          refine lv_aload_n hx hb dX7_passes_19 rfl (lv_at hl 1 rfl) ?_
          refine g7_cursor hx hb hts hin hown hK hP (hts (.fieldLink RX7 140 "LoadedForTheLaneModel" "cursor" "I") (by decide +kernel)) dX7_passes_20 ?_
          refine lv_aload_n hx hb dX7_passes_23 rfl (lv_at hl 2 rfl) ?_
          refine lv_iload_n hx hb dX7_passes_24 rfl (lv_at hl 0 rfl) ?_
          have ix_6 : vp_in x2_2 12 := ix_of (by omega) (by omega)
          refine l7_badly (j := x2_2.toNatClampNeg) hx hb hK hP ix_6 rfl dX7_passes_25 ?_
          have ix_7 : vp_in (w_2 22 0) 250 := ix_of (by omega) (by omega)
          refine a7_kept (j := (w_2 22 0).toNatClampNeg) hx hb hK hP hd hS ix_7 rfl dX7_passes_26 (fun H locs hP hS => ?_)
          obtain ⟨wn_7, hwn_7⟩ : ∃ x, x = st w_2 19 ((w_2 22 0).toNatClampNeg) (w_2 6 (x2_2.toNatClampNeg)) := ⟨_, rfl⟩
          rw [← hwn_7] at hP
          have E := bns_e E hwn_7
          have ft7_cursor : (wn_7 22 0).toInt = (w_2 22 0).toInt := by rw [hwn_7]; rfl
          have fv_7 : (wn_7 19 ((w_2 22 0).toNatClampNeg)).toInt = (w_2 6 (x2_2.toNatClampNeg) : Int32).toInt := by rw [hwn_7, st_rd]
          refine lv_goto (tgt := 42) hx hb dX7_passes_27 (by decide) ?_
          refine lv_aload_n hx hb dX7_passes_42 rfl (lv_at hl 1 rfl) ?_
          refine lv_dup hx hb dX7_passes_43 rfl ?_
          refine g7_cursor hx hb hts hin hown hK hP (hts (.fieldLink RX7 140 "LoadedForTheLaneModel" "cursor" "I") (by decide +kernel)) dX7_passes_44 ?_
          refine lv_iconst (v := 1) hx hb dX7_passes_47 (by decide) ?_
          refine lv_iadd hx hb dX7_passes_48 ?_
          refine p7_cursor hx hb hts hin hown hK hP hd hS (hts (.fieldLink RX7 140 "LoadedForTheLaneModel" "cursor" "I") (by decide +kernel)) dX7_passes_49 (fun H locs hP hS => ?_)
          obtain ⟨wn_8, hwn_8⟩ : ∃ x, x = st wn_7 22 0 ((wn_7 22 0) + 1) := ⟨_, rfl⟩
          rw [← hwn_8] at hP
          have E := bns_e E hwn_8
          have ft8_cursor : (wn_8 22 0).toInt = ((wn_7 22 0) + 1 : Int32).toInt := by rw [hwn_8]; rfl
          have := i_addr (a := wn_7 22 0) (b := 1) (n := 1) q_1 (by omega) (by omega)
          refine lv_iinc (v := x2_2 + 1) (lv' := [(2, .int (x2_2 + 1)), (0, .ref (ad 0)), (1, .ref (ad 7))]) hx hb dX7_passes_52 hl (k := 0) rfl rfl (by decide) rfl (fun ls hl => ?_)
          refine lv_goto (tgt := 2) hx hb dX7_passes_55 (by decide) ?_
          try have := i_addr (a := x2_2) (b := 1) (n := 1) q_1 (by omega) (by omega)
          exact ih_2 (x2_2 + 1) wn_8 H locs ls ⟨by omega, by omega, by omega⟩ (by omega) hP hS (lv_sub hl [0, 1, 2] rfl) E
  have := q_0
  exact L_2 13 0 w H locs ls ⟨by omega, by omega, by omega⟩ (by omega) hP hS (lv_sub hl [0, 1, 2] rfl) E

set_option maxHeartbeats 4000000 in
set_option maxRecDepth 100000 in
theorem kX7_passes_sort (l : Launch) (D : va_G) (cI : ClassId) (ad : Nat → Nat) (w : Nat → Nat → Int32) (hd : RD ad) (h1 : 0 ≤ (w 22 0).toInt) (h2 : (w 22 0).toInt ≤ 238) : Met l yX7_passes wsX7_passes rmX7_passes (va_Pc [Value.ref (ad 0), Value.ref (ad 8)] (fun U => va_P D vwCl (RM cI ad w) U.heap ∧ va_K D vwCl [(cI, .int)] U)) (va_Qv (fun u => u = sX7_passes_sort w ∧ ((u 22 0).toInt = (w 22 0).toInt + 12)) (fun u t => va_P D vwCl (RM cI ad u) t.heap) (RA ad)) 0 0 (RA ad) := by
  refine Met.ofW (cc := cX7_passes) (maxL := 3) (ret := none) (by decide) rfl ?_
  intro p e s m args below meth c s₁ B hml hv
  obtain ⟨rfl, hP, hK⟩ := hv
  have hx := B.exec
  have hb := B.bytes
  have hr := B.returns
  have hts := atoms_spec (ws := wsX7_passes) B.pre
  have hown : s.vm.findClass RX7 = some m.cls := findClass_of_methodNamed B.named
  have hlocks := B.notSynchronized
  have hin : ∀ q ∈ wsX70, q ∈ wsX7_passes := by decide +kernel
  have hl := lv_entry ([.ref (ad 0), .ref (ad 8)]) (n := 3) (Nat.le_of_ble_eq_true rfl)
  rw [lg_entry_eq]
  generalize (lg_sl ([.ref (ad 0), .ref (ad 8)]) ++ List.replicate (3 - (lg_sl ([.ref (ad 0), .ref (ad 8)])).length) Slot.unset).toArray = ls at hl ⊢
  have hl : lv_has ls 3 [(0, .ref (ad 0)), (1, .ref (ad 8))] := hl
  suffices hgo : ∀ (H : Heap) (locs : List Loc), va_P D vwCl (RM cI ad w) H → va_S (RA ad) s.heap H locs → W p l e (headSpec wsX7_passes rmX7_passes).room s m [Value.ref (ad 0), Value.ref (ad 8)].toArray below meth c H locs 0 0 (MQ below (va_Qv (fun u => u = sX7_passes_sort w ∧ ((u 22 0).toInt = (w 22 0).toInt + 12)) (fun u t => va_P D vwCl (RM cI ad u) t.heap) (RA ad)) [Value.ref (ad 0), Value.ref (ad 8)].toArray s 0 0 (RA ad)) (F0 m 0 ls []) from hgo s.heap [] hP va_S.rf
  intro H locs hP hS
  have E := sX7_passes_sort.eq_1 w
  refine lv_iconst (v := 0) hx hb dX7_passes_0 (by decide) ?_
  refine lv_istore_n (lv' := [(2, .int 0), (0, .ref (ad 0)), (1, .ref (ad 8))]) hx hb dX7_passes_1 rfl hl (by decide) rfl (fun ls hl => ?_)
  have L_2 : ∀ (n_2 : Nat) (x2_2 : Int32) (w_2 : Nat → Nat → Int32) (H : Heap) (locs : List Loc) (ls : Array Slot), ((0 ≤ x2_2.toInt) ∧ (x2_2.toInt ≤ 12) ∧ ((w_2 22 0).toInt = (w 22 0).toInt + x2_2.toInt)) → (12 - x2_2.toInt < (n_2 : Int)) → va_P D vwCl (RM cI ad w_2) H → va_S (RA ad) s.heap H locs → lv_has ls 3 [(2, .int x2_2), (0, .ref (ad 0)), (1, .ref (ad 8))] → sX7_passes_sort w = sX7_passes_sort_2 n_2 x2_2 w_2 → W p l e (headSpec wsX7_passes rmX7_passes).room s m [Value.ref (ad 0), Value.ref (ad 8)].toArray below meth c H locs 0 0 (MQ below (va_Qv (fun u => u = sX7_passes_sort w ∧ ((u 22 0).toInt = (w 22 0).toInt + 12)) (fun u t => va_P D vwCl (RM cI ad u) t.heap) (RA ad)) [Value.ref (ad 0), Value.ref (ad 8)].toArray s 0 0 (RA ad)) (F0 m 2 ls []) := by
    intro n_2
    induction n_2 with
    | zero =>
      intro x2_2 w_2 H locs ls hinv hm
      obtain ⟨v0_2, v1_2, v2_2⟩ := hinv
      exact absurd hm (by omega)
    | succ n_2 ih_2 =>
      intro x2_2 w_2 H locs ls hinv hm_2 hP hS hl E
      obtain ⟨v0_2, v1_2, v2_2⟩ := hinv
      have E := E.trans (sX7_passes_sort_2.eq_2 ..)
      refine lv_iload_n hx hb dX7_passes_2 rfl (lv_at hl 0 rfl) ?_
      refine lv_aload_n hx hb dX7_passes_3 rfl (lv_at hl 2 rfl) ?_
      refine n7_sort (v := 12) hx hb hK hP (by decide) dX7_passes_4 ?_
      refine lv_icmp_ge (tgt := 58) hx hb dX7_passes_5 (by decide) (fun c_1 => ?_) (fun c_1 => ?_)
      · have E := E.trans (if_pos c_1)
        have fc_1 := i_le c_1
        rw [q_12] at fc_1
        exact W.vret hx hb hr (fun t ht hW => ⟨⟨w_2, rfl, ⟨E.symm, by omega⟩, by show va_P _ _ _ t.heap; rw [ht]; exact hP⟩, hS.F ht⟩) hS.2.2 dX7_passes_58
      · have E := E.trans (if_neg c_1)
        have fc_1 := i_nle c_1
        rw [q_12] at fc_1
        refine lv_aload_n hx hb dX7_passes_8 rfl (lv_at hl 1 rfl) ?_
        refine g7_isKeeping hx hb hts hin hown hK hP (hts (.fieldLink RX7 136 "LoadedForTheLaneModel" "isKeeping" "Z") (by decide +kernel)) dX7_passes_9 ?_
        refine lv_if_eq (tgt := 30) hx hb dX7_passes_12 (by decide) (fun c_2 => ?_) (fun c_2 => ?_)
        · have E := E.trans (if_pos c_2)
          have fc_2 := i_eq c_2
          rw [q_0] at fc_2
          refine lv_aload_n hx hb dX7_passes_30 rfl (lv_at hl 2 rfl) ?_
          refine lv_iload_n hx hb dX7_passes_31 rfl (lv_at hl 0 rfl) ?_
          refine lv_aload_n hx hb dX7_passes_32 rfl (lv_at hl 1 rfl) ?_
          refine g7_kept hx hb hts hin hown hK hP (hts (.fieldLink RX7 55 "LoadedForTheLaneModel" "kept" "[I") (by decide +kernel)) dX7_passes_33 ?_
          refine lv_aload_n hx hb dX7_passes_36 rfl (lv_at hl 1 rfl) ?_
          refine g7_cursor hx hb hts hin hown hK hP (hts (.fieldLink RX7 140 "LoadedForTheLaneModel" "cursor" "I") (by decide +kernel)) dX7_passes_37 ?_
          have ix_3 : vp_in (w_2 22 0) 250 := ix_of (by omega) (by omega)
          refine l7_kept (j := (w_2 22 0).toNatClampNeg) hx hb hK hP ix_3 rfl dX7_passes_40 ?_
          have ix_4 : vp_in x2_2 12 := ix_of (by omega) (by omega)
          refine a7_sort (j := x2_2.toNatClampNeg) hx hb hK hP hd hS ix_4 rfl dX7_passes_41 (fun H locs hP hS => ?_)
          obtain ⟨wn_4, hwn_4⟩ : ∃ x, x = st w_2 7 (x2_2.toNatClampNeg) (w_2 19 ((w_2 22 0).toNatClampNeg)) := ⟨_, rfl⟩
          rw [← hwn_4] at hP
          have E := bns_e E hwn_4
          have ft4_cursor : (wn_4 22 0).toInt = (w_2 22 0).toInt := by rw [hwn_4]; rfl
          have fv_4 : (wn_4 7 (x2_2.toNatClampNeg)).toInt = (w_2 19 ((w_2 22 0).toNatClampNeg) : Int32).toInt := by rw [hwn_4, st_rd]
          refine lv_aload_n hx hb dX7_passes_42 rfl (lv_at hl 1 rfl) ?_
          refine lv_dup hx hb dX7_passes_43 rfl ?_
          refine g7_cursor hx hb hts hin hown hK hP (hts (.fieldLink RX7 140 "LoadedForTheLaneModel" "cursor" "I") (by decide +kernel)) dX7_passes_44 ?_
          refine lv_iconst (v := 1) hx hb dX7_passes_47 (by decide) ?_
          refine lv_iadd hx hb dX7_passes_48 ?_
          refine p7_cursor hx hb hts hin hown hK hP hd hS (hts (.fieldLink RX7 140 "LoadedForTheLaneModel" "cursor" "I") (by decide +kernel)) dX7_passes_49 (fun H locs hP hS => ?_)
          obtain ⟨wn_5, hwn_5⟩ : ∃ x, x = st wn_4 22 0 ((wn_4 22 0) + 1) := ⟨_, rfl⟩
          rw [← hwn_5] at hP
          have E := bns_e E hwn_5
          have ft5_cursor : (wn_5 22 0).toInt = ((wn_4 22 0) + 1 : Int32).toInt := by rw [hwn_5]; rfl
          have := i_addr (a := wn_4 22 0) (b := 1) (n := 1) q_1 (by omega) (by omega)
          refine lv_iinc (v := x2_2 + 1) (lv' := [(2, .int (x2_2 + 1)), (0, .ref (ad 0)), (1, .ref (ad 8))]) hx hb dX7_passes_52 hl (k := 0) rfl rfl (by decide) rfl (fun ls hl => ?_)
          refine lv_goto (tgt := 2) hx hb dX7_passes_55 (by decide) ?_
          try have := i_addr (a := x2_2) (b := 1) (n := 1) q_1 (by omega) (by omega)
          exact ih_2 (x2_2 + 1) wn_5 H locs ls ⟨by omega, by omega, by omega⟩ (by omega) hP hS (lv_sub hl [0, 1, 2] rfl) E
        · have E := E.trans (if_neg c_2)
          have fc_2 := i_ne c_2
          rw [q_0] at fc_2
          refine lv_aload_n hx hb dX7_passes_15 rfl (lv_at hl 1 rfl) ?_
          refine g7_kept hx hb hts hin hown hK hP (hts (.fieldLink RX7 55 "LoadedForTheLaneModel" "kept" "[I") (by decide +kernel)) dX7_passes_16 ?_
          refine lv_aload_n hx hb dX7_passes_19 rfl (lv_at hl 1 rfl) ?_
          refine g7_cursor hx hb hts hin hown hK hP (hts (.fieldLink RX7 140 "LoadedForTheLaneModel" "cursor" "I") (by decide +kernel)) dX7_passes_20 ?_
          refine lv_aload_n hx hb dX7_passes_23 rfl (lv_at hl 2 rfl) ?_
          refine lv_iload_n hx hb dX7_passes_24 rfl (lv_at hl 0 rfl) ?_
          have ix_6 : vp_in x2_2 12 := ix_of (by omega) (by omega)
          refine l7_sort (j := x2_2.toNatClampNeg) hx hb hK hP ix_6 rfl dX7_passes_25 ?_
          have ix_7 : vp_in (w_2 22 0) 250 := ix_of (by omega) (by omega)
          refine a7_kept (j := (w_2 22 0).toNatClampNeg) hx hb hK hP hd hS ix_7 rfl dX7_passes_26 (fun H locs hP hS => ?_)
          obtain ⟨wn_7, hwn_7⟩ : ∃ x, x = st w_2 19 ((w_2 22 0).toNatClampNeg) (w_2 7 (x2_2.toNatClampNeg)) := ⟨_, rfl⟩
          rw [← hwn_7] at hP
          have E := bns_e E hwn_7
          have ft7_cursor : (wn_7 22 0).toInt = (w_2 22 0).toInt := by rw [hwn_7]; rfl
          have fv_7 : (wn_7 19 ((w_2 22 0).toNatClampNeg)).toInt = (w_2 7 (x2_2.toNatClampNeg) : Int32).toInt := by rw [hwn_7, st_rd]
          refine lv_goto (tgt := 42) hx hb dX7_passes_27 (by decide) ?_
          refine lv_aload_n hx hb dX7_passes_42 rfl (lv_at hl 1 rfl) ?_
          refine lv_dup hx hb dX7_passes_43 rfl ?_
          refine g7_cursor hx hb hts hin hown hK hP (hts (.fieldLink RX7 140 "LoadedForTheLaneModel" "cursor" "I") (by decide +kernel)) dX7_passes_44 ?_
          refine lv_iconst (v := 1) hx hb dX7_passes_47 (by decide) ?_
          refine lv_iadd hx hb dX7_passes_48 ?_
          refine p7_cursor hx hb hts hin hown hK hP hd hS (hts (.fieldLink RX7 140 "LoadedForTheLaneModel" "cursor" "I") (by decide +kernel)) dX7_passes_49 (fun H locs hP hS => ?_)
          obtain ⟨wn_8, hwn_8⟩ : ∃ x, x = st wn_7 22 0 ((wn_7 22 0) + 1) := ⟨_, rfl⟩
          rw [← hwn_8] at hP
          have E := bns_e E hwn_8
          have ft8_cursor : (wn_8 22 0).toInt = ((wn_7 22 0) + 1 : Int32).toInt := by rw [hwn_8]; rfl
          have := i_addr (a := wn_7 22 0) (b := 1) (n := 1) q_1 (by omega) (by omega)
          refine lv_iinc (v := x2_2 + 1) (lv' := [(2, .int (x2_2 + 1)), (0, .ref (ad 0)), (1, .ref (ad 8))]) hx hb dX7_passes_52 hl (k := 0) rfl rfl (by decide) rfl (fun ls hl => ?_)
          refine lv_goto (tgt := 2) hx hb dX7_passes_55 (by decide) ?_
          try have := i_addr (a := x2_2) (b := 1) (n := 1) q_1 (by omega) (by omega)
          exact ih_2 (x2_2 + 1) wn_8 H locs ls ⟨by omega, by omega, by omega⟩ (by omega) hP hS (lv_sub hl [0, 1, 2] rfl) E
  have := q_0
  exact L_2 13 0 w H locs ls ⟨by omega, by omega, by omega⟩ (by omega) hP hS (lv_sub hl [0, 1, 2] rfl) E

set_option maxHeartbeats 4000000 in
set_option maxRecDepth 100000 in
theorem kX7_passes_figure (l : Launch) (D : va_G) (cI : ClassId) (ad : Nat → Nat) (w : Nat → Nat → Int32) (hd : RD ad) (h1 : 0 ≤ (w 22 0).toInt) (h2 : (w 22 0).toInt ≤ 238) : Met l yX7_passes wsX7_passes rmX7_passes (va_Pc [Value.ref (ad 0), Value.ref (ad 9)] (fun U => va_P D vwCl (RM cI ad w) U.heap ∧ va_K D vwCl [(cI, .int)] U)) (va_Qv (fun u => u = sX7_passes_figure w ∧ ((u 22 0).toInt = (w 22 0).toInt + 12)) (fun u t => va_P D vwCl (RM cI ad u) t.heap) (RA ad)) 0 0 (RA ad) := by
  refine Met.ofW (cc := cX7_passes) (maxL := 3) (ret := none) (by decide) rfl ?_
  intro p e s m args below meth c s₁ B hml hv
  obtain ⟨rfl, hP, hK⟩ := hv
  have hx := B.exec
  have hb := B.bytes
  have hr := B.returns
  have hts := atoms_spec (ws := wsX7_passes) B.pre
  have hown : s.vm.findClass RX7 = some m.cls := findClass_of_methodNamed B.named
  have hlocks := B.notSynchronized
  have hin : ∀ q ∈ wsX70, q ∈ wsX7_passes := by decide +kernel
  have hl := lv_entry ([.ref (ad 0), .ref (ad 9)]) (n := 3) (Nat.le_of_ble_eq_true rfl)
  rw [lg_entry_eq]
  generalize (lg_sl ([.ref (ad 0), .ref (ad 9)]) ++ List.replicate (3 - (lg_sl ([.ref (ad 0), .ref (ad 9)])).length) Slot.unset).toArray = ls at hl ⊢
  have hl : lv_has ls 3 [(0, .ref (ad 0)), (1, .ref (ad 9))] := hl
  suffices hgo : ∀ (H : Heap) (locs : List Loc), va_P D vwCl (RM cI ad w) H → va_S (RA ad) s.heap H locs → W p l e (headSpec wsX7_passes rmX7_passes).room s m [Value.ref (ad 0), Value.ref (ad 9)].toArray below meth c H locs 0 0 (MQ below (va_Qv (fun u => u = sX7_passes_figure w ∧ ((u 22 0).toInt = (w 22 0).toInt + 12)) (fun u t => va_P D vwCl (RM cI ad u) t.heap) (RA ad)) [Value.ref (ad 0), Value.ref (ad 9)].toArray s 0 0 (RA ad)) (F0 m 0 ls []) from hgo s.heap [] hP va_S.rf
  intro H locs hP hS
  have E := sX7_passes_figure.eq_1 w
  refine lv_iconst (v := 0) hx hb dX7_passes_0 (by decide) ?_
  refine lv_istore_n (lv' := [(2, .int 0), (0, .ref (ad 0)), (1, .ref (ad 9))]) hx hb dX7_passes_1 rfl hl (by decide) rfl (fun ls hl => ?_)
  have L_2 : ∀ (n_2 : Nat) (x2_2 : Int32) (w_2 : Nat → Nat → Int32) (H : Heap) (locs : List Loc) (ls : Array Slot), ((0 ≤ x2_2.toInt) ∧ (x2_2.toInt ≤ 12) ∧ ((w_2 22 0).toInt = (w 22 0).toInt + x2_2.toInt)) → (12 - x2_2.toInt < (n_2 : Int)) → va_P D vwCl (RM cI ad w_2) H → va_S (RA ad) s.heap H locs → lv_has ls 3 [(2, .int x2_2), (0, .ref (ad 0)), (1, .ref (ad 9))] → sX7_passes_figure w = sX7_passes_figure_2 n_2 x2_2 w_2 → W p l e (headSpec wsX7_passes rmX7_passes).room s m [Value.ref (ad 0), Value.ref (ad 9)].toArray below meth c H locs 0 0 (MQ below (va_Qv (fun u => u = sX7_passes_figure w ∧ ((u 22 0).toInt = (w 22 0).toInt + 12)) (fun u t => va_P D vwCl (RM cI ad u) t.heap) (RA ad)) [Value.ref (ad 0), Value.ref (ad 9)].toArray s 0 0 (RA ad)) (F0 m 2 ls []) := by
    intro n_2
    induction n_2 with
    | zero =>
      intro x2_2 w_2 H locs ls hinv hm
      obtain ⟨v0_2, v1_2, v2_2⟩ := hinv
      exact absurd hm (by omega)
    | succ n_2 ih_2 =>
      intro x2_2 w_2 H locs ls hinv hm_2 hP hS hl E
      obtain ⟨v0_2, v1_2, v2_2⟩ := hinv
      have E := E.trans (sX7_passes_figure_2.eq_2 ..)
      refine lv_iload_n hx hb dX7_passes_2 rfl (lv_at hl 0 rfl) ?_
      refine lv_aload_n hx hb dX7_passes_3 rfl (lv_at hl 2 rfl) ?_
      refine n7_figure (v := 12) hx hb hK hP (by decide) dX7_passes_4 ?_
      refine lv_icmp_ge (tgt := 58) hx hb dX7_passes_5 (by decide) (fun c_1 => ?_) (fun c_1 => ?_)
      · have E := E.trans (if_pos c_1)
        have fc_1 := i_le c_1
        rw [q_12] at fc_1
        exact W.vret hx hb hr (fun t ht hW => ⟨⟨w_2, rfl, ⟨E.symm, by omega⟩, by show va_P _ _ _ t.heap; rw [ht]; exact hP⟩, hS.F ht⟩) hS.2.2 dX7_passes_58
      · have E := E.trans (if_neg c_1)
        have fc_1 := i_nle c_1
        rw [q_12] at fc_1
        refine lv_aload_n hx hb dX7_passes_8 rfl (lv_at hl 1 rfl) ?_
        refine g7_isKeeping hx hb hts hin hown hK hP (hts (.fieldLink RX7 136 "LoadedForTheLaneModel" "isKeeping" "Z") (by decide +kernel)) dX7_passes_9 ?_
        refine lv_if_eq (tgt := 30) hx hb dX7_passes_12 (by decide) (fun c_2 => ?_) (fun c_2 => ?_)
        · have E := E.trans (if_pos c_2)
          have fc_2 := i_eq c_2
          rw [q_0] at fc_2
          refine lv_aload_n hx hb dX7_passes_30 rfl (lv_at hl 2 rfl) ?_
          refine lv_iload_n hx hb dX7_passes_31 rfl (lv_at hl 0 rfl) ?_
          refine lv_aload_n hx hb dX7_passes_32 rfl (lv_at hl 1 rfl) ?_
          refine g7_kept hx hb hts hin hown hK hP (hts (.fieldLink RX7 55 "LoadedForTheLaneModel" "kept" "[I") (by decide +kernel)) dX7_passes_33 ?_
          refine lv_aload_n hx hb dX7_passes_36 rfl (lv_at hl 1 rfl) ?_
          refine g7_cursor hx hb hts hin hown hK hP (hts (.fieldLink RX7 140 "LoadedForTheLaneModel" "cursor" "I") (by decide +kernel)) dX7_passes_37 ?_
          have ix_3 : vp_in (w_2 22 0) 250 := ix_of (by omega) (by omega)
          refine l7_kept (j := (w_2 22 0).toNatClampNeg) hx hb hK hP ix_3 rfl dX7_passes_40 ?_
          have ix_4 : vp_in x2_2 12 := ix_of (by omega) (by omega)
          refine a7_figure (j := x2_2.toNatClampNeg) hx hb hK hP hd hS ix_4 rfl dX7_passes_41 (fun H locs hP hS => ?_)
          obtain ⟨wn_4, hwn_4⟩ : ∃ x, x = st w_2 8 (x2_2.toNatClampNeg) (w_2 19 ((w_2 22 0).toNatClampNeg)) := ⟨_, rfl⟩
          rw [← hwn_4] at hP
          have E := bns_e E hwn_4
          have ft4_cursor : (wn_4 22 0).toInt = (w_2 22 0).toInt := by rw [hwn_4]; rfl
          have fv_4 : (wn_4 8 (x2_2.toNatClampNeg)).toInt = (w_2 19 ((w_2 22 0).toNatClampNeg) : Int32).toInt := by rw [hwn_4, st_rd]
          refine lv_aload_n hx hb dX7_passes_42 rfl (lv_at hl 1 rfl) ?_
          refine lv_dup hx hb dX7_passes_43 rfl ?_
          refine g7_cursor hx hb hts hin hown hK hP (hts (.fieldLink RX7 140 "LoadedForTheLaneModel" "cursor" "I") (by decide +kernel)) dX7_passes_44 ?_
          refine lv_iconst (v := 1) hx hb dX7_passes_47 (by decide) ?_
          refine lv_iadd hx hb dX7_passes_48 ?_
          refine p7_cursor hx hb hts hin hown hK hP hd hS (hts (.fieldLink RX7 140 "LoadedForTheLaneModel" "cursor" "I") (by decide +kernel)) dX7_passes_49 (fun H locs hP hS => ?_)
          obtain ⟨wn_5, hwn_5⟩ : ∃ x, x = st wn_4 22 0 ((wn_4 22 0) + 1) := ⟨_, rfl⟩
          rw [← hwn_5] at hP
          have E := bns_e E hwn_5
          have ft5_cursor : (wn_5 22 0).toInt = ((wn_4 22 0) + 1 : Int32).toInt := by rw [hwn_5]; rfl
          have := i_addr (a := wn_4 22 0) (b := 1) (n := 1) q_1 (by omega) (by omega)
          refine lv_iinc (v := x2_2 + 1) (lv' := [(2, .int (x2_2 + 1)), (0, .ref (ad 0)), (1, .ref (ad 9))]) hx hb dX7_passes_52 hl (k := 0) rfl rfl (by decide) rfl (fun ls hl => ?_)
          refine lv_goto (tgt := 2) hx hb dX7_passes_55 (by decide) ?_
          try have := i_addr (a := x2_2) (b := 1) (n := 1) q_1 (by omega) (by omega)
          exact ih_2 (x2_2 + 1) wn_5 H locs ls ⟨by omega, by omega, by omega⟩ (by omega) hP hS (lv_sub hl [0, 1, 2] rfl) E
        · have E := E.trans (if_neg c_2)
          have fc_2 := i_ne c_2
          rw [q_0] at fc_2
          refine lv_aload_n hx hb dX7_passes_15 rfl (lv_at hl 1 rfl) ?_
          refine g7_kept hx hb hts hin hown hK hP (hts (.fieldLink RX7 55 "LoadedForTheLaneModel" "kept" "[I") (by decide +kernel)) dX7_passes_16 ?_
          refine lv_aload_n hx hb dX7_passes_19 rfl (lv_at hl 1 rfl) ?_
          refine g7_cursor hx hb hts hin hown hK hP (hts (.fieldLink RX7 140 "LoadedForTheLaneModel" "cursor" "I") (by decide +kernel)) dX7_passes_20 ?_
          refine lv_aload_n hx hb dX7_passes_23 rfl (lv_at hl 2 rfl) ?_
          refine lv_iload_n hx hb dX7_passes_24 rfl (lv_at hl 0 rfl) ?_
          have ix_6 : vp_in x2_2 12 := ix_of (by omega) (by omega)
          refine l7_figure (j := x2_2.toNatClampNeg) hx hb hK hP ix_6 rfl dX7_passes_25 ?_
          have ix_7 : vp_in (w_2 22 0) 250 := ix_of (by omega) (by omega)
          refine a7_kept (j := (w_2 22 0).toNatClampNeg) hx hb hK hP hd hS ix_7 rfl dX7_passes_26 (fun H locs hP hS => ?_)
          obtain ⟨wn_7, hwn_7⟩ : ∃ x, x = st w_2 19 ((w_2 22 0).toNatClampNeg) (w_2 8 (x2_2.toNatClampNeg)) := ⟨_, rfl⟩
          rw [← hwn_7] at hP
          have E := bns_e E hwn_7
          have ft7_cursor : (wn_7 22 0).toInt = (w_2 22 0).toInt := by rw [hwn_7]; rfl
          have fv_7 : (wn_7 19 ((w_2 22 0).toNatClampNeg)).toInt = (w_2 8 (x2_2.toNatClampNeg) : Int32).toInt := by rw [hwn_7, st_rd]
          refine lv_goto (tgt := 42) hx hb dX7_passes_27 (by decide) ?_
          refine lv_aload_n hx hb dX7_passes_42 rfl (lv_at hl 1 rfl) ?_
          refine lv_dup hx hb dX7_passes_43 rfl ?_
          refine g7_cursor hx hb hts hin hown hK hP (hts (.fieldLink RX7 140 "LoadedForTheLaneModel" "cursor" "I") (by decide +kernel)) dX7_passes_44 ?_
          refine lv_iconst (v := 1) hx hb dX7_passes_47 (by decide) ?_
          refine lv_iadd hx hb dX7_passes_48 ?_
          refine p7_cursor hx hb hts hin hown hK hP hd hS (hts (.fieldLink RX7 140 "LoadedForTheLaneModel" "cursor" "I") (by decide +kernel)) dX7_passes_49 (fun H locs hP hS => ?_)
          obtain ⟨wn_8, hwn_8⟩ : ∃ x, x = st wn_7 22 0 ((wn_7 22 0) + 1) := ⟨_, rfl⟩
          rw [← hwn_8] at hP
          have E := bns_e E hwn_8
          have ft8_cursor : (wn_8 22 0).toInt = ((wn_7 22 0) + 1 : Int32).toInt := by rw [hwn_8]; rfl
          have := i_addr (a := wn_7 22 0) (b := 1) (n := 1) q_1 (by omega) (by omega)
          refine lv_iinc (v := x2_2 + 1) (lv' := [(2, .int (x2_2 + 1)), (0, .ref (ad 0)), (1, .ref (ad 9))]) hx hb dX7_passes_52 hl (k := 0) rfl rfl (by decide) rfl (fun ls hl => ?_)
          refine lv_goto (tgt := 2) hx hb dX7_passes_55 (by decide) ?_
          try have := i_addr (a := x2_2) (b := 1) (n := 1) q_1 (by omega) (by omega)
          exact ih_2 (x2_2 + 1) wn_8 H locs ls ⟨by omega, by omega, by omega⟩ (by omega) hP hS (lv_sub hl [0, 1, 2] rfl) E
  have := q_0
  exact L_2 13 0 w H locs ls ⟨by omega, by omega, by omega⟩ (by omega) hP hS (lv_sub hl [0, 1, 2] rfl) E

set_option maxHeartbeats 4000000 in
set_option maxRecDepth 100000 in
theorem kX7_passes_lasting (l : Launch) (D : va_G) (cI : ClassId) (ad : Nat → Nat) (w : Nat → Nat → Int32) (hd : RD ad) (h1 : 0 ≤ (w 22 0).toInt) (h2 : (w 22 0).toInt ≤ 238) : Met l yX7_passes wsX7_passes rmX7_passes (va_Pc [Value.ref (ad 0), Value.ref (ad 10)] (fun U => va_P D vwCl (RM cI ad w) U.heap ∧ va_K D vwCl [(cI, .int)] U)) (va_Qv (fun u => u = sX7_passes_lasting w ∧ ((u 22 0).toInt = (w 22 0).toInt + 12)) (fun u t => va_P D vwCl (RM cI ad u) t.heap) (RA ad)) 0 0 (RA ad) := by
  refine Met.ofW (cc := cX7_passes) (maxL := 3) (ret := none) (by decide) rfl ?_
  intro p e s m args below meth c s₁ B hml hv
  obtain ⟨rfl, hP, hK⟩ := hv
  have hx := B.exec
  have hb := B.bytes
  have hr := B.returns
  have hts := atoms_spec (ws := wsX7_passes) B.pre
  have hown : s.vm.findClass RX7 = some m.cls := findClass_of_methodNamed B.named
  have hlocks := B.notSynchronized
  have hin : ∀ q ∈ wsX70, q ∈ wsX7_passes := by decide +kernel
  have hl := lv_entry ([.ref (ad 0), .ref (ad 10)]) (n := 3) (Nat.le_of_ble_eq_true rfl)
  rw [lg_entry_eq]
  generalize (lg_sl ([.ref (ad 0), .ref (ad 10)]) ++ List.replicate (3 - (lg_sl ([.ref (ad 0), .ref (ad 10)])).length) Slot.unset).toArray = ls at hl ⊢
  have hl : lv_has ls 3 [(0, .ref (ad 0)), (1, .ref (ad 10))] := hl
  suffices hgo : ∀ (H : Heap) (locs : List Loc), va_P D vwCl (RM cI ad w) H → va_S (RA ad) s.heap H locs → W p l e (headSpec wsX7_passes rmX7_passes).room s m [Value.ref (ad 0), Value.ref (ad 10)].toArray below meth c H locs 0 0 (MQ below (va_Qv (fun u => u = sX7_passes_lasting w ∧ ((u 22 0).toInt = (w 22 0).toInt + 12)) (fun u t => va_P D vwCl (RM cI ad u) t.heap) (RA ad)) [Value.ref (ad 0), Value.ref (ad 10)].toArray s 0 0 (RA ad)) (F0 m 0 ls []) from hgo s.heap [] hP va_S.rf
  intro H locs hP hS
  have E := sX7_passes_lasting.eq_1 w
  refine lv_iconst (v := 0) hx hb dX7_passes_0 (by decide) ?_
  refine lv_istore_n (lv' := [(2, .int 0), (0, .ref (ad 0)), (1, .ref (ad 10))]) hx hb dX7_passes_1 rfl hl (by decide) rfl (fun ls hl => ?_)
  have L_2 : ∀ (n_2 : Nat) (x2_2 : Int32) (w_2 : Nat → Nat → Int32) (H : Heap) (locs : List Loc) (ls : Array Slot), ((0 ≤ x2_2.toInt) ∧ (x2_2.toInt ≤ 12) ∧ ((w_2 22 0).toInt = (w 22 0).toInt + x2_2.toInt)) → (12 - x2_2.toInt < (n_2 : Int)) → va_P D vwCl (RM cI ad w_2) H → va_S (RA ad) s.heap H locs → lv_has ls 3 [(2, .int x2_2), (0, .ref (ad 0)), (1, .ref (ad 10))] → sX7_passes_lasting w = sX7_passes_lasting_2 n_2 x2_2 w_2 → W p l e (headSpec wsX7_passes rmX7_passes).room s m [Value.ref (ad 0), Value.ref (ad 10)].toArray below meth c H locs 0 0 (MQ below (va_Qv (fun u => u = sX7_passes_lasting w ∧ ((u 22 0).toInt = (w 22 0).toInt + 12)) (fun u t => va_P D vwCl (RM cI ad u) t.heap) (RA ad)) [Value.ref (ad 0), Value.ref (ad 10)].toArray s 0 0 (RA ad)) (F0 m 2 ls []) := by
    intro n_2
    induction n_2 with
    | zero =>
      intro x2_2 w_2 H locs ls hinv hm
      obtain ⟨v0_2, v1_2, v2_2⟩ := hinv
      exact absurd hm (by omega)
    | succ n_2 ih_2 =>
      intro x2_2 w_2 H locs ls hinv hm_2 hP hS hl E
      obtain ⟨v0_2, v1_2, v2_2⟩ := hinv
      have E := E.trans (sX7_passes_lasting_2.eq_2 ..)
      refine lv_iload_n hx hb dX7_passes_2 rfl (lv_at hl 0 rfl) ?_
      refine lv_aload_n hx hb dX7_passes_3 rfl (lv_at hl 2 rfl) ?_
      refine n7_lasting (v := 12) hx hb hK hP (by decide) dX7_passes_4 ?_
      refine lv_icmp_ge (tgt := 58) hx hb dX7_passes_5 (by decide) (fun c_1 => ?_) (fun c_1 => ?_)
      · have E := E.trans (if_pos c_1)
        have fc_1 := i_le c_1
        rw [q_12] at fc_1
        exact W.vret hx hb hr (fun t ht hW => ⟨⟨w_2, rfl, ⟨E.symm, by omega⟩, by show va_P _ _ _ t.heap; rw [ht]; exact hP⟩, hS.F ht⟩) hS.2.2 dX7_passes_58
      · have E := E.trans (if_neg c_1)
        have fc_1 := i_nle c_1
        rw [q_12] at fc_1
        refine lv_aload_n hx hb dX7_passes_8 rfl (lv_at hl 1 rfl) ?_
        refine g7_isKeeping hx hb hts hin hown hK hP (hts (.fieldLink RX7 136 "LoadedForTheLaneModel" "isKeeping" "Z") (by decide +kernel)) dX7_passes_9 ?_
        refine lv_if_eq (tgt := 30) hx hb dX7_passes_12 (by decide) (fun c_2 => ?_) (fun c_2 => ?_)
        · have E := E.trans (if_pos c_2)
          have fc_2 := i_eq c_2
          rw [q_0] at fc_2
          refine lv_aload_n hx hb dX7_passes_30 rfl (lv_at hl 2 rfl) ?_
          refine lv_iload_n hx hb dX7_passes_31 rfl (lv_at hl 0 rfl) ?_
          refine lv_aload_n hx hb dX7_passes_32 rfl (lv_at hl 1 rfl) ?_
          refine g7_kept hx hb hts hin hown hK hP (hts (.fieldLink RX7 55 "LoadedForTheLaneModel" "kept" "[I") (by decide +kernel)) dX7_passes_33 ?_
          refine lv_aload_n hx hb dX7_passes_36 rfl (lv_at hl 1 rfl) ?_
          refine g7_cursor hx hb hts hin hown hK hP (hts (.fieldLink RX7 140 "LoadedForTheLaneModel" "cursor" "I") (by decide +kernel)) dX7_passes_37 ?_
          have ix_3 : vp_in (w_2 22 0) 250 := ix_of (by omega) (by omega)
          refine l7_kept (j := (w_2 22 0).toNatClampNeg) hx hb hK hP ix_3 rfl dX7_passes_40 ?_
          have ix_4 : vp_in x2_2 12 := ix_of (by omega) (by omega)
          refine a7_lasting (j := x2_2.toNatClampNeg) hx hb hK hP hd hS ix_4 rfl dX7_passes_41 (fun H locs hP hS => ?_)
          obtain ⟨wn_4, hwn_4⟩ : ∃ x, x = st w_2 9 (x2_2.toNatClampNeg) (w_2 19 ((w_2 22 0).toNatClampNeg)) := ⟨_, rfl⟩
          rw [← hwn_4] at hP
          have E := bns_e E hwn_4
          have ft4_cursor : (wn_4 22 0).toInt = (w_2 22 0).toInt := by rw [hwn_4]; rfl
          have fv_4 : (wn_4 9 (x2_2.toNatClampNeg)).toInt = (w_2 19 ((w_2 22 0).toNatClampNeg) : Int32).toInt := by rw [hwn_4, st_rd]
          refine lv_aload_n hx hb dX7_passes_42 rfl (lv_at hl 1 rfl) ?_
          refine lv_dup hx hb dX7_passes_43 rfl ?_
          refine g7_cursor hx hb hts hin hown hK hP (hts (.fieldLink RX7 140 "LoadedForTheLaneModel" "cursor" "I") (by decide +kernel)) dX7_passes_44 ?_
          refine lv_iconst (v := 1) hx hb dX7_passes_47 (by decide) ?_
          refine lv_iadd hx hb dX7_passes_48 ?_
          refine p7_cursor hx hb hts hin hown hK hP hd hS (hts (.fieldLink RX7 140 "LoadedForTheLaneModel" "cursor" "I") (by decide +kernel)) dX7_passes_49 (fun H locs hP hS => ?_)
          obtain ⟨wn_5, hwn_5⟩ : ∃ x, x = st wn_4 22 0 ((wn_4 22 0) + 1) := ⟨_, rfl⟩
          rw [← hwn_5] at hP
          have E := bns_e E hwn_5
          have ft5_cursor : (wn_5 22 0).toInt = ((wn_4 22 0) + 1 : Int32).toInt := by rw [hwn_5]; rfl
          have := i_addr (a := wn_4 22 0) (b := 1) (n := 1) q_1 (by omega) (by omega)
          refine lv_iinc (v := x2_2 + 1) (lv' := [(2, .int (x2_2 + 1)), (0, .ref (ad 0)), (1, .ref (ad 10))]) hx hb dX7_passes_52 hl (k := 0) rfl rfl (by decide) rfl (fun ls hl => ?_)
          refine lv_goto (tgt := 2) hx hb dX7_passes_55 (by decide) ?_
          try have := i_addr (a := x2_2) (b := 1) (n := 1) q_1 (by omega) (by omega)
          exact ih_2 (x2_2 + 1) wn_5 H locs ls ⟨by omega, by omega, by omega⟩ (by omega) hP hS (lv_sub hl [0, 1, 2] rfl) E
        · have E := E.trans (if_neg c_2)
          have fc_2 := i_ne c_2
          rw [q_0] at fc_2
          refine lv_aload_n hx hb dX7_passes_15 rfl (lv_at hl 1 rfl) ?_
          refine g7_kept hx hb hts hin hown hK hP (hts (.fieldLink RX7 55 "LoadedForTheLaneModel" "kept" "[I") (by decide +kernel)) dX7_passes_16 ?_
          refine lv_aload_n hx hb dX7_passes_19 rfl (lv_at hl 1 rfl) ?_
          refine g7_cursor hx hb hts hin hown hK hP (hts (.fieldLink RX7 140 "LoadedForTheLaneModel" "cursor" "I") (by decide +kernel)) dX7_passes_20 ?_
          refine lv_aload_n hx hb dX7_passes_23 rfl (lv_at hl 2 rfl) ?_
          refine lv_iload_n hx hb dX7_passes_24 rfl (lv_at hl 0 rfl) ?_
          have ix_6 : vp_in x2_2 12 := ix_of (by omega) (by omega)
          refine l7_lasting (j := x2_2.toNatClampNeg) hx hb hK hP ix_6 rfl dX7_passes_25 ?_
          have ix_7 : vp_in (w_2 22 0) 250 := ix_of (by omega) (by omega)
          refine a7_kept (j := (w_2 22 0).toNatClampNeg) hx hb hK hP hd hS ix_7 rfl dX7_passes_26 (fun H locs hP hS => ?_)
          obtain ⟨wn_7, hwn_7⟩ : ∃ x, x = st w_2 19 ((w_2 22 0).toNatClampNeg) (w_2 9 (x2_2.toNatClampNeg)) := ⟨_, rfl⟩
          rw [← hwn_7] at hP
          have E := bns_e E hwn_7
          have ft7_cursor : (wn_7 22 0).toInt = (w_2 22 0).toInt := by rw [hwn_7]; rfl
          have fv_7 : (wn_7 19 ((w_2 22 0).toNatClampNeg)).toInt = (w_2 9 (x2_2.toNatClampNeg) : Int32).toInt := by rw [hwn_7, st_rd]
          refine lv_goto (tgt := 42) hx hb dX7_passes_27 (by decide) ?_
          refine lv_aload_n hx hb dX7_passes_42 rfl (lv_at hl 1 rfl) ?_
          refine lv_dup hx hb dX7_passes_43 rfl ?_
          refine g7_cursor hx hb hts hin hown hK hP (hts (.fieldLink RX7 140 "LoadedForTheLaneModel" "cursor" "I") (by decide +kernel)) dX7_passes_44 ?_
          refine lv_iconst (v := 1) hx hb dX7_passes_47 (by decide) ?_
          refine lv_iadd hx hb dX7_passes_48 ?_
          refine p7_cursor hx hb hts hin hown hK hP hd hS (hts (.fieldLink RX7 140 "LoadedForTheLaneModel" "cursor" "I") (by decide +kernel)) dX7_passes_49 (fun H locs hP hS => ?_)
          obtain ⟨wn_8, hwn_8⟩ : ∃ x, x = st wn_7 22 0 ((wn_7 22 0) + 1) := ⟨_, rfl⟩
          rw [← hwn_8] at hP
          have E := bns_e E hwn_8
          have ft8_cursor : (wn_8 22 0).toInt = ((wn_7 22 0) + 1 : Int32).toInt := by rw [hwn_8]; rfl
          have := i_addr (a := wn_7 22 0) (b := 1) (n := 1) q_1 (by omega) (by omega)
          refine lv_iinc (v := x2_2 + 1) (lv' := [(2, .int (x2_2 + 1)), (0, .ref (ad 0)), (1, .ref (ad 10))]) hx hb dX7_passes_52 hl (k := 0) rfl rfl (by decide) rfl (fun ls hl => ?_)
          refine lv_goto (tgt := 2) hx hb dX7_passes_55 (by decide) ?_
          try have := i_addr (a := x2_2) (b := 1) (n := 1) q_1 (by omega) (by omega)
          exact ih_2 (x2_2 + 1) wn_8 H locs ls ⟨by omega, by omega, by omega⟩ (by omega) hP hS (lv_sub hl [0, 1, 2] rfl) E
  have := q_0
  exact L_2 13 0 w H locs ls ⟨by omega, by omega, by omega⟩ (by omega) hP hS (lv_sub hl [0, 1, 2] rfl) E

set_option maxHeartbeats 4000000 in
set_option maxRecDepth 100000 in
theorem kX7_passes_pieces (l : Launch) (D : va_G) (cI : ClassId) (ad : Nat → Nat) (w : Nat → Nat → Int32) (hd : RD ad) (h1 : 0 ≤ (w 22 0).toInt) (h2 : (w 22 0).toInt ≤ 248) : Met l yX7_passes wsX7_passes rmX7_passes (va_Pc [Value.ref (ad 0), Value.ref (ad 11)] (fun U => va_P D vwCl (RM cI ad w) U.heap ∧ va_K D vwCl [(cI, .int)] U)) (va_Qv (fun u => u = sX7_passes_pieces w ∧ ((u 22 0).toInt = (w 22 0).toInt + 2)) (fun u t => va_P D vwCl (RM cI ad u) t.heap) (RA ad)) 0 0 (RA ad) := by
  refine Met.ofW (cc := cX7_passes) (maxL := 3) (ret := none) (by decide) rfl ?_
  intro p e s m args below meth c s₁ B hml hv
  obtain ⟨rfl, hP, hK⟩ := hv
  have hx := B.exec
  have hb := B.bytes
  have hr := B.returns
  have hts := atoms_spec (ws := wsX7_passes) B.pre
  have hown : s.vm.findClass RX7 = some m.cls := findClass_of_methodNamed B.named
  have hlocks := B.notSynchronized
  have hin : ∀ q ∈ wsX70, q ∈ wsX7_passes := by decide +kernel
  have hl := lv_entry ([.ref (ad 0), .ref (ad 11)]) (n := 3) (Nat.le_of_ble_eq_true rfl)
  rw [lg_entry_eq]
  generalize (lg_sl ([.ref (ad 0), .ref (ad 11)]) ++ List.replicate (3 - (lg_sl ([.ref (ad 0), .ref (ad 11)])).length) Slot.unset).toArray = ls at hl ⊢
  have hl : lv_has ls 3 [(0, .ref (ad 0)), (1, .ref (ad 11))] := hl
  suffices hgo : ∀ (H : Heap) (locs : List Loc), va_P D vwCl (RM cI ad w) H → va_S (RA ad) s.heap H locs → W p l e (headSpec wsX7_passes rmX7_passes).room s m [Value.ref (ad 0), Value.ref (ad 11)].toArray below meth c H locs 0 0 (MQ below (va_Qv (fun u => u = sX7_passes_pieces w ∧ ((u 22 0).toInt = (w 22 0).toInt + 2)) (fun u t => va_P D vwCl (RM cI ad u) t.heap) (RA ad)) [Value.ref (ad 0), Value.ref (ad 11)].toArray s 0 0 (RA ad)) (F0 m 0 ls []) from hgo s.heap [] hP va_S.rf
  intro H locs hP hS
  have E := sX7_passes_pieces.eq_1 w
  refine lv_iconst (v := 0) hx hb dX7_passes_0 (by decide) ?_
  refine lv_istore_n (lv' := [(2, .int 0), (0, .ref (ad 0)), (1, .ref (ad 11))]) hx hb dX7_passes_1 rfl hl (by decide) rfl (fun ls hl => ?_)
  have L_2 : ∀ (n_2 : Nat) (x2_2 : Int32) (w_2 : Nat → Nat → Int32) (H : Heap) (locs : List Loc) (ls : Array Slot), ((0 ≤ x2_2.toInt) ∧ (x2_2.toInt ≤ 2) ∧ ((w_2 22 0).toInt = (w 22 0).toInt + x2_2.toInt)) → (2 - x2_2.toInt < (n_2 : Int)) → va_P D vwCl (RM cI ad w_2) H → va_S (RA ad) s.heap H locs → lv_has ls 3 [(2, .int x2_2), (0, .ref (ad 0)), (1, .ref (ad 11))] → sX7_passes_pieces w = sX7_passes_pieces_2 n_2 x2_2 w_2 → W p l e (headSpec wsX7_passes rmX7_passes).room s m [Value.ref (ad 0), Value.ref (ad 11)].toArray below meth c H locs 0 0 (MQ below (va_Qv (fun u => u = sX7_passes_pieces w ∧ ((u 22 0).toInt = (w 22 0).toInt + 2)) (fun u t => va_P D vwCl (RM cI ad u) t.heap) (RA ad)) [Value.ref (ad 0), Value.ref (ad 11)].toArray s 0 0 (RA ad)) (F0 m 2 ls []) := by
    intro n_2
    induction n_2 with
    | zero =>
      intro x2_2 w_2 H locs ls hinv hm
      obtain ⟨v0_2, v1_2, v2_2⟩ := hinv
      exact absurd hm (by omega)
    | succ n_2 ih_2 =>
      intro x2_2 w_2 H locs ls hinv hm_2 hP hS hl E
      obtain ⟨v0_2, v1_2, v2_2⟩ := hinv
      have E := E.trans (sX7_passes_pieces_2.eq_2 ..)
      refine lv_iload_n hx hb dX7_passes_2 rfl (lv_at hl 0 rfl) ?_
      refine lv_aload_n hx hb dX7_passes_3 rfl (lv_at hl 2 rfl) ?_
      refine n7_pieces (v := 2) hx hb hK hP (by decide) dX7_passes_4 ?_
      refine lv_icmp_ge (tgt := 58) hx hb dX7_passes_5 (by decide) (fun c_1 => ?_) (fun c_1 => ?_)
      · have E := E.trans (if_pos c_1)
        have fc_1 := i_le c_1
        rw [q_2] at fc_1
        exact W.vret hx hb hr (fun t ht hW => ⟨⟨w_2, rfl, ⟨E.symm, by omega⟩, by show va_P _ _ _ t.heap; rw [ht]; exact hP⟩, hS.F ht⟩) hS.2.2 dX7_passes_58
      · have E := E.trans (if_neg c_1)
        have fc_1 := i_nle c_1
        rw [q_2] at fc_1
        refine lv_aload_n hx hb dX7_passes_8 rfl (lv_at hl 1 rfl) ?_
        refine g7_isKeeping hx hb hts hin hown hK hP (hts (.fieldLink RX7 136 "LoadedForTheLaneModel" "isKeeping" "Z") (by decide +kernel)) dX7_passes_9 ?_
        refine lv_if_eq (tgt := 30) hx hb dX7_passes_12 (by decide) (fun c_2 => ?_) (fun c_2 => ?_)
        · have E := E.trans (if_pos c_2)
          have fc_2 := i_eq c_2
          rw [q_0] at fc_2
          refine lv_aload_n hx hb dX7_passes_30 rfl (lv_at hl 2 rfl) ?_
          refine lv_iload_n hx hb dX7_passes_31 rfl (lv_at hl 0 rfl) ?_
          refine lv_aload_n hx hb dX7_passes_32 rfl (lv_at hl 1 rfl) ?_
          refine g7_kept hx hb hts hin hown hK hP (hts (.fieldLink RX7 55 "LoadedForTheLaneModel" "kept" "[I") (by decide +kernel)) dX7_passes_33 ?_
          refine lv_aload_n hx hb dX7_passes_36 rfl (lv_at hl 1 rfl) ?_
          refine g7_cursor hx hb hts hin hown hK hP (hts (.fieldLink RX7 140 "LoadedForTheLaneModel" "cursor" "I") (by decide +kernel)) dX7_passes_37 ?_
          have ix_3 : vp_in (w_2 22 0) 250 := ix_of (by omega) (by omega)
          refine l7_kept (j := (w_2 22 0).toNatClampNeg) hx hb hK hP ix_3 rfl dX7_passes_40 ?_
          have ix_4 : vp_in x2_2 2 := ix_of (by omega) (by omega)
          refine a7_pieces (j := x2_2.toNatClampNeg) hx hb hK hP hd hS ix_4 rfl dX7_passes_41 (fun H locs hP hS => ?_)
          obtain ⟨wn_4, hwn_4⟩ : ∃ x, x = st w_2 10 (x2_2.toNatClampNeg) (w_2 19 ((w_2 22 0).toNatClampNeg)) := ⟨_, rfl⟩
          rw [← hwn_4] at hP
          have E := bns_e E hwn_4
          have ft4_cursor : (wn_4 22 0).toInt = (w_2 22 0).toInt := by rw [hwn_4]; rfl
          have fv_4 : (wn_4 10 (x2_2.toNatClampNeg)).toInt = (w_2 19 ((w_2 22 0).toNatClampNeg) : Int32).toInt := by rw [hwn_4, st_rd]
          refine lv_aload_n hx hb dX7_passes_42 rfl (lv_at hl 1 rfl) ?_
          refine lv_dup hx hb dX7_passes_43 rfl ?_
          refine g7_cursor hx hb hts hin hown hK hP (hts (.fieldLink RX7 140 "LoadedForTheLaneModel" "cursor" "I") (by decide +kernel)) dX7_passes_44 ?_
          refine lv_iconst (v := 1) hx hb dX7_passes_47 (by decide) ?_
          refine lv_iadd hx hb dX7_passes_48 ?_
          refine p7_cursor hx hb hts hin hown hK hP hd hS (hts (.fieldLink RX7 140 "LoadedForTheLaneModel" "cursor" "I") (by decide +kernel)) dX7_passes_49 (fun H locs hP hS => ?_)
          obtain ⟨wn_5, hwn_5⟩ : ∃ x, x = st wn_4 22 0 ((wn_4 22 0) + 1) := ⟨_, rfl⟩
          rw [← hwn_5] at hP
          have E := bns_e E hwn_5
          have ft5_cursor : (wn_5 22 0).toInt = ((wn_4 22 0) + 1 : Int32).toInt := by rw [hwn_5]; rfl
          have := i_addr (a := wn_4 22 0) (b := 1) (n := 1) q_1 (by omega) (by omega)
          refine lv_iinc (v := x2_2 + 1) (lv' := [(2, .int (x2_2 + 1)), (0, .ref (ad 0)), (1, .ref (ad 11))]) hx hb dX7_passes_52 hl (k := 0) rfl rfl (by decide) rfl (fun ls hl => ?_)
          refine lv_goto (tgt := 2) hx hb dX7_passes_55 (by decide) ?_
          try have := i_addr (a := x2_2) (b := 1) (n := 1) q_1 (by omega) (by omega)
          exact ih_2 (x2_2 + 1) wn_5 H locs ls ⟨by omega, by omega, by omega⟩ (by omega) hP hS (lv_sub hl [0, 1, 2] rfl) E
        · have E := E.trans (if_neg c_2)
          have fc_2 := i_ne c_2
          rw [q_0] at fc_2
          refine lv_aload_n hx hb dX7_passes_15 rfl (lv_at hl 1 rfl) ?_
          refine g7_kept hx hb hts hin hown hK hP (hts (.fieldLink RX7 55 "LoadedForTheLaneModel" "kept" "[I") (by decide +kernel)) dX7_passes_16 ?_
          refine lv_aload_n hx hb dX7_passes_19 rfl (lv_at hl 1 rfl) ?_
          refine g7_cursor hx hb hts hin hown hK hP (hts (.fieldLink RX7 140 "LoadedForTheLaneModel" "cursor" "I") (by decide +kernel)) dX7_passes_20 ?_
          refine lv_aload_n hx hb dX7_passes_23 rfl (lv_at hl 2 rfl) ?_
          refine lv_iload_n hx hb dX7_passes_24 rfl (lv_at hl 0 rfl) ?_
          have ix_6 : vp_in x2_2 2 := ix_of (by omega) (by omega)
          refine l7_pieces (j := x2_2.toNatClampNeg) hx hb hK hP ix_6 rfl dX7_passes_25 ?_
          have ix_7 : vp_in (w_2 22 0) 250 := ix_of (by omega) (by omega)
          refine a7_kept (j := (w_2 22 0).toNatClampNeg) hx hb hK hP hd hS ix_7 rfl dX7_passes_26 (fun H locs hP hS => ?_)
          obtain ⟨wn_7, hwn_7⟩ : ∃ x, x = st w_2 19 ((w_2 22 0).toNatClampNeg) (w_2 10 (x2_2.toNatClampNeg)) := ⟨_, rfl⟩
          rw [← hwn_7] at hP
          have E := bns_e E hwn_7
          have ft7_cursor : (wn_7 22 0).toInt = (w_2 22 0).toInt := by rw [hwn_7]; rfl
          have fv_7 : (wn_7 19 ((w_2 22 0).toNatClampNeg)).toInt = (w_2 10 (x2_2.toNatClampNeg) : Int32).toInt := by rw [hwn_7, st_rd]
          refine lv_goto (tgt := 42) hx hb dX7_passes_27 (by decide) ?_
          refine lv_aload_n hx hb dX7_passes_42 rfl (lv_at hl 1 rfl) ?_
          refine lv_dup hx hb dX7_passes_43 rfl ?_
          refine g7_cursor hx hb hts hin hown hK hP (hts (.fieldLink RX7 140 "LoadedForTheLaneModel" "cursor" "I") (by decide +kernel)) dX7_passes_44 ?_
          refine lv_iconst (v := 1) hx hb dX7_passes_47 (by decide) ?_
          refine lv_iadd hx hb dX7_passes_48 ?_
          refine p7_cursor hx hb hts hin hown hK hP hd hS (hts (.fieldLink RX7 140 "LoadedForTheLaneModel" "cursor" "I") (by decide +kernel)) dX7_passes_49 (fun H locs hP hS => ?_)
          obtain ⟨wn_8, hwn_8⟩ : ∃ x, x = st wn_7 22 0 ((wn_7 22 0) + 1) := ⟨_, rfl⟩
          rw [← hwn_8] at hP
          have E := bns_e E hwn_8
          have ft8_cursor : (wn_8 22 0).toInt = ((wn_7 22 0) + 1 : Int32).toInt := by rw [hwn_8]; rfl
          have := i_addr (a := wn_7 22 0) (b := 1) (n := 1) q_1 (by omega) (by omega)
          refine lv_iinc (v := x2_2 + 1) (lv' := [(2, .int (x2_2 + 1)), (0, .ref (ad 0)), (1, .ref (ad 11))]) hx hb dX7_passes_52 hl (k := 0) rfl rfl (by decide) rfl (fun ls hl => ?_)
          refine lv_goto (tgt := 2) hx hb dX7_passes_55 (by decide) ?_
          try have := i_addr (a := x2_2) (b := 1) (n := 1) q_1 (by omega) (by omega)
          exact ih_2 (x2_2 + 1) wn_8 H locs ls ⟨by omega, by omega, by omega⟩ (by omega) hP hS (lv_sub hl [0, 1, 2] rfl) E
  have := q_0
  exact L_2 3 0 w H locs ls ⟨by omega, by omega, by omega⟩ (by omega) hP hS (lv_sub hl [0, 1, 2] rfl) E
abbrev rmX7_passOne : Room := { frames := 0, cells := 0, slots := 0, locals := 0 }
set_option maxHeartbeats 4000000 in
set_option maxRecDepth 100000 in
theorem kX7_passOne (l : Launch) (D : va_G) (cI : ClassId) (ad : Nat → Nat) (w : Nat → Nat → Int32) (a1 : Int32) (hd : RD ad) (h1 : 0 ≤ (w 22 0).toInt) (h2 : (w 22 0).toInt ≤ 249) : Met l yX7_passOne wsX7_passOne rmX7_passOne (va_Pc [Value.ref (ad 0), Value.int a1] (fun U => va_P D vwCl (RM cI ad w) U.heap ∧ va_K D vwCl [(cI, .int)] U)) (va_Qi (fun r u => (r, u) = sX7_passOne w a1 ∧ ((u 22 0).toInt = (w 22 0).toInt + 1)) (fun u t => va_P D vwCl (RM cI ad u) t.heap) (RA ad)) 0 0 (RA ad) := by
  refine Met.ofW (cc := cX7_passOne) (maxL := 3) (ret := (some .int)) (by decide) rfl ?_
  intro p e s m args below meth c s₁ B hml hv
  obtain ⟨rfl, hP, hK⟩ := hv
  have hx := B.exec
  have hb := B.bytes
  have hr := B.returns
  have hts := atoms_spec (ws := wsX7_passOne) B.pre
  have hown : s.vm.findClass RX7 = some m.cls := findClass_of_methodNamed B.named
  have hlocks := B.notSynchronized
  have hin : ∀ q ∈ wsX70, q ∈ wsX7_passOne := by decide +kernel
  have hl := lv_entry ([.ref (ad 0), .int a1]) (n := 3) (Nat.le_of_ble_eq_true rfl)
  rw [lg_entry_eq]
  generalize (lg_sl ([.ref (ad 0), .int a1]) ++ List.replicate (3 - (lg_sl ([.ref (ad 0), .int a1])).length) Slot.unset).toArray = ls at hl ⊢
  have hl : lv_has ls 3 [(0, .ref (ad 0)), (1, .int a1)] := hl
  suffices hgo : ∀ (H : Heap) (locs : List Loc), va_P D vwCl (RM cI ad w) H → va_S (RA ad) s.heap H locs → W p l e (headSpec wsX7_passOne rmX7_passOne).room s m [Value.ref (ad 0), Value.int a1].toArray below meth c H locs 0 0 (MQ below (va_Qi (fun r u => (r, u) = sX7_passOne w a1 ∧ ((u 22 0).toInt = (w 22 0).toInt + 1)) (fun u t => va_P D vwCl (RM cI ad u) t.heap) (RA ad)) [Value.ref (ad 0), Value.int a1].toArray s 0 0 (RA ad)) (F0 m 0 ls []) from hgo s.heap [] hP va_S.rf
  intro H locs hP hS
  have E := sX7_passOne.eq_1 w a1
  refine lv_aload_n hx hb dX7_passOne_0 rfl (lv_at hl 0 rfl) ?_
  refine g7_isKeeping hx hb hts hin hown hK hP (hts (.fieldLink RX7 136 "LoadedForTheLaneModel" "isKeeping" "Z") (by decide +kernel)) dX7_passOne_1 ?_
  refine lv_if_eq (tgt := 11) hx hb dX7_passOne_4 (by decide) (fun c_1 => ?_) (fun c_1 => ?_)
  · have E := E.trans (if_pos c_1)
    have fc_1 := i_eq c_1
    rw [q_0] at fc_1
    refine lv_aload_n hx hb dX7_passOne_11 rfl (lv_at hl 0 rfl) ?_
    refine g7_kept hx hb hts hin hown hK hP (hts (.fieldLink RX7 55 "LoadedForTheLaneModel" "kept" "[I") (by decide +kernel)) dX7_passOne_12 ?_
    refine lv_aload_n hx hb dX7_passOne_15 rfl (lv_at hl 0 rfl) ?_
    refine g7_cursor hx hb hts hin hown hK hP (hts (.fieldLink RX7 140 "LoadedForTheLaneModel" "cursor" "I") (by decide +kernel)) dX7_passOne_16 ?_
    have ix_2 : vp_in (w 22 0) 250 := ix_of (by omega) (by omega)
    refine l7_kept (j := (w 22 0).toNatClampNeg) hx hb hK hP ix_2 rfl dX7_passOne_19 ?_
    refine lv_istore_n (lv' := [(2, .int (w 19 ((w 22 0).toNatClampNeg))), (0, .ref (ad 0)), (1, .int a1)]) hx hb dX7_passOne_20 rfl hl (by decide) rfl (fun ls hl => ?_)
    refine lv_aload_n hx hb dX7_passOne_21 rfl (lv_at hl 1 rfl) ?_
    refine g7_isKeeping hx hb hts hin hown hK hP (hts (.fieldLink RX7 136 "LoadedForTheLaneModel" "isKeeping" "Z") (by decide +kernel)) dX7_passOne_22 ?_
    refine lv_if_eq (tgt := 38) hx hb dX7_passOne_25 (by decide) (fun _ => ?_) (fun z => absurd c_1 z)
    refine lv_aload_n hx hb dX7_passOne_38 rfl (lv_at hl 1 rfl) ?_
    refine lv_dup hx hb dX7_passOne_39 rfl ?_
    refine g7_cursor hx hb hts hin hown hK hP (hts (.fieldLink RX7 140 "LoadedForTheLaneModel" "cursor" "I") (by decide +kernel)) dX7_passOne_40 ?_
    refine lv_iconst (v := 1) hx hb dX7_passOne_43 (by decide) ?_
    refine lv_iadd hx hb dX7_passOne_44 ?_
    refine p7_cursor hx hb hts hin hown hK hP hd hS (hts (.fieldLink RX7 140 "LoadedForTheLaneModel" "cursor" "I") (by decide +kernel)) dX7_passOne_45 (fun H locs hP hS => ?_)
    obtain ⟨wn_3, hwn_3⟩ : ∃ x, x = st w 22 0 ((w 22 0) + 1) := ⟨_, rfl⟩
    rw [← hwn_3] at hP
    have E := bns_e E hwn_3
    have ft3_cursor : (wn_3 22 0).toInt = ((w 22 0) + 1 : Int32).toInt := by rw [hwn_3]; rfl
    have := i_addr (a := w 22 0) (b := 1) (n := 1) q_1 (by omega) (by omega)
    refine lv_iload_n hx hb dX7_passOne_48 rfl (lv_at hl 0 rfl) ?_
    exact W.iret (v := w 19 ((w 22 0).toNatClampNeg)) hx hb hr (fun t ht hW => ⟨⟨_, wn_3, rfl, ⟨E.symm, by omega⟩, by show va_P _ _ _ t.heap; rw [ht]; exact hP⟩, hS.F ht⟩) hS.2.2 dX7_passOne_49
  · have E := E.trans (if_neg c_1)
    have fc_1 := i_ne c_1
    rw [q_0] at fc_1
    refine lv_iload_n hx hb dX7_passOne_7 rfl (lv_at hl 1 rfl) ?_
    refine lv_goto (tgt := 20) hx hb dX7_passOne_8 (by decide) ?_
    refine lv_istore_n (lv' := [(2, .int a1), (0, .ref (ad 0)), (1, .int a1)]) hx hb dX7_passOne_20 rfl hl (by decide) rfl (fun ls hl => ?_)
    refine lv_aload_n hx hb dX7_passOne_21 rfl (lv_at hl 1 rfl) ?_
    refine g7_isKeeping hx hb hts hin hown hK hP (hts (.fieldLink RX7 136 "LoadedForTheLaneModel" "isKeeping" "Z") (by decide +kernel)) dX7_passOne_22 ?_
    refine lv_if_eq (tgt := 38) hx hb dX7_passOne_25 (by decide) (fun z => absurd z c_1) (fun _ => ?_)
    refine lv_aload_n hx hb dX7_passOne_28 rfl (lv_at hl 1 rfl) ?_
    refine g7_kept hx hb hts hin hown hK hP (hts (.fieldLink RX7 55 "LoadedForTheLaneModel" "kept" "[I") (by decide +kernel)) dX7_passOne_29 ?_
    refine lv_aload_n hx hb dX7_passOne_32 rfl (lv_at hl 1 rfl) ?_
    refine g7_cursor hx hb hts hin hown hK hP (hts (.fieldLink RX7 140 "LoadedForTheLaneModel" "cursor" "I") (by decide +kernel)) dX7_passOne_33 ?_
    refine lv_iload_n hx hb dX7_passOne_36 rfl (lv_at hl 2 rfl) ?_
    have ix_4 : vp_in (w 22 0) 250 := ix_of (by omega) (by omega)
    refine a7_kept (j := (w 22 0).toNatClampNeg) hx hb hK hP hd hS ix_4 rfl dX7_passOne_37 (fun H locs hP hS => ?_)
    obtain ⟨wn_4, hwn_4⟩ : ∃ x, x = st w 19 ((w 22 0).toNatClampNeg) a1 := ⟨_, rfl⟩
    rw [← hwn_4] at hP
    have E := bns_e E hwn_4
    have ft4_cursor : (wn_4 22 0).toInt = (w 22 0).toInt := by rw [hwn_4]; rfl
    have fv_4 : (wn_4 19 ((w 22 0).toNatClampNeg)).toInt = (a1 : Int32).toInt := by rw [hwn_4, st_rd]
    refine lv_aload_n hx hb dX7_passOne_38 rfl (lv_at hl 1 rfl) ?_
    refine lv_dup hx hb dX7_passOne_39 rfl ?_
    refine g7_cursor hx hb hts hin hown hK hP (hts (.fieldLink RX7 140 "LoadedForTheLaneModel" "cursor" "I") (by decide +kernel)) dX7_passOne_40 ?_
    refine lv_iconst (v := 1) hx hb dX7_passOne_43 (by decide) ?_
    refine lv_iadd hx hb dX7_passOne_44 ?_
    refine p7_cursor hx hb hts hin hown hK hP hd hS (hts (.fieldLink RX7 140 "LoadedForTheLaneModel" "cursor" "I") (by decide +kernel)) dX7_passOne_45 (fun H locs hP hS => ?_)
    obtain ⟨wn_5, hwn_5⟩ : ∃ x, x = st wn_4 22 0 ((wn_4 22 0) + 1) := ⟨_, rfl⟩
    rw [← hwn_5] at hP
    have E := bns_e E hwn_5
    have ft5_cursor : (wn_5 22 0).toInt = ((wn_4 22 0) + 1 : Int32).toInt := by rw [hwn_5]; rfl
    have := i_addr (a := wn_4 22 0) (b := 1) (n := 1) q_1 (by omega) (by omega)
    refine lv_iload_n hx hb dX7_passOne_48 rfl (lv_at hl 0 rfl) ?_
    exact W.iret (v := a1) hx hb hr (fun t ht hW => ⟨⟨_, wn_5, rfl, ⟨E.symm, by omega⟩, by show va_P _ _ _ t.heap; rw [ht]; exact hP⟩, hS.F ht⟩) hS.2.2 dX7_passOne_49
