section LAWO16
variable {p : Program} {l : Launch} {e : Env} {s : State} {m : MethodId} {below : List Frame} {meth : Method} {c : Code} {b L : Nat} {xs : Nat → Int32} {D : va_G} {cI cC cQ : ClassId} {adx : Nat → Nat → Nat} {adm sd aK aV : Nat → Nat} {H : Heap} {locs : List Loc} {cells slots : Nat} {Q : State → Prop} {V : Nat → Nat → Nat → Int32} {w : Nat → Nat → Int32} {x3 : Int32} {ls : Array Slot}
set_option maxHeartbeats 4000000 in
set_option maxRecDepth 100000 in
theorem law_which (E : LAW p s m c b L xs D cI cC cQ adx adm sd aK aV) (hcs : cells ≤ 600000 ∧ slots ≤ 7302250) (hl : lv_has ls 4 [(0, .ref b), (1, .ref (adx 5 0)), (2, .ref (adm 0)), (3, .int x3)]) (h_1 : vp_in (x3 + 1) L) (h_2 : vp_in (x3 + 2) L) (h_3 : vp_in (x3 + 3) L) (hS : va_S (fun q : Nat => s.heap.size ≤ q) s.heap H locs) (hP6 : va_P D vwCl (MWL cI cC cQ adx V) H) (hP7 : va_P D vwCl (RM cI adm w) H) (hI : R6I V) (hR : REL V w) (kk : ∀ (H : Heap) (locs : List Loc) (V : Nat → Nat → Nat → Int32) (w : Nat → Nat → Int32), va_P D vwCl (MWL cI cC cQ adx V) H → va_P D vwCl (RM cI adm w) H → R6I V → REL V w → va_S (fun q : Nat => s.heap.size ≤ q) s.heap H locs → W p l e room_1 s m #[Value.ref b] below meth c H locs cells slots Q (F0 m 1036 ls [])) : W p l e room_1 s m #[Value.ref b] below meth c H locs cells slots Q (F0 m 610 ls []) := by
  obtain ⟨hx, hb, hml, hown, hts, hX, hbl, hK, hN, hSE, hST, hd, hdm, hA6, hA7, hdis⟩ := E
  have hbA : ¬ (fun q : Nat => s.heap.size ≤ q) b := Nat.not_le.mpr hbl
  refine lv_aload_n hx hb dL_law_610 rfl (lv_at hl 1 rfl) ?_
  refine vp_callSi (va_Run.run (va_runV (As := []) (rest := []) ⟨hx, hb, hml, hown, hts⟩ (kX6_which l D cI cC cQ adx sd aK aV V  hI) (cwV 0 hts gL_law_X6_which rfl rfl rfl mdX6_which ⟨Nat.le_of_ble_eq_true rfl, Nat.le_of_ble_eq_true rfl⟩) (x6_preL hK hP6 hN hSE hST hA6 hS) rfl rfl hl.1 rfl (lv_room (Nat.le_of_ble_eq_true rfl)) dL_law_611 ⟨hcs.1, hcs.2⟩)) (fun r6 hr6 => ?_)
  have hr6 : r6 = sX6_which V  := hr6
  have hP71 := hP7
  refine lv_aload_n hx hb dL_law_614 rfl (lv_at hl 2 rfl) ?_
  refine va_calli (va_runV (As := []) (rest := [.int r6]) ⟨hx, hb, hml, hown, hts⟩ (kX7_which l D cI adm w  hdm hR.R7) (cwV 0 hts gL_law_X7_which rfl rfl rfl mdX7_which ⟨Nat.le_of_ble_eq_true rfl, Nat.le_of_ble_eq_true rfl⟩) (x7_preL (hK.sub [0] rfl) hP71) rfl rfl hl.1 rfl (lv_room (Nat.le_of_ble_eq_true rfl)) dL_law_615 ⟨hcs.1, hcs.2⟩) hS (fun q _ h => hA7 q h) (fun q h => hA7 q h) (fun r7 w1 t2 H2 locs2 ht2 hvm2 hp7 hB7 hz2 hfr2 hS2 => ?_)
  rw [ht2] at hB7
  have hO := S_which hR
  rw [← hp7.1, ← hr6] at hO
  have hP62 := keep6 hP6 hdis hfr2
  exact lv_icmp_eq (tgt := 1036) hx hb dL_law_618 (by decide) (fun _ => kk H2 locs2 V w1 hP62 hB7 hI hO.2 hS2) (fun hne => absurd hO.1 hne)
set_option maxHeartbeats 4000000 in
set_option maxRecDepth 100000 in
theorem law_pitching (E : LAW p s m c b L xs D cI cC cQ adx adm sd aK aV) (hcs : cells ≤ 600000 ∧ slots ≤ 7302250) (hl : lv_has ls 4 [(0, .ref b), (1, .ref (adx 5 0)), (2, .ref (adm 0)), (3, .int x3)]) (h_1 : vp_in (x3 + 1) L) (h_2 : vp_in (x3 + 2) L) (h_3 : vp_in (x3 + 3) L) (hS : va_S (fun q : Nat => s.heap.size ≤ q) s.heap H locs) (hP6 : va_P D vwCl (MWL cI cC cQ adx V) H) (hP7 : va_P D vwCl (RM cI adm w) H) (hI : R6I V) (hR : REL V w) (kk : ∀ (H : Heap) (locs : List Loc) (V : Nat → Nat → Nat → Int32) (w : Nat → Nat → Int32), va_P D vwCl (MWL cI cC cQ adx V) H → va_P D vwCl (RM cI adm w) H → R6I V → REL V w → va_S (fun q : Nat => s.heap.size ≤ q) s.heap H locs → W p l e room_1 s m #[Value.ref b] below meth c H locs cells slots Q (F0 m 1036 ls [])) : W p l e room_1 s m #[Value.ref b] below meth c H locs cells slots Q (F0 m 623 ls []) := by
  obtain ⟨hx, hb, hml, hown, hts, hX, hbl, hK, hN, hSE, hST, hd, hdm, hA6, hA7, hdis⟩ := E
  have hbA : ¬ (fun q : Nat => s.heap.size ≤ q) b := Nat.not_le.mpr hbl
  refine lv_aload_n hx hb dL_law_623 rfl (lv_at hl 1 rfl) ?_
  refine lv_aload_n hx hb dL_law_624 rfl (lv_at hl 0 rfl) ?_
  refine lv_iload_n hx hb dL_law_625 rfl (lv_at hl 3 rfl) ?_
  refine lv_iconst (v := 1) hx hb dL_law_626 (by decide) ?_
  refine lv_iadd hx hb dL_law_627 ?_
  refine va_sld hx hb hX hbl hbA hS h_1 dL_law_628 ?_
  refine va_calli (va_runV (As := [.int (xs (x3 + 1).toNatClampNeg)]) (rest := []) ⟨hx, hb, hml, hown, hts⟩ (kX6_pitching l D cI cC cQ adx sd aK aV V (xs (x3 + 1).toNatClampNeg) hd hI) (cwV 1 hts gL_law_X6_pitching rfl rfl rfl mdX6_pitching ⟨Nat.le_of_ble_eq_true rfl, Nat.le_of_ble_eq_true rfl⟩) (x6_preL hK hP6 hN hSE hST hA6 hS) rfl rfl hl.1 rfl (lv_room (Nat.le_of_ble_eq_true rfl)) dL_law_629 ⟨hcs.1, hcs.2⟩) hS (fun q _ h => hA6 q h) (fun q h => hA6 q h) (fun r6 V1 t H1 locs1 ht hvm hp6 hB hz hfr hS1 => ?_)
  rw [ht] at hB
  have hP71 := keep7 hP7 hdis hfr
  refine lv_aload_n hx hb dL_law_632 rfl (lv_at hl 2 rfl) ?_
  refine lv_aload_n hx hb dL_law_633 rfl (lv_at hl 0 rfl) ?_
  refine lv_iload_n hx hb dL_law_634 rfl (lv_at hl 3 rfl) ?_
  refine lv_iconst (v := 1) hx hb dL_law_635 (by decide) ?_
  refine lv_iadd hx hb dL_law_636 ?_
  refine va_sld hx hb hX hbl hbA hS1 h_1 dL_law_637 ?_
  refine va_calli (va_runV (As := [.int (xs (x3 + 1).toNatClampNeg)]) (rest := [.int r6]) ⟨hx, hb, hml, hown, hts⟩ (kX7_pitching l D cI adm w (xs (x3 + 1).toNatClampNeg) hdm hR.R7) (cwV 1 hts gL_law_X7_pitching rfl rfl rfl mdX7_pitching ⟨Nat.le_of_ble_eq_true rfl, Nat.le_of_ble_eq_true rfl⟩) (x7_preL (hK.sub [0] rfl) hP71) rfl rfl hl.1 rfl (lv_room (Nat.le_of_ble_eq_true rfl)) dL_law_638 ⟨hcs.1, hcs.2⟩) hS1 (fun q _ h => hA7 q h) (fun q h => hA7 q h) (fun r7 w1 t2 H2 locs2 ht2 hvm2 hp7 hB7 hz2 hfr2 hS2 => ?_)
  rw [ht2] at hB7
  have hO := S_pitching hR (xs (x3 + 1).toNatClampNeg)
  rw [← hp6.1, ← hp7.1] at hO
  have hP62 := keep6 hB hdis hfr2
  exact lv_icmp_eq (tgt := 1036) hx hb dL_law_641 (by decide) (fun _ => kk H2 locs2 V1 w1 hP62 hB7 hp6.2 hO.2 hS2) (fun hne => absurd hO.1 hne)
set_option maxHeartbeats 4000000 in
set_option maxRecDepth 100000 in
theorem law_quick (E : LAW p s m c b L xs D cI cC cQ adx adm sd aK aV) (hcs : cells ≤ 600000 ∧ slots ≤ 7302250) (hl : lv_has ls 4 [(0, .ref b), (1, .ref (adx 5 0)), (2, .ref (adm 0)), (3, .int x3)]) (h_1 : vp_in (x3 + 1) L) (h_2 : vp_in (x3 + 2) L) (h_3 : vp_in (x3 + 3) L) (hS : va_S (fun q : Nat => s.heap.size ≤ q) s.heap H locs) (hP6 : va_P D vwCl (MWL cI cC cQ adx V) H) (hP7 : va_P D vwCl (RM cI adm w) H) (hI : R6I V) (hR : REL V w) (kk : ∀ (H : Heap) (locs : List Loc) (V : Nat → Nat → Nat → Int32) (w : Nat → Nat → Int32), va_P D vwCl (MWL cI cC cQ adx V) H → va_P D vwCl (RM cI adm w) H → R6I V → REL V w → va_S (fun q : Nat => s.heap.size ≤ q) s.heap H locs → W p l e room_1 s m #[Value.ref b] below meth c H locs cells slots Q (F0 m 1036 ls [])) : W p l e room_1 s m #[Value.ref b] below meth c H locs cells slots Q (F0 m 646 ls []) := by
  obtain ⟨hx, hb, hml, hown, hts, hX, hbl, hK, hN, hSE, hST, hd, hdm, hA6, hA7, hdis⟩ := E
  have hbA : ¬ (fun q : Nat => s.heap.size ≤ q) b := Nat.not_le.mpr hbl
  refine lv_aload_n hx hb dL_law_646 rfl (lv_at hl 1 rfl) ?_
  refine lv_aload_n hx hb dL_law_647 rfl (lv_at hl 0 rfl) ?_
  refine lv_iload_n hx hb dL_law_648 rfl (lv_at hl 3 rfl) ?_
  refine lv_iconst (v := 1) hx hb dL_law_649 (by decide) ?_
  refine lv_iadd hx hb dL_law_650 ?_
  refine va_sld hx hb hX hbl hbA hS h_1 dL_law_651 ?_
  refine va_calli (va_runV (As := [.int (xs (x3 + 1).toNatClampNeg)]) (rest := []) ⟨hx, hb, hml, hown, hts⟩ (kX6_quick l D cI cC cQ adx sd aK aV V (xs (x3 + 1).toNatClampNeg) hd hI) (cwV 1 hts gL_law_X6_quick rfl rfl rfl mdX6_quick ⟨Nat.le_of_ble_eq_true rfl, Nat.le_of_ble_eq_true rfl⟩) (x6_preL hK hP6 hN hSE hST hA6 hS) rfl rfl hl.1 rfl (lv_room (Nat.le_of_ble_eq_true rfl)) dL_law_652 ⟨hcs.1, hcs.2⟩) hS (fun q _ h => hA6 q h) (fun q h => hA6 q h) (fun r6 V1 t H1 locs1 ht hvm hp6 hB hz hfr hS1 => ?_)
  rw [ht] at hB
  have hP71 := keep7 hP7 hdis hfr
  refine lv_aload_n hx hb dL_law_655 rfl (lv_at hl 2 rfl) ?_
  refine lv_aload_n hx hb dL_law_656 rfl (lv_at hl 0 rfl) ?_
  refine lv_iload_n hx hb dL_law_657 rfl (lv_at hl 3 rfl) ?_
  refine lv_iconst (v := 1) hx hb dL_law_658 (by decide) ?_
  refine lv_iadd hx hb dL_law_659 ?_
  refine va_sld hx hb hX hbl hbA hS1 h_1 dL_law_660 ?_
  refine va_calli (va_runV (As := [.int (xs (x3 + 1).toNatClampNeg)]) (rest := [.int r6]) ⟨hx, hb, hml, hown, hts⟩ (kX7_quick l D cI adm w (xs (x3 + 1).toNatClampNeg) hdm hR.R7) (cwV 1 hts gL_law_X7_quick rfl rfl rfl mdX7_quick ⟨Nat.le_of_ble_eq_true rfl, Nat.le_of_ble_eq_true rfl⟩) (x7_preL (hK.sub [0] rfl) hP71) rfl rfl hl.1 rfl (lv_room (Nat.le_of_ble_eq_true rfl)) dL_law_661 ⟨hcs.1, hcs.2⟩) hS1 (fun q _ h => hA7 q h) (fun q h => hA7 q h) (fun r7 w1 t2 H2 locs2 ht2 hvm2 hp7 hB7 hz2 hfr2 hS2 => ?_)
  rw [ht2] at hB7
  have hO := S_quick hR (xs (x3 + 1).toNatClampNeg)
  rw [← hp6.1, ← hp7.1] at hO
  have hP62 := keep6 hB hdis hfr2
  exact lv_icmp_eq (tgt := 1036) hx hb dL_law_664 (by decide) (fun _ => kk H2 locs2 V1 w1 hP62 hB7 hp6.2 hO.2 hS2) (fun hne => absurd hO.1 hne)
set_option maxHeartbeats 4000000 in
set_option maxRecDepth 100000 in
theorem law_rounds (E : LAW p s m c b L xs D cI cC cQ adx adm sd aK aV) (hcs : cells ≤ 600000 ∧ slots ≤ 7302250) (hl : lv_has ls 4 [(0, .ref b), (1, .ref (adx 5 0)), (2, .ref (adm 0)), (3, .int x3)]) (h_1 : vp_in (x3 + 1) L) (h_2 : vp_in (x3 + 2) L) (h_3 : vp_in (x3 + 3) L) (hS : va_S (fun q : Nat => s.heap.size ≤ q) s.heap H locs) (hP6 : va_P D vwCl (MWL cI cC cQ adx V) H) (hP7 : va_P D vwCl (RM cI adm w) H) (hI : R6I V) (hR : REL V w) (kk : ∀ (H : Heap) (locs : List Loc) (V : Nat → Nat → Nat → Int32) (w : Nat → Nat → Int32), va_P D vwCl (MWL cI cC cQ adx V) H → va_P D vwCl (RM cI adm w) H → R6I V → REL V w → va_S (fun q : Nat => s.heap.size ≤ q) s.heap H locs → W p l e room_1 s m #[Value.ref b] below meth c H locs cells slots Q (F0 m 1036 ls [])) : W p l e room_1 s m #[Value.ref b] below meth c H locs cells slots Q (F0 m 669 ls []) := by
  obtain ⟨hx, hb, hml, hown, hts, hX, hbl, hK, hN, hSE, hST, hd, hdm, hA6, hA7, hdis⟩ := E
  have hbA : ¬ (fun q : Nat => s.heap.size ≤ q) b := Nat.not_le.mpr hbl
  refine lv_aload_n hx hb dL_law_669 rfl (lv_at hl 1 rfl) ?_
  refine lv_aload_n hx hb dL_law_670 rfl (lv_at hl 0 rfl) ?_
  refine lv_iload_n hx hb dL_law_671 rfl (lv_at hl 3 rfl) ?_
  refine lv_iconst (v := 1) hx hb dL_law_672 (by decide) ?_
  refine lv_iadd hx hb dL_law_673 ?_
  refine va_sld hx hb hX hbl hbA hS h_1 dL_law_674 ?_
  refine lv_aload_n hx hb dL_law_675 rfl (lv_at hl 0 rfl) ?_
  refine lv_iload_n hx hb dL_law_676 rfl (lv_at hl 3 rfl) ?_
  refine lv_iconst (v := 2) hx hb dL_law_677 (by decide) ?_
  refine lv_iadd hx hb dL_law_678 ?_
  refine va_sld hx hb hX hbl hbA hS h_2 dL_law_679 ?_
  refine lv_aload_n hx hb dL_law_680 rfl (lv_at hl 0 rfl) ?_
  refine lv_iload_n hx hb dL_law_681 rfl (lv_at hl 3 rfl) ?_
  refine lv_iconst (v := 3) hx hb dL_law_682 (by decide) ?_
  refine lv_iadd hx hb dL_law_683 ?_
  refine va_sld hx hb hX hbl hbA hS h_3 dL_law_684 ?_
  refine va_calli (va_runV (As := [.int (xs (x3 + 1).toNatClampNeg), .int (xs (x3 + 2).toNatClampNeg), .int (xs (x3 + 3).toNatClampNeg)]) (rest := []) ⟨hx, hb, hml, hown, hts⟩ (kX6_rounds l D cI cC cQ adx sd aK aV V (xs (x3 + 1).toNatClampNeg) (xs (x3 + 2).toNatClampNeg) (xs (x3 + 3).toNatClampNeg) hd hI) (cwV 3 hts gL_law_X6_rounds rfl rfl rfl mdX6_rounds ⟨Nat.le_of_ble_eq_true rfl, Nat.le_of_ble_eq_true rfl⟩) (x6_preL hK hP6 hN hSE hST hA6 hS) rfl rfl hl.1 rfl (lv_room (Nat.le_of_ble_eq_true rfl)) dL_law_685 ⟨hcs.1, hcs.2⟩) hS (fun q _ h => hA6 q h) (fun q h => hA6 q h) (fun r6 V1 t H1 locs1 ht hvm hp6 hB hz hfr hS1 => ?_)
  rw [ht] at hB
  have hP71 := keep7 hP7 hdis hfr
  refine lv_aload_n hx hb dL_law_688 rfl (lv_at hl 2 rfl) ?_
  refine lv_aload_n hx hb dL_law_689 rfl (lv_at hl 0 rfl) ?_
  refine lv_iload_n hx hb dL_law_690 rfl (lv_at hl 3 rfl) ?_
  refine lv_iconst (v := 1) hx hb dL_law_691 (by decide) ?_
  refine lv_iadd hx hb dL_law_692 ?_
  refine va_sld hx hb hX hbl hbA hS1 h_1 dL_law_693 ?_
  refine lv_aload_n hx hb dL_law_694 rfl (lv_at hl 0 rfl) ?_
  refine lv_iload_n hx hb dL_law_695 rfl (lv_at hl 3 rfl) ?_
  refine lv_iconst (v := 2) hx hb dL_law_696 (by decide) ?_
  refine lv_iadd hx hb dL_law_697 ?_
  refine va_sld hx hb hX hbl hbA hS1 h_2 dL_law_698 ?_
  refine lv_aload_n hx hb dL_law_699 rfl (lv_at hl 0 rfl) ?_
  refine lv_iload_n hx hb dL_law_700 rfl (lv_at hl 3 rfl) ?_
  refine lv_iconst (v := 3) hx hb dL_law_701 (by decide) ?_
  refine lv_iadd hx hb dL_law_702 ?_
  refine va_sld hx hb hX hbl hbA hS1 h_3 dL_law_703 ?_
  refine va_calli (va_runV (As := [.int (xs (x3 + 1).toNatClampNeg), .int (xs (x3 + 2).toNatClampNeg), .int (xs (x3 + 3).toNatClampNeg)]) (rest := [.int r6]) ⟨hx, hb, hml, hown, hts⟩ (kX7_rounds l D cI adm w (xs (x3 + 1).toNatClampNeg) (xs (x3 + 2).toNatClampNeg) (xs (x3 + 3).toNatClampNeg) hdm hR.R7 hR.H7) (cwV 3 hts gL_law_X7_rounds rfl rfl rfl mdX7_rounds ⟨Nat.le_of_ble_eq_true rfl, Nat.le_of_ble_eq_true rfl⟩) (x7_preL (hK.sub [0] rfl) hP71) rfl rfl hl.1 rfl (lv_room (Nat.le_of_ble_eq_true rfl)) dL_law_704 ⟨hcs.1, hcs.2⟩) hS1 (fun q _ h => hA7 q h) (fun q h => hA7 q h) (fun r7 w1 t2 H2 locs2 ht2 hvm2 hp7 hB7 hz2 hfr2 hS2 => ?_)
  rw [ht2] at hB7
  have hO := S_rounds hR (xs (x3 + 1).toNatClampNeg) (xs (x3 + 2).toNatClampNeg) (xs (x3 + 3).toNatClampNeg)
  rw [← hp6.1, ← hp7] at hO
  have hP62 := keep6 hB hdis hfr2
  exact lv_icmp_eq (tgt := 1036) hx hb dL_law_707 (by decide) (fun _ => kk H2 locs2 V1 w1 hP62 hB7 hp6.2 hO.2 hS2) (fun hne => absurd hO.1 hne)
set_option maxHeartbeats 4000000 in
set_option maxRecDepth 100000 in
theorem law_worth (E : LAW p s m c b L xs D cI cC cQ adx adm sd aK aV) (hcs : cells ≤ 600000 ∧ slots ≤ 7302250) (hl : lv_has ls 4 [(0, .ref b), (1, .ref (adx 5 0)), (2, .ref (adm 0)), (3, .int x3)]) (h_1 : vp_in (x3 + 1) L) (h_2 : vp_in (x3 + 2) L) (h_3 : vp_in (x3 + 3) L) (hS : va_S (fun q : Nat => s.heap.size ≤ q) s.heap H locs) (hP6 : va_P D vwCl (MWL cI cC cQ adx V) H) (hP7 : va_P D vwCl (RM cI adm w) H) (hI : R6I V) (hR : REL V w) (kk : ∀ (H : Heap) (locs : List Loc) (V : Nat → Nat → Nat → Int32) (w : Nat → Nat → Int32), va_P D vwCl (MWL cI cC cQ adx V) H → va_P D vwCl (RM cI adm w) H → R6I V → REL V w → va_S (fun q : Nat => s.heap.size ≤ q) s.heap H locs → W p l e room_1 s m #[Value.ref b] below meth c H locs cells slots Q (F0 m 1036 ls [])) : W p l e room_1 s m #[Value.ref b] below meth c H locs cells slots Q (F0 m 712 ls []) := by
  obtain ⟨hx, hb, hml, hown, hts, hX, hbl, hK, hN, hSE, hST, hd, hdm, hA6, hA7, hdis⟩ := E
  have hbA : ¬ (fun q : Nat => s.heap.size ≤ q) b := Nat.not_le.mpr hbl
  refine lv_aload_n hx hb dL_law_712 rfl (lv_at hl 1 rfl) ?_
  refine lv_aload_n hx hb dL_law_713 rfl (lv_at hl 0 rfl) ?_
  refine lv_iload_n hx hb dL_law_714 rfl (lv_at hl 3 rfl) ?_
  refine lv_iconst (v := 1) hx hb dL_law_715 (by decide) ?_
  refine lv_iadd hx hb dL_law_716 ?_
  refine va_sld hx hb hX hbl hbA hS h_1 dL_law_717 ?_
  refine lv_aload_n hx hb dL_law_718 rfl (lv_at hl 0 rfl) ?_
  refine lv_iload_n hx hb dL_law_719 rfl (lv_at hl 3 rfl) ?_
  refine lv_iconst (v := 2) hx hb dL_law_720 (by decide) ?_
  refine lv_iadd hx hb dL_law_721 ?_
  refine va_sld hx hb hX hbl hbA hS h_2 dL_law_722 ?_
  refine lv_aload_n hx hb dL_law_723 rfl (lv_at hl 0 rfl) ?_
  refine lv_iload_n hx hb dL_law_724 rfl (lv_at hl 3 rfl) ?_
  refine lv_iconst (v := 3) hx hb dL_law_725 (by decide) ?_
  refine lv_iadd hx hb dL_law_726 ?_
  refine va_sld hx hb hX hbl hbA hS h_3 dL_law_727 ?_
  refine va_calli (va_runV (As := [.int (xs (x3 + 1).toNatClampNeg), .int (xs (x3 + 2).toNatClampNeg), .int (xs (x3 + 3).toNatClampNeg)]) (rest := []) ⟨hx, hb, hml, hown, hts⟩ (kX6_worth l D cI cC cQ adx sd aK aV V (xs (x3 + 1).toNatClampNeg) (xs (x3 + 2).toNatClampNeg) (xs (x3 + 3).toNatClampNeg) hd hI) (cwV 3 hts gL_law_X6_worth rfl rfl rfl mdX6_worth ⟨Nat.le_of_ble_eq_true rfl, Nat.le_of_ble_eq_true rfl⟩) (x6_preL hK hP6 hN hSE hST hA6 hS) rfl rfl hl.1 rfl (lv_room (Nat.le_of_ble_eq_true rfl)) dL_law_728 ⟨hcs.1, hcs.2⟩) hS (fun q _ h => hA6 q h) (fun q h => hA6 q h) (fun r6 V1 t H1 locs1 ht hvm hp6 hB hz hfr hS1 => ?_)
  rw [ht] at hB
  have hP71 := keep7 hP7 hdis hfr
  refine lv_aload_n hx hb dL_law_731 rfl (lv_at hl 2 rfl) ?_
  refine lv_aload_n hx hb dL_law_732 rfl (lv_at hl 0 rfl) ?_
  refine lv_iload_n hx hb dL_law_733 rfl (lv_at hl 3 rfl) ?_
  refine lv_iconst (v := 1) hx hb dL_law_734 (by decide) ?_
  refine lv_iadd hx hb dL_law_735 ?_
  refine va_sld hx hb hX hbl hbA hS1 h_1 dL_law_736 ?_
  refine lv_aload_n hx hb dL_law_737 rfl (lv_at hl 0 rfl) ?_
  refine lv_iload_n hx hb dL_law_738 rfl (lv_at hl 3 rfl) ?_
  refine lv_iconst (v := 2) hx hb dL_law_739 (by decide) ?_
  refine lv_iadd hx hb dL_law_740 ?_
  refine va_sld hx hb hX hbl hbA hS1 h_2 dL_law_741 ?_
  refine lv_aload_n hx hb dL_law_742 rfl (lv_at hl 0 rfl) ?_
  refine lv_iload_n hx hb dL_law_743 rfl (lv_at hl 3 rfl) ?_
  refine lv_iconst (v := 3) hx hb dL_law_744 (by decide) ?_
  refine lv_iadd hx hb dL_law_745 ?_
  refine va_sld hx hb hX hbl hbA hS1 h_3 dL_law_746 ?_
  refine va_calli (va_runV (As := [.int (xs (x3 + 1).toNatClampNeg), .int (xs (x3 + 2).toNatClampNeg), .int (xs (x3 + 3).toNatClampNeg)]) (rest := [.int r6]) ⟨hx, hb, hml, hown, hts⟩ (kX7_worth l D cI adm w (xs (x3 + 1).toNatClampNeg) (xs (x3 + 2).toNatClampNeg) (xs (x3 + 3).toNatClampNeg) hdm hR.R7 hR.H7) (cwV 3 hts gL_law_X7_worth rfl rfl rfl mdX7_worth ⟨Nat.le_of_ble_eq_true rfl, Nat.le_of_ble_eq_true rfl⟩) (x7_preL (hK.sub [0] rfl) hP71) rfl rfl hl.1 rfl (lv_room (Nat.le_of_ble_eq_true rfl)) dL_law_747 ⟨hcs.1, hcs.2⟩) hS1 (fun q _ h => hA7 q h) (fun q h => hA7 q h) (fun r7 w1 t2 H2 locs2 ht2 hvm2 hp7 hB7 hz2 hfr2 hS2 => ?_)
  rw [ht2] at hB7
  have hO := S_worth hR (xs (x3 + 1).toNatClampNeg) (xs (x3 + 2).toNatClampNeg) (xs (x3 + 3).toNatClampNeg)
  rw [← hp6.1, ← hp7] at hO
  have hP62 := keep6 hB hdis hfr2
  exact lv_icmp_eq (tgt := 1036) hx hb dL_law_750 (by decide) (fun _ => kk H2 locs2 V1 w1 hP62 hB7 hp6.2 hO.2 hS2) (fun hne => absurd hO.1 hne)
set_option maxHeartbeats 4000000 in
set_option maxRecDepth 100000 in
theorem law_thunder (E : LAW p s m c b L xs D cI cC cQ adx adm sd aK aV) (hcs : cells ≤ 600000 ∧ slots ≤ 7302250) (hl : lv_has ls 4 [(0, .ref b), (1, .ref (adx 5 0)), (2, .ref (adm 0)), (3, .int x3)]) (h_1 : vp_in (x3 + 1) L) (h_2 : vp_in (x3 + 2) L) (h_3 : vp_in (x3 + 3) L) (hS : va_S (fun q : Nat => s.heap.size ≤ q) s.heap H locs) (hP6 : va_P D vwCl (MWL cI cC cQ adx V) H) (hP7 : va_P D vwCl (RM cI adm w) H) (hI : R6I V) (hR : REL V w) (kk : ∀ (H : Heap) (locs : List Loc) (V : Nat → Nat → Nat → Int32) (w : Nat → Nat → Int32), va_P D vwCl (MWL cI cC cQ adx V) H → va_P D vwCl (RM cI adm w) H → R6I V → REL V w → va_S (fun q : Nat => s.heap.size ≤ q) s.heap H locs → W p l e room_1 s m #[Value.ref b] below meth c H locs cells slots Q (F0 m 1036 ls [])) : W p l e room_1 s m #[Value.ref b] below meth c H locs cells slots Q (F0 m 755 ls []) := by
  obtain ⟨hx, hb, hml, hown, hts, hX, hbl, hK, hN, hSE, hST, hd, hdm, hA6, hA7, hdis⟩ := E
  have hbA : ¬ (fun q : Nat => s.heap.size ≤ q) b := Nat.not_le.mpr hbl
  refine lv_aload_n hx hb dL_law_755 rfl (lv_at hl 1 rfl) ?_
  refine lv_aload_n hx hb dL_law_756 rfl (lv_at hl 0 rfl) ?_
  refine lv_iload_n hx hb dL_law_757 rfl (lv_at hl 3 rfl) ?_
  refine lv_iconst (v := 1) hx hb dL_law_758 (by decide) ?_
  refine lv_iadd hx hb dL_law_759 ?_
  refine va_sld hx hb hX hbl hbA hS h_1 dL_law_760 ?_
  refine lv_aload_n hx hb dL_law_761 rfl (lv_at hl 0 rfl) ?_
  refine lv_iload_n hx hb dL_law_762 rfl (lv_at hl 3 rfl) ?_
  refine lv_iconst (v := 2) hx hb dL_law_763 (by decide) ?_
  refine lv_iadd hx hb dL_law_764 ?_
  refine va_sld hx hb hX hbl hbA hS h_2 dL_law_765 ?_
  refine lv_aload_n hx hb dL_law_766 rfl (lv_at hl 0 rfl) ?_
  refine lv_iload_n hx hb dL_law_767 rfl (lv_at hl 3 rfl) ?_
  refine lv_iconst (v := 3) hx hb dL_law_768 (by decide) ?_
  refine lv_iadd hx hb dL_law_769 ?_
  refine va_sld hx hb hX hbl hbA hS h_3 dL_law_770 ?_
  refine va_calll (va_runV (As := [.int (xs (x3 + 1).toNatClampNeg), .int (xs (x3 + 2).toNatClampNeg), .int (xs (x3 + 3).toNatClampNeg)]) (rest := []) ⟨hx, hb, hml, hown, hts⟩ (kX6_thunder l D cI cC cQ adx sd aK aV V (xs (x3 + 1).toNatClampNeg) (xs (x3 + 2).toNatClampNeg) (xs (x3 + 3).toNatClampNeg) hd hI) (cwV 3 hts gL_law_X6_thunder rfl rfl rfl mdX6_thunder ⟨Nat.le_of_ble_eq_true rfl, Nat.le_of_ble_eq_true rfl⟩) (x6_preL hK hP6 hN hSE hST hA6 hS) rfl rfl hl.1 rfl (lv_room (Nat.le_of_ble_eq_true rfl)) dL_law_771 ⟨hcs.1, hcs.2⟩) hS (fun q _ h => hA6 q h) (fun q h => hA6 q h) (fun r6 V1 t H1 locs1 ht hvm hp6 hB hz hfr hS1 => ?_)
  rw [ht] at hB
  have hP71 := keep7 hP7 hdis hfr
  refine lv_aload_n hx hb dL_law_774 rfl (lv_at hl 2 rfl) ?_
  refine lv_aload_n hx hb dL_law_775 rfl (lv_at hl 0 rfl) ?_
  refine lv_iload_n hx hb dL_law_776 rfl (lv_at hl 3 rfl) ?_
  refine lv_iconst (v := 1) hx hb dL_law_777 (by decide) ?_
  refine lv_iadd hx hb dL_law_778 ?_
  refine va_sld hx hb hX hbl hbA hS1 h_1 dL_law_779 ?_
  refine lv_aload_n hx hb dL_law_780 rfl (lv_at hl 0 rfl) ?_
  refine lv_iload_n hx hb dL_law_781 rfl (lv_at hl 3 rfl) ?_
  refine lv_iconst (v := 2) hx hb dL_law_782 (by decide) ?_
  refine lv_iadd hx hb dL_law_783 ?_
  refine va_sld hx hb hX hbl hbA hS1 h_2 dL_law_784 ?_
  refine lv_aload_n hx hb dL_law_785 rfl (lv_at hl 0 rfl) ?_
  refine lv_iload_n hx hb dL_law_786 rfl (lv_at hl 3 rfl) ?_
  refine lv_iconst (v := 3) hx hb dL_law_787 (by decide) ?_
  refine lv_iadd hx hb dL_law_788 ?_
  refine va_sld hx hb hX hbl hbA hS1 h_3 dL_law_789 ?_
  refine va_calll (va_runV (As := [.int (xs (x3 + 1).toNatClampNeg), .int (xs (x3 + 2).toNatClampNeg), .int (xs (x3 + 3).toNatClampNeg)]) (rest := [.long r6]) ⟨hx, hb, hml, hown, hts⟩ (kX7_thunder l D cI adm w (xs (x3 + 1).toNatClampNeg) (xs (x3 + 2).toNatClampNeg) (xs (x3 + 3).toNatClampNeg) hdm hR.R7) (cwV 3 hts gL_law_X7_thunder rfl rfl rfl mdX7_thunder ⟨Nat.le_of_ble_eq_true rfl, Nat.le_of_ble_eq_true rfl⟩) (x7_preL (hK.sub [0] rfl) hP71) rfl rfl hl.1 rfl (lv_room (Nat.le_of_ble_eq_true rfl)) dL_law_790 ⟨hcs.1, hcs.2⟩) hS1 (fun q _ h => hA7 q h) (fun q h => hA7 q h) (fun r7 w1 t2 H2 locs2 ht2 hvm2 hp7 hB7 hz2 hfr2 hS2 => ?_)
  rw [ht2] at hB7
  have hO := S_thunder hR (xs (x3 + 1).toNatClampNeg) (xs (x3 + 2).toNatClampNeg) (xs (x3 + 3).toNatClampNeg)
  rw [← hp6.1, ← hp7] at hO
  have hP62 := keep6 hB hdis hfr2
  refine W.lcmp hx hb dL_law_793 ?_
  exact lv_if_eq (tgt := 1036) hx hb dL_law_794 (by decide) (fun _ => kk H2 locs2 V1 w1 hP62 hB7 hp6.2 hO.2 hS2) (fun hne => absurd (lcmp0 hO.1) hne)
set_option maxHeartbeats 4000000 in
set_option maxRecDepth 100000 in
theorem law_fell (E : LAW p s m c b L xs D cI cC cQ adx adm sd aK aV) (hcs : cells ≤ 600000 ∧ slots ≤ 7302250) (hl : lv_has ls 4 [(0, .ref b), (1, .ref (adx 5 0)), (2, .ref (adm 0)), (3, .int x3)]) (h_1 : vp_in (x3 + 1) L) (h_2 : vp_in (x3 + 2) L) (h_3 : vp_in (x3 + 3) L) (hS : va_S (fun q : Nat => s.heap.size ≤ q) s.heap H locs) (hP6 : va_P D vwCl (MWL cI cC cQ adx V) H) (hP7 : va_P D vwCl (RM cI adm w) H) (hI : R6I V) (hR : REL V w) (kk : ∀ (H : Heap) (locs : List Loc) (V : Nat → Nat → Nat → Int32) (w : Nat → Nat → Int32), va_P D vwCl (MWL cI cC cQ adx V) H → va_P D vwCl (RM cI adm w) H → R6I V → REL V w → va_S (fun q : Nat => s.heap.size ≤ q) s.heap H locs → W p l e room_1 s m #[Value.ref b] below meth c H locs cells slots Q (F0 m 1036 ls [])) : W p l e room_1 s m #[Value.ref b] below meth c H locs cells slots Q (F0 m 799 ls []) := by
  obtain ⟨hx, hb, hml, hown, hts, hX, hbl, hK, hN, hSE, hST, hd, hdm, hA6, hA7, hdis⟩ := E
  have hbA : ¬ (fun q : Nat => s.heap.size ≤ q) b := Nat.not_le.mpr hbl
  refine lv_aload_n hx hb dL_law_799 rfl (lv_at hl 1 rfl) ?_
  refine lv_aload_n hx hb dL_law_800 rfl (lv_at hl 0 rfl) ?_
  refine lv_iload_n hx hb dL_law_801 rfl (lv_at hl 3 rfl) ?_
  refine lv_iconst (v := 1) hx hb dL_law_802 (by decide) ?_
  refine lv_iadd hx hb dL_law_803 ?_
  refine va_sld hx hb hX hbl hbA hS h_1 dL_law_804 ?_
  refine lv_aload_n hx hb dL_law_805 rfl (lv_at hl 0 rfl) ?_
  refine lv_iload_n hx hb dL_law_806 rfl (lv_at hl 3 rfl) ?_
  refine lv_iconst (v := 2) hx hb dL_law_807 (by decide) ?_
  refine lv_iadd hx hb dL_law_808 ?_
  refine va_sld hx hb hX hbl hbA hS h_2 dL_law_809 ?_
  refine va_calli (va_runV (As := [.int (xs (x3 + 1).toNatClampNeg), .int (xs (x3 + 2).toNatClampNeg)]) (rest := []) ⟨hx, hb, hml, hown, hts⟩ (kX6_fell l D cI cC cQ adx sd aK aV V (xs (x3 + 1).toNatClampNeg) (xs (x3 + 2).toNatClampNeg) hd hI) (cwV 2 hts gL_law_X6_fell rfl rfl rfl mdX6_fell ⟨Nat.le_of_ble_eq_true rfl, Nat.le_of_ble_eq_true rfl⟩) (x6_preL hK hP6 hN hSE hST hA6 hS) rfl rfl hl.1 rfl (lv_room (Nat.le_of_ble_eq_true rfl)) dL_law_810 ⟨hcs.1, hcs.2⟩) hS (fun q _ h => hA6 q h) (fun q h => hA6 q h) (fun r6 V1 t H1 locs1 ht hvm hp6 hB hz hfr hS1 => ?_)
  rw [ht] at hB
  have hP71 := keep7 hP7 hdis hfr
  refine lv_aload_n hx hb dL_law_813 rfl (lv_at hl 2 rfl) ?_
  refine lv_aload_n hx hb dL_law_814 rfl (lv_at hl 0 rfl) ?_
  refine lv_iload_n hx hb dL_law_815 rfl (lv_at hl 3 rfl) ?_
  refine lv_iconst (v := 1) hx hb dL_law_816 (by decide) ?_
  refine lv_iadd hx hb dL_law_817 ?_
  refine va_sld hx hb hX hbl hbA hS1 h_1 dL_law_818 ?_
  refine lv_aload_n hx hb dL_law_819 rfl (lv_at hl 0 rfl) ?_
  refine lv_iload_n hx hb dL_law_820 rfl (lv_at hl 3 rfl) ?_
  refine lv_iconst (v := 2) hx hb dL_law_821 (by decide) ?_
  refine lv_iadd hx hb dL_law_822 ?_
  refine va_sld hx hb hX hbl hbA hS1 h_2 dL_law_823 ?_
  refine va_calli (va_runV (As := [.int (xs (x3 + 1).toNatClampNeg), .int (xs (x3 + 2).toNatClampNeg)]) (rest := [.int r6]) ⟨hx, hb, hml, hown, hts⟩ (kX7_fell l D cI adm w (xs (x3 + 1).toNatClampNeg) (xs (x3 + 2).toNatClampNeg) hdm hR.R7) (cwV 2 hts gL_law_X7_fell rfl rfl rfl mdX7_fell ⟨Nat.le_of_ble_eq_true rfl, Nat.le_of_ble_eq_true rfl⟩) (x7_preL (hK.sub [0] rfl) hP71) rfl rfl hl.1 rfl (lv_room (Nat.le_of_ble_eq_true rfl)) dL_law_824 ⟨hcs.1, hcs.2⟩) hS1 (fun q _ h => hA7 q h) (fun q h => hA7 q h) (fun r7 w1 t2 H2 locs2 ht2 hvm2 hp7 hB7 hz2 hfr2 hS2 => ?_)
  rw [ht2] at hB7
  have hO := S_fell hR (xs (x3 + 1).toNatClampNeg) (xs (x3 + 2).toNatClampNeg)
  rw [← hp6.1, ← hp7] at hO
  have hP62 := keep6 hB hdis hfr2
  exact lv_icmp_eq (tgt := 1036) hx hb dL_law_827 (by decide) (fun _ => kk H2 locs2 V1 w1 hP62 hB7 hp6.2 hO.2 hS2) (fun hne => absurd hO.1 hne)
set_option maxHeartbeats 4000000 in
set_option maxRecDepth 100000 in
theorem law_whose (E : LAW p s m c b L xs D cI cC cQ adx adm sd aK aV) (hcs : cells ≤ 600000 ∧ slots ≤ 7302250) (hl : lv_has ls 4 [(0, .ref b), (1, .ref (adx 5 0)), (2, .ref (adm 0)), (3, .int x3)]) (h_1 : vp_in (x3 + 1) L) (h_2 : vp_in (x3 + 2) L) (h_3 : vp_in (x3 + 3) L) (hS : va_S (fun q : Nat => s.heap.size ≤ q) s.heap H locs) (hP6 : va_P D vwCl (MWL cI cC cQ adx V) H) (hP7 : va_P D vwCl (RM cI adm w) H) (hI : R6I V) (hR : REL V w) (kk : ∀ (H : Heap) (locs : List Loc) (V : Nat → Nat → Nat → Int32) (w : Nat → Nat → Int32), va_P D vwCl (MWL cI cC cQ adx V) H → va_P D vwCl (RM cI adm w) H → R6I V → REL V w → va_S (fun q : Nat => s.heap.size ≤ q) s.heap H locs → W p l e room_1 s m #[Value.ref b] below meth c H locs cells slots Q (F0 m 1036 ls [])) : W p l e room_1 s m #[Value.ref b] below meth c H locs cells slots Q (F0 m 832 ls []) := by
  obtain ⟨hx, hb, hml, hown, hts, hX, hbl, hK, hN, hSE, hST, hd, hdm, hA6, hA7, hdis⟩ := E
  have hbA : ¬ (fun q : Nat => s.heap.size ≤ q) b := Nat.not_le.mpr hbl
  refine lv_aload_n hx hb dL_law_832 rfl (lv_at hl 1 rfl) ?_
  refine lv_aload_n hx hb dL_law_833 rfl (lv_at hl 0 rfl) ?_
  refine lv_iload_n hx hb dL_law_834 rfl (lv_at hl 3 rfl) ?_
  refine lv_iconst (v := 1) hx hb dL_law_835 (by decide) ?_
  refine lv_iadd hx hb dL_law_836 ?_
  refine va_sld hx hb hX hbl hbA hS h_1 dL_law_837 ?_
  refine lv_aload_n hx hb dL_law_838 rfl (lv_at hl 0 rfl) ?_
  refine lv_iload_n hx hb dL_law_839 rfl (lv_at hl 3 rfl) ?_
  refine lv_iconst (v := 2) hx hb dL_law_840 (by decide) ?_
  refine lv_iadd hx hb dL_law_841 ?_
  refine va_sld hx hb hX hbl hbA hS h_2 dL_law_842 ?_
  refine va_calli (va_runV (As := [.int (xs (x3 + 1).toNatClampNeg), .int (xs (x3 + 2).toNatClampNeg)]) (rest := []) ⟨hx, hb, hml, hown, hts⟩ (kX6_whose l D cI cC cQ adx sd aK aV V (xs (x3 + 1).toNatClampNeg) (xs (x3 + 2).toNatClampNeg) hd hI) (cwV 2 hts gL_law_X6_whose rfl rfl rfl mdX6_whose ⟨Nat.le_of_ble_eq_true rfl, Nat.le_of_ble_eq_true rfl⟩) (x6_preL hK hP6 hN hSE hST hA6 hS) rfl rfl hl.1 rfl (lv_room (Nat.le_of_ble_eq_true rfl)) dL_law_843 ⟨hcs.1, hcs.2⟩) hS (fun q _ h => hA6 q h) (fun q h => hA6 q h) (fun r6 V1 t H1 locs1 ht hvm hp6 hB hz hfr hS1 => ?_)
  rw [ht] at hB
  have hP71 := keep7 hP7 hdis hfr
  refine lv_aload_n hx hb dL_law_846 rfl (lv_at hl 2 rfl) ?_
  refine lv_aload_n hx hb dL_law_847 rfl (lv_at hl 0 rfl) ?_
  refine lv_iload_n hx hb dL_law_848 rfl (lv_at hl 3 rfl) ?_
  refine lv_iconst (v := 1) hx hb dL_law_849 (by decide) ?_
  refine lv_iadd hx hb dL_law_850 ?_
  refine va_sld hx hb hX hbl hbA hS1 h_1 dL_law_851 ?_
  refine lv_aload_n hx hb dL_law_852 rfl (lv_at hl 0 rfl) ?_
  refine lv_iload_n hx hb dL_law_853 rfl (lv_at hl 3 rfl) ?_
  refine lv_iconst (v := 2) hx hb dL_law_854 (by decide) ?_
  refine lv_iadd hx hb dL_law_855 ?_
  refine va_sld hx hb hX hbl hbA hS1 h_2 dL_law_856 ?_
  refine va_calli (va_runV (As := [.int (xs (x3 + 1).toNatClampNeg), .int (xs (x3 + 2).toNatClampNeg)]) (rest := [.int r6]) ⟨hx, hb, hml, hown, hts⟩ (kX7_whose l D cI adm w (xs (x3 + 1).toNatClampNeg) (xs (x3 + 2).toNatClampNeg) hdm hR.R7) (cwV 2 hts gL_law_X7_whose rfl rfl rfl mdX7_whose ⟨Nat.le_of_ble_eq_true rfl, Nat.le_of_ble_eq_true rfl⟩) (x7_preL (hK.sub [0] rfl) hP71) rfl rfl hl.1 rfl (lv_room (Nat.le_of_ble_eq_true rfl)) dL_law_857 ⟨hcs.1, hcs.2⟩) hS1 (fun q _ h => hA7 q h) (fun q h => hA7 q h) (fun r7 w1 t2 H2 locs2 ht2 hvm2 hp7 hB7 hz2 hfr2 hS2 => ?_)
  rw [ht2] at hB7
  have hO := S_whose hR (xs (x3 + 1).toNatClampNeg) (xs (x3 + 2).toNatClampNeg)
  rw [← hp6.1, ← hp7] at hO
  have hP62 := keep6 hB hdis hfr2
  exact lv_icmp_eq (tgt := 1036) hx hb dL_law_860 (by decide) (fun _ => kk H2 locs2 V1 w1 hP62 hB7 hp6.2 hO.2 hS2) (fun hne => absurd hO.1 hne)
end LAWO16
