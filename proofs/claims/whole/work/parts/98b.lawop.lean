section LAWO8
variable {p : Program} {l : Launch} {e : Env} {s : State} {m : MethodId} {below : List Frame} {meth : Method} {c : Code} {b L : Nat} {xs : Nat → Int32} {D : va_G} {cI cC cQ : ClassId} {adx : Nat → Nat → Nat} {adm sd aK aV : Nat → Nat} {H : Heap} {locs : List Loc} {cells slots : Nat} {Q : State → Prop} {V : Nat → Nat → Nat → Int32} {w : Nat → Nat → Int32} {x3 : Int32} {ls : Array Slot}
set_option maxHeartbeats 4000000 in
set_option maxRecDepth 100000 in
theorem law_slips (E : LAW p s m c b L xs D cI cC cQ adx adm sd aK aV) (hcs : cells ≤ 600000 ∧ slots ≤ 7302250) (hl : lv_has ls 4 [(0, .ref b), (1, .ref (adx 5 0)), (2, .ref (adm 0)), (3, .int x3)]) (h_1 : vp_in (x3 + 1) L) (h_2 : vp_in (x3 + 2) L) (h_3 : vp_in (x3 + 3) L) (hS : va_S (fun q : Nat => s.heap.size ≤ q) s.heap H locs) (hP6 : va_P D vwCl (MWL cI cC cQ adx V) H) (hP7 : va_P D vwCl (RM cI adm w) H) (hI : R6I V) (hR : REL V w) (kk : ∀ (H : Heap) (locs : List Loc) (V : Nat → Nat → Nat → Int32) (w : Nat → Nat → Int32), va_P D vwCl (MWL cI cC cQ adx V) H → va_P D vwCl (RM cI adm w) H → R6I V → REL V w → va_S (fun q : Nat => s.heap.size ≤ q) s.heap H locs → W p l e room_1 s m #[Value.ref b] below meth c H locs cells slots Q (F0 m 1036 ls [])) : W p l e room_1 s m #[Value.ref b] below meth c H locs cells slots Q (F0 m 406 ls []) := by
  obtain ⟨hx, hb, hml, hown, hts, hX, hbl, hK, hN, hSE, hST, hd, hdm, hA6, hA7, hdis⟩ := E
  have hbA : ¬ (fun q : Nat => s.heap.size ≤ q) b := Nat.not_le.mpr hbl
  refine lv_aload_n hx hb dL_law_406 rfl (lv_at hl 1 rfl) ?_
  refine lv_aload_n hx hb dL_law_407 rfl (lv_at hl 0 rfl) ?_
  refine lv_iload_n hx hb dL_law_408 rfl (lv_at hl 3 rfl) ?_
  refine lv_iconst (v := 1) hx hb dL_law_409 (by decide) ?_
  refine lv_iadd hx hb dL_law_410 ?_
  refine va_sld hx hb hX hbl hbA hS h_1 dL_law_411 ?_
  refine lv_aload_n hx hb dL_law_412 rfl (lv_at hl 0 rfl) ?_
  refine lv_iload_n hx hb dL_law_413 rfl (lv_at hl 3 rfl) ?_
  refine lv_iconst (v := 2) hx hb dL_law_414 (by decide) ?_
  refine lv_iadd hx hb dL_law_415 ?_
  refine va_sld hx hb hX hbl hbA hS h_2 dL_law_416 ?_
  refine va_calli (va_runV (As := [.int (xs (x3 + 1).toNatClampNeg), .int (xs (x3 + 2).toNatClampNeg)]) (rest := []) ⟨hx, hb, hml, hown, hts⟩ (kX6_slips l D cI cC cQ adx sd aK aV V (xs (x3 + 1).toNatClampNeg) (xs (x3 + 2).toNatClampNeg) hd hI) (cwV 2 hts gL_law_X6_slips rfl rfl rfl mdX6_slips ⟨Nat.le_of_ble_eq_true rfl, Nat.le_of_ble_eq_true rfl⟩) (x6_preL hK hP6 hN hSE hST hA6 hS) rfl rfl hl.1 rfl (lv_room (Nat.le_of_ble_eq_true rfl)) dL_law_417 ⟨hcs.1, hcs.2⟩) hS (fun q _ h => hA6 q h) (fun q h => hA6 q h) (fun r6 V1 t H1 locs1 ht hvm hp6 hB hz hfr hS1 => ?_)
  rw [ht] at hB
  have hP71 := keep7 hP7 hdis hfr
  refine lv_aload_n hx hb dL_law_420 rfl (lv_at hl 2 rfl) ?_
  refine lv_aload_n hx hb dL_law_421 rfl (lv_at hl 0 rfl) ?_
  refine lv_iload_n hx hb dL_law_422 rfl (lv_at hl 3 rfl) ?_
  refine lv_iconst (v := 1) hx hb dL_law_423 (by decide) ?_
  refine lv_iadd hx hb dL_law_424 ?_
  refine va_sld hx hb hX hbl hbA hS1 h_1 dL_law_425 ?_
  refine lv_aload_n hx hb dL_law_426 rfl (lv_at hl 0 rfl) ?_
  refine lv_iload_n hx hb dL_law_427 rfl (lv_at hl 3 rfl) ?_
  refine lv_iconst (v := 2) hx hb dL_law_428 (by decide) ?_
  refine lv_iadd hx hb dL_law_429 ?_
  refine va_sld hx hb hX hbl hbA hS1 h_2 dL_law_430 ?_
  refine va_calli (va_runV (As := [.int (xs (x3 + 1).toNatClampNeg), .int (xs (x3 + 2).toNatClampNeg)]) (rest := [.int r6]) ⟨hx, hb, hml, hown, hts⟩ (kX7_slips l D cI adm w (xs (x3 + 1).toNatClampNeg) (xs (x3 + 2).toNatClampNeg) hdm hR.R7) (cwV 2 hts gL_law_X7_slips rfl rfl rfl mdX7_slips ⟨Nat.le_of_ble_eq_true rfl, Nat.le_of_ble_eq_true rfl⟩) (x7_preL (hK.sub [0] rfl) hP71) rfl rfl hl.1 rfl (lv_room (Nat.le_of_ble_eq_true rfl)) dL_law_431 ⟨hcs.1, hcs.2⟩) hS1 (fun q _ h => hA7 q h) (fun q h => hA7 q h) (fun r7 w1 t2 H2 locs2 ht2 hvm2 hp7 hB7 hz2 hfr2 hS2 => ?_)
  rw [ht2] at hB7
  have hO := S_slips hR (xs (x3 + 1).toNatClampNeg) (xs (x3 + 2).toNatClampNeg)
  rw [← hp6.1, ← hp7.1] at hO
  have hP62 := keep6 hB hdis hfr2
  exact lv_icmp_eq (tgt := 1036) hx hb dL_law_434 (by decide) (fun _ => kk H2 locs2 V1 w1 hP62 hB7 hp6.2 hO.2 hS2) (fun hne => absurd hO.1 hne)
set_option maxHeartbeats 4000000 in
set_option maxRecDepth 100000 in
theorem law_margin (E : LAW p s m c b L xs D cI cC cQ adx adm sd aK aV) (hcs : cells ≤ 600000 ∧ slots ≤ 7302250) (hl : lv_has ls 4 [(0, .ref b), (1, .ref (adx 5 0)), (2, .ref (adm 0)), (3, .int x3)]) (h_1 : vp_in (x3 + 1) L) (h_2 : vp_in (x3 + 2) L) (h_3 : vp_in (x3 + 3) L) (hS : va_S (fun q : Nat => s.heap.size ≤ q) s.heap H locs) (hP6 : va_P D vwCl (MWL cI cC cQ adx V) H) (hP7 : va_P D vwCl (RM cI adm w) H) (hI : R6I V) (hR : REL V w) (kk : ∀ (H : Heap) (locs : List Loc) (V : Nat → Nat → Nat → Int32) (w : Nat → Nat → Int32), va_P D vwCl (MWL cI cC cQ adx V) H → va_P D vwCl (RM cI adm w) H → R6I V → REL V w → va_S (fun q : Nat => s.heap.size ≤ q) s.heap H locs → W p l e room_1 s m #[Value.ref b] below meth c H locs cells slots Q (F0 m 1036 ls [])) : W p l e room_1 s m #[Value.ref b] below meth c H locs cells slots Q (F0 m 439 ls []) := by
  obtain ⟨hx, hb, hml, hown, hts, hX, hbl, hK, hN, hSE, hST, hd, hdm, hA6, hA7, hdis⟩ := E
  have hbA : ¬ (fun q : Nat => s.heap.size ≤ q) b := Nat.not_le.mpr hbl
  refine lv_aload_n hx hb dL_law_439 rfl (lv_at hl 1 rfl) ?_
  refine lv_aload_n hx hb dL_law_440 rfl (lv_at hl 0 rfl) ?_
  refine lv_iload_n hx hb dL_law_441 rfl (lv_at hl 3 rfl) ?_
  refine lv_iconst (v := 1) hx hb dL_law_442 (by decide) ?_
  refine lv_iadd hx hb dL_law_443 ?_
  refine va_sld hx hb hX hbl hbA hS h_1 dL_law_444 ?_
  refine va_calli (va_runV (As := [.int (xs (x3 + 1).toNatClampNeg)]) (rest := []) ⟨hx, hb, hml, hown, hts⟩ (kX6_margin l D cI cC cQ adx sd aK aV V (xs (x3 + 1).toNatClampNeg) hd hI) (cwV 1 hts gL_law_X6_margin rfl rfl rfl mdX6_margin ⟨Nat.le_of_ble_eq_true rfl, Nat.le_of_ble_eq_true rfl⟩) (x6_preL hK hP6 hN hSE hST hA6 hS) rfl rfl hl.1 rfl (lv_room (Nat.le_of_ble_eq_true rfl)) dL_law_445 ⟨hcs.1, hcs.2⟩) hS (fun q _ h => hA6 q h) (fun q h => hA6 q h) (fun r6 V1 t H1 locs1 ht hvm hp6 hB hz hfr hS1 => ?_)
  rw [ht] at hB
  have hP71 := keep7 hP7 hdis hfr
  refine lv_aload_n hx hb dL_law_448 rfl (lv_at hl 2 rfl) ?_
  refine lv_aload_n hx hb dL_law_449 rfl (lv_at hl 0 rfl) ?_
  refine lv_iload_n hx hb dL_law_450 rfl (lv_at hl 3 rfl) ?_
  refine lv_iconst (v := 1) hx hb dL_law_451 (by decide) ?_
  refine lv_iadd hx hb dL_law_452 ?_
  refine va_sld hx hb hX hbl hbA hS1 h_1 dL_law_453 ?_
  refine va_calli (va_runV (As := [.int (xs (x3 + 1).toNatClampNeg)]) (rest := [.int r6]) ⟨hx, hb, hml, hown, hts⟩ (kX7_margin l D cI adm w (xs (x3 + 1).toNatClampNeg) hdm hR.R7) (cwV 1 hts gL_law_X7_margin rfl rfl rfl mdX7_margin ⟨Nat.le_of_ble_eq_true rfl, Nat.le_of_ble_eq_true rfl⟩) (x7_preL (hK.sub [0] rfl) hP71) rfl rfl hl.1 rfl (lv_room (Nat.le_of_ble_eq_true rfl)) dL_law_454 ⟨hcs.1, hcs.2⟩) hS1 (fun q _ h => hA7 q h) (fun q h => hA7 q h) (fun r7 w1 t2 H2 locs2 ht2 hvm2 hp7 hB7 hz2 hfr2 hS2 => ?_)
  rw [ht2] at hB7
  have hO := S_margin hR (xs (x3 + 1).toNatClampNeg)
  rw [← hp6.1, ← hp7] at hO
  have hP62 := keep6 hB hdis hfr2
  exact lv_icmp_eq (tgt := 1036) hx hb dL_law_457 (by decide) (fun _ => kk H2 locs2 V1 w1 hP62 hB7 hp6.2 hO.2 hS2) (fun hne => absurd hO.1 hne)
set_option maxHeartbeats 4000000 in
set_option maxRecDepth 100000 in
theorem law_high (E : LAW p s m c b L xs D cI cC cQ adx adm sd aK aV) (hcs : cells ≤ 600000 ∧ slots ≤ 7302250) (hl : lv_has ls 4 [(0, .ref b), (1, .ref (adx 5 0)), (2, .ref (adm 0)), (3, .int x3)]) (h_1 : vp_in (x3 + 1) L) (h_2 : vp_in (x3 + 2) L) (h_3 : vp_in (x3 + 3) L) (hS : va_S (fun q : Nat => s.heap.size ≤ q) s.heap H locs) (hP6 : va_P D vwCl (MWL cI cC cQ adx V) H) (hP7 : va_P D vwCl (RM cI adm w) H) (hI : R6I V) (hR : REL V w) (kk : ∀ (H : Heap) (locs : List Loc) (V : Nat → Nat → Nat → Int32) (w : Nat → Nat → Int32), va_P D vwCl (MWL cI cC cQ adx V) H → va_P D vwCl (RM cI adm w) H → R6I V → REL V w → va_S (fun q : Nat => s.heap.size ≤ q) s.heap H locs → W p l e room_1 s m #[Value.ref b] below meth c H locs cells slots Q (F0 m 1036 ls [])) : W p l e room_1 s m #[Value.ref b] below meth c H locs cells slots Q (F0 m 462 ls []) := by
  obtain ⟨hx, hb, hml, hown, hts, hX, hbl, hK, hN, hSE, hST, hd, hdm, hA6, hA7, hdis⟩ := E
  have hbA : ¬ (fun q : Nat => s.heap.size ≤ q) b := Nat.not_le.mpr hbl
  refine lv_aload_n hx hb dL_law_462 rfl (lv_at hl 1 rfl) ?_
  refine lv_aload_n hx hb dL_law_463 rfl (lv_at hl 0 rfl) ?_
  refine lv_iload_n hx hb dL_law_464 rfl (lv_at hl 3 rfl) ?_
  refine lv_iconst (v := 1) hx hb dL_law_465 (by decide) ?_
  refine lv_iadd hx hb dL_law_466 ?_
  refine va_sld hx hb hX hbl hbA hS h_1 dL_law_467 ?_
  refine va_calli (va_runV (As := [.int (xs (x3 + 1).toNatClampNeg)]) (rest := []) ⟨hx, hb, hml, hown, hts⟩ (kX6_high l D cI cC cQ adx sd aK aV V (xs (x3 + 1).toNatClampNeg) hd hI) (cwV 1 hts gL_law_X6_high rfl rfl rfl mdX6_high ⟨Nat.le_of_ble_eq_true rfl, Nat.le_of_ble_eq_true rfl⟩) (x6_preL hK hP6 hN hSE hST hA6 hS) rfl rfl hl.1 rfl (lv_room (Nat.le_of_ble_eq_true rfl)) dL_law_468 ⟨hcs.1, hcs.2⟩) hS (fun q _ h => hA6 q h) (fun q h => hA6 q h) (fun r6 V1 t H1 locs1 ht hvm hp6 hB hz hfr hS1 => ?_)
  rw [ht] at hB
  have hP71 := keep7 hP7 hdis hfr
  refine lv_aload_n hx hb dL_law_471 rfl (lv_at hl 2 rfl) ?_
  refine lv_aload_n hx hb dL_law_472 rfl (lv_at hl 0 rfl) ?_
  refine lv_iload_n hx hb dL_law_473 rfl (lv_at hl 3 rfl) ?_
  refine lv_iconst (v := 1) hx hb dL_law_474 (by decide) ?_
  refine lv_iadd hx hb dL_law_475 ?_
  refine va_sld hx hb hX hbl hbA hS1 h_1 dL_law_476 ?_
  refine va_calli (va_runV (As := [.int (xs (x3 + 1).toNatClampNeg)]) (rest := [.int r6]) ⟨hx, hb, hml, hown, hts⟩ (kX7_high l D cI adm w (xs (x3 + 1).toNatClampNeg) hdm hR.R7 hR.n11) (cwV 1 hts gL_law_X7_high rfl rfl rfl mdX7_high ⟨Nat.le_of_ble_eq_true rfl, Nat.le_of_ble_eq_true rfl⟩) (x7_preL (hK.sub [0] rfl) hP71) rfl rfl hl.1 rfl (lv_room (Nat.le_of_ble_eq_true rfl)) dL_law_477 ⟨hcs.1, hcs.2⟩) hS1 (fun q _ h => hA7 q h) (fun q h => hA7 q h) (fun r7 w1 t2 H2 locs2 ht2 hvm2 hp7 hB7 hz2 hfr2 hS2 => ?_)
  rw [ht2] at hB7
  have hO := S_high hR (xs (x3 + 1).toNatClampNeg)
  rw [← hp6.1, ← hp7.1] at hO
  have hP62 := keep6 hB hdis hfr2
  exact lv_icmp_eq (tgt := 1036) hx hb dL_law_480 (by decide) (fun _ => kk H2 locs2 V1 w1 hP62 hB7 hp6.2 hO.2 hS2) (fun hne => absurd hO.1 hne)
set_option maxHeartbeats 4000000 in
set_option maxRecDepth 100000 in
theorem law_more (E : LAW p s m c b L xs D cI cC cQ adx adm sd aK aV) (hcs : cells ≤ 600000 ∧ slots ≤ 7302250) (hl : lv_has ls 4 [(0, .ref b), (1, .ref (adx 5 0)), (2, .ref (adm 0)), (3, .int x3)]) (h_1 : vp_in (x3 + 1) L) (h_2 : vp_in (x3 + 2) L) (h_3 : vp_in (x3 + 3) L) (hS : va_S (fun q : Nat => s.heap.size ≤ q) s.heap H locs) (hP6 : va_P D vwCl (MWL cI cC cQ adx V) H) (hP7 : va_P D vwCl (RM cI adm w) H) (hI : R6I V) (hR : REL V w) (kk : ∀ (H : Heap) (locs : List Loc) (V : Nat → Nat → Nat → Int32) (w : Nat → Nat → Int32), va_P D vwCl (MWL cI cC cQ adx V) H → va_P D vwCl (RM cI adm w) H → R6I V → REL V w → va_S (fun q : Nat => s.heap.size ≤ q) s.heap H locs → W p l e room_1 s m #[Value.ref b] below meth c H locs cells slots Q (F0 m 1036 ls [])) : W p l e room_1 s m #[Value.ref b] below meth c H locs cells slots Q (F0 m 485 ls []) := by
  obtain ⟨hx, hb, hml, hown, hts, hX, hbl, hK, hN, hSE, hST, hd, hdm, hA6, hA7, hdis⟩ := E
  have hbA : ¬ (fun q : Nat => s.heap.size ≤ q) b := Nat.not_le.mpr hbl
  refine lv_aload_n hx hb dL_law_485 rfl (lv_at hl 1 rfl) ?_
  refine lv_aload_n hx hb dL_law_486 rfl (lv_at hl 0 rfl) ?_
  refine lv_iload_n hx hb dL_law_487 rfl (lv_at hl 3 rfl) ?_
  refine lv_iconst (v := 1) hx hb dL_law_488 (by decide) ?_
  refine lv_iadd hx hb dL_law_489 ?_
  refine va_sld hx hb hX hbl hbA hS h_1 dL_law_490 ?_
  refine va_calli (va_runV (As := [.int (xs (x3 + 1).toNatClampNeg)]) (rest := []) ⟨hx, hb, hml, hown, hts⟩ (kX6_more l D cI cC cQ adx sd aK aV V (xs (x3 + 1).toNatClampNeg) hd hI) (cwV 1 hts gL_law_X6_more rfl rfl rfl mdX6_more ⟨Nat.le_of_ble_eq_true rfl, Nat.le_of_ble_eq_true rfl⟩) (x6_preL hK hP6 hN hSE hST hA6 hS) rfl rfl hl.1 rfl (lv_room (Nat.le_of_ble_eq_true rfl)) dL_law_491 ⟨hcs.1, hcs.2⟩) hS (fun q _ h => hA6 q h) (fun q h => hA6 q h) (fun r6 V1 t H1 locs1 ht hvm hp6 hB hz hfr hS1 => ?_)
  rw [ht] at hB
  have hP71 := keep7 hP7 hdis hfr
  refine lv_aload_n hx hb dL_law_494 rfl (lv_at hl 2 rfl) ?_
  refine lv_aload_n hx hb dL_law_495 rfl (lv_at hl 0 rfl) ?_
  refine lv_iload_n hx hb dL_law_496 rfl (lv_at hl 3 rfl) ?_
  refine lv_iconst (v := 1) hx hb dL_law_497 (by decide) ?_
  refine lv_iadd hx hb dL_law_498 ?_
  refine va_sld hx hb hX hbl hbA hS1 h_1 dL_law_499 ?_
  refine va_calli (va_runV (As := [.int (xs (x3 + 1).toNatClampNeg)]) (rest := [.int r6]) ⟨hx, hb, hml, hown, hts⟩ (kX7_more l D cI adm w (xs (x3 + 1).toNatClampNeg) hdm hR.R7 hR.n11) (cwV 1 hts gL_law_X7_more rfl rfl rfl mdX7_more ⟨Nat.le_of_ble_eq_true rfl, Nat.le_of_ble_eq_true rfl⟩) (x7_preL (hK.sub [0] rfl) hP71) rfl rfl hl.1 rfl (lv_room (Nat.le_of_ble_eq_true rfl)) dL_law_500 ⟨hcs.1, hcs.2⟩) hS1 (fun q _ h => hA7 q h) (fun q h => hA7 q h) (fun r7 w1 t2 H2 locs2 ht2 hvm2 hp7 hB7 hz2 hfr2 hS2 => ?_)
  rw [ht2] at hB7
  have hO := S_more hR (xs (x3 + 1).toNatClampNeg)
  rw [← hp6.1, ← hp7.1] at hO
  have hP62 := keep6 hB hdis hfr2
  exact lv_icmp_eq (tgt := 1036) hx hb dL_law_503 (by decide) (fun _ => kk H2 locs2 V1 w1 hP62 hB7 hp6.2 hO.2 hS2) (fun hne => absurd hO.1 hne)
set_option maxHeartbeats 4000000 in
set_option maxRecDepth 100000 in
theorem law_farOut (E : LAW p s m c b L xs D cI cC cQ adx adm sd aK aV) (hcs : cells ≤ 600000 ∧ slots ≤ 7302250) (hl : lv_has ls 4 [(0, .ref b), (1, .ref (adx 5 0)), (2, .ref (adm 0)), (3, .int x3)]) (h_1 : vp_in (x3 + 1) L) (h_2 : vp_in (x3 + 2) L) (h_3 : vp_in (x3 + 3) L) (hS : va_S (fun q : Nat => s.heap.size ≤ q) s.heap H locs) (hP6 : va_P D vwCl (MWL cI cC cQ adx V) H) (hP7 : va_P D vwCl (RM cI adm w) H) (hI : R6I V) (hR : REL V w) (kk : ∀ (H : Heap) (locs : List Loc) (V : Nat → Nat → Nat → Int32) (w : Nat → Nat → Int32), va_P D vwCl (MWL cI cC cQ adx V) H → va_P D vwCl (RM cI adm w) H → R6I V → REL V w → va_S (fun q : Nat => s.heap.size ≤ q) s.heap H locs → W p l e room_1 s m #[Value.ref b] below meth c H locs cells slots Q (F0 m 1036 ls [])) : W p l e room_1 s m #[Value.ref b] below meth c H locs cells slots Q (F0 m 508 ls []) := by
  obtain ⟨hx, hb, hml, hown, hts, hX, hbl, hK, hN, hSE, hST, hd, hdm, hA6, hA7, hdis⟩ := E
  have hbA : ¬ (fun q : Nat => s.heap.size ≤ q) b := Nat.not_le.mpr hbl
  refine lv_aload_n hx hb dL_law_508 rfl (lv_at hl 1 rfl) ?_
  refine lv_aload_n hx hb dL_law_509 rfl (lv_at hl 0 rfl) ?_
  refine lv_iload_n hx hb dL_law_510 rfl (lv_at hl 3 rfl) ?_
  refine lv_iconst (v := 1) hx hb dL_law_511 (by decide) ?_
  refine lv_iadd hx hb dL_law_512 ?_
  refine va_sld hx hb hX hbl hbA hS h_1 dL_law_513 ?_
  refine lv_aload_n hx hb dL_law_514 rfl (lv_at hl 0 rfl) ?_
  refine lv_iload_n hx hb dL_law_515 rfl (lv_at hl 3 rfl) ?_
  refine lv_iconst (v := 2) hx hb dL_law_516 (by decide) ?_
  refine lv_iadd hx hb dL_law_517 ?_
  refine va_sld hx hb hX hbl hbA hS h_2 dL_law_518 ?_
  refine va_calli (va_runV (As := [.int (xs (x3 + 1).toNatClampNeg), .int (xs (x3 + 2).toNatClampNeg)]) (rest := []) ⟨hx, hb, hml, hown, hts⟩ (kX6_farOut l D cI cC cQ adx sd aK aV V (xs (x3 + 1).toNatClampNeg) (xs (x3 + 2).toNatClampNeg) hd hI) (cwV 2 hts gL_law_X6_farOut rfl rfl rfl mdX6_farOut ⟨Nat.le_of_ble_eq_true rfl, Nat.le_of_ble_eq_true rfl⟩) (x6_preL hK hP6 hN hSE hST hA6 hS) rfl rfl hl.1 rfl (lv_room (Nat.le_of_ble_eq_true rfl)) dL_law_519 ⟨hcs.1, hcs.2⟩) hS (fun q _ h => hA6 q h) (fun q h => hA6 q h) (fun r6 V1 t H1 locs1 ht hvm hp6 hB hz hfr hS1 => ?_)
  rw [ht] at hB
  have hP71 := keep7 hP7 hdis hfr
  refine lv_aload_n hx hb dL_law_522 rfl (lv_at hl 2 rfl) ?_
  refine lv_aload_n hx hb dL_law_523 rfl (lv_at hl 0 rfl) ?_
  refine lv_iload_n hx hb dL_law_524 rfl (lv_at hl 3 rfl) ?_
  refine lv_iconst (v := 1) hx hb dL_law_525 (by decide) ?_
  refine lv_iadd hx hb dL_law_526 ?_
  refine va_sld hx hb hX hbl hbA hS1 h_1 dL_law_527 ?_
  refine lv_aload_n hx hb dL_law_528 rfl (lv_at hl 0 rfl) ?_
  refine lv_iload_n hx hb dL_law_529 rfl (lv_at hl 3 rfl) ?_
  refine lv_iconst (v := 2) hx hb dL_law_530 (by decide) ?_
  refine lv_iadd hx hb dL_law_531 ?_
  refine va_sld hx hb hX hbl hbA hS1 h_2 dL_law_532 ?_
  refine va_calli (va_runV (As := [.int (xs (x3 + 1).toNatClampNeg), .int (xs (x3 + 2).toNatClampNeg)]) (rest := [.int r6]) ⟨hx, hb, hml, hown, hts⟩ (kX7_farOut l D cI adm w (xs (x3 + 1).toNatClampNeg) (xs (x3 + 2).toNatClampNeg) hdm hR.R7) (cwV 2 hts gL_law_X7_farOut rfl rfl rfl mdX7_farOut ⟨Nat.le_of_ble_eq_true rfl, Nat.le_of_ble_eq_true rfl⟩) (x7_preL (hK.sub [0] rfl) hP71) rfl rfl hl.1 rfl (lv_room (Nat.le_of_ble_eq_true rfl)) dL_law_533 ⟨hcs.1, hcs.2⟩) hS1 (fun q _ h => hA7 q h) (fun q h => hA7 q h) (fun r7 w1 t2 H2 locs2 ht2 hvm2 hp7 hB7 hz2 hfr2 hS2 => ?_)
  rw [ht2] at hB7
  have hO := S_farOut hR (xs (x3 + 1).toNatClampNeg) (xs (x3 + 2).toNatClampNeg)
  rw [← hp6.1, ← hp7.1] at hO
  have hP62 := keep6 hB hdis hfr2
  exact lv_icmp_eq (tgt := 1036) hx hb dL_law_536 (by decide) (fun _ => kk H2 locs2 V1 w1 hP62 hB7 hp6.2 hO.2 hS2) (fun hne => absurd hO.1 hne)
set_option maxHeartbeats 4000000 in
set_option maxRecDepth 100000 in
theorem law_leaning (E : LAW p s m c b L xs D cI cC cQ adx adm sd aK aV) (hcs : cells ≤ 600000 ∧ slots ≤ 7302250) (hl : lv_has ls 4 [(0, .ref b), (1, .ref (adx 5 0)), (2, .ref (adm 0)), (3, .int x3)]) (h_1 : vp_in (x3 + 1) L) (h_2 : vp_in (x3 + 2) L) (h_3 : vp_in (x3 + 3) L) (hS : va_S (fun q : Nat => s.heap.size ≤ q) s.heap H locs) (hP6 : va_P D vwCl (MWL cI cC cQ adx V) H) (hP7 : va_P D vwCl (RM cI adm w) H) (hI : R6I V) (hR : REL V w) (kk : ∀ (H : Heap) (locs : List Loc) (V : Nat → Nat → Nat → Int32) (w : Nat → Nat → Int32), va_P D vwCl (MWL cI cC cQ adx V) H → va_P D vwCl (RM cI adm w) H → R6I V → REL V w → va_S (fun q : Nat => s.heap.size ≤ q) s.heap H locs → W p l e room_1 s m #[Value.ref b] below meth c H locs cells slots Q (F0 m 1036 ls [])) : W p l e room_1 s m #[Value.ref b] below meth c H locs cells slots Q (F0 m 541 ls []) := by
  obtain ⟨hx, hb, hml, hown, hts, hX, hbl, hK, hN, hSE, hST, hd, hdm, hA6, hA7, hdis⟩ := E
  have hbA : ¬ (fun q : Nat => s.heap.size ≤ q) b := Nat.not_le.mpr hbl
  refine lv_aload_n hx hb dL_law_541 rfl (lv_at hl 1 rfl) ?_
  refine lv_aload_n hx hb dL_law_542 rfl (lv_at hl 0 rfl) ?_
  refine lv_iload_n hx hb dL_law_543 rfl (lv_at hl 3 rfl) ?_
  refine lv_iconst (v := 1) hx hb dL_law_544 (by decide) ?_
  refine lv_iadd hx hb dL_law_545 ?_
  refine va_sld hx hb hX hbl hbA hS h_1 dL_law_546 ?_
  refine va_calli (va_runV (As := [.int (xs (x3 + 1).toNatClampNeg)]) (rest := []) ⟨hx, hb, hml, hown, hts⟩ (kX6_leaning l D cI cC cQ adx sd aK aV V (xs (x3 + 1).toNatClampNeg) hd hI) (cwV 1 hts gL_law_X6_leaning rfl rfl rfl mdX6_leaning ⟨Nat.le_of_ble_eq_true rfl, Nat.le_of_ble_eq_true rfl⟩) (x6_preL hK hP6 hN hSE hST hA6 hS) rfl rfl hl.1 rfl (lv_room (Nat.le_of_ble_eq_true rfl)) dL_law_547 ⟨hcs.1, hcs.2⟩) hS (fun q _ h => hA6 q h) (fun q h => hA6 q h) (fun r6 V1 t H1 locs1 ht hvm hp6 hB hz hfr hS1 => ?_)
  rw [ht] at hB
  have hP71 := keep7 hP7 hdis hfr
  refine lv_aload_n hx hb dL_law_550 rfl (lv_at hl 2 rfl) ?_
  refine lv_aload_n hx hb dL_law_551 rfl (lv_at hl 0 rfl) ?_
  refine lv_iload_n hx hb dL_law_552 rfl (lv_at hl 3 rfl) ?_
  refine lv_iconst (v := 1) hx hb dL_law_553 (by decide) ?_
  refine lv_iadd hx hb dL_law_554 ?_
  refine va_sld hx hb hX hbl hbA hS1 h_1 dL_law_555 ?_
  refine va_calli (va_runV (As := [.int (xs (x3 + 1).toNatClampNeg)]) (rest := [.int r6]) ⟨hx, hb, hml, hown, hts⟩ (kX7_leaning l D cI adm w (xs (x3 + 1).toNatClampNeg) hdm hR.R7) (cwV 1 hts gL_law_X7_leaning rfl rfl rfl mdX7_leaning ⟨Nat.le_of_ble_eq_true rfl, Nat.le_of_ble_eq_true rfl⟩) (x7_preL (hK.sub [0] rfl) hP71) rfl rfl hl.1 rfl (lv_room (Nat.le_of_ble_eq_true rfl)) dL_law_556 ⟨hcs.1, hcs.2⟩) hS1 (fun q _ h => hA7 q h) (fun q h => hA7 q h) (fun r7 w1 t2 H2 locs2 ht2 hvm2 hp7 hB7 hz2 hfr2 hS2 => ?_)
  rw [ht2] at hB7
  have hO := S_leaning hR (xs (x3 + 1).toNatClampNeg)
  rw [← hp6.1, ← hp7.1] at hO
  have hP62 := keep6 hB hdis hfr2
  exact lv_icmp_eq (tgt := 1036) hx hb dL_law_559 (by decide) (fun _ => kk H2 locs2 V1 w1 hP62 hB7 hp6.2 hO.2 hS2) (fun hne => absurd hO.1 hne)
set_option maxHeartbeats 4000000 in
set_option maxRecDepth 100000 in
theorem law_enough (E : LAW p s m c b L xs D cI cC cQ adx adm sd aK aV) (hcs : cells ≤ 600000 ∧ slots ≤ 7302250) (hl : lv_has ls 4 [(0, .ref b), (1, .ref (adx 5 0)), (2, .ref (adm 0)), (3, .int x3)]) (h_1 : vp_in (x3 + 1) L) (h_2 : vp_in (x3 + 2) L) (h_3 : vp_in (x3 + 3) L) (hS : va_S (fun q : Nat => s.heap.size ≤ q) s.heap H locs) (hP6 : va_P D vwCl (MWL cI cC cQ adx V) H) (hP7 : va_P D vwCl (RM cI adm w) H) (hI : R6I V) (hR : REL V w) (kk : ∀ (H : Heap) (locs : List Loc) (V : Nat → Nat → Nat → Int32) (w : Nat → Nat → Int32), va_P D vwCl (MWL cI cC cQ adx V) H → va_P D vwCl (RM cI adm w) H → R6I V → REL V w → va_S (fun q : Nat => s.heap.size ≤ q) s.heap H locs → W p l e room_1 s m #[Value.ref b] below meth c H locs cells slots Q (F0 m 1036 ls [])) : W p l e room_1 s m #[Value.ref b] below meth c H locs cells slots Q (F0 m 564 ls []) := by
  obtain ⟨hx, hb, hml, hown, hts, hX, hbl, hK, hN, hSE, hST, hd, hdm, hA6, hA7, hdis⟩ := E
  have hbA : ¬ (fun q : Nat => s.heap.size ≤ q) b := Nat.not_le.mpr hbl
  refine lv_aload_n hx hb dL_law_564 rfl (lv_at hl 1 rfl) ?_
  refine lv_aload_n hx hb dL_law_565 rfl (lv_at hl 0 rfl) ?_
  refine lv_iload_n hx hb dL_law_566 rfl (lv_at hl 3 rfl) ?_
  refine lv_iconst (v := 1) hx hb dL_law_567 (by decide) ?_
  refine lv_iadd hx hb dL_law_568 ?_
  refine va_sld hx hb hX hbl hbA hS h_1 dL_law_569 ?_
  refine va_calli (va_runV (As := [.int (xs (x3 + 1).toNatClampNeg)]) (rest := []) ⟨hx, hb, hml, hown, hts⟩ (kX6_enough l D cI cC cQ adx sd aK aV V (xs (x3 + 1).toNatClampNeg) hd hI) (cwV 1 hts gL_law_X6_enough rfl rfl rfl mdX6_enough ⟨Nat.le_of_ble_eq_true rfl, Nat.le_of_ble_eq_true rfl⟩) (x6_preL hK hP6 hN hSE hST hA6 hS) rfl rfl hl.1 rfl (lv_room (Nat.le_of_ble_eq_true rfl)) dL_law_570 ⟨hcs.1, hcs.2⟩) hS (fun q _ h => hA6 q h) (fun q h => hA6 q h) (fun r6 V1 t H1 locs1 ht hvm hp6 hB hz hfr hS1 => ?_)
  rw [ht] at hB
  have hP71 := keep7 hP7 hdis hfr
  refine lv_aload_n hx hb dL_law_573 rfl (lv_at hl 2 rfl) ?_
  refine lv_aload_n hx hb dL_law_574 rfl (lv_at hl 0 rfl) ?_
  refine lv_iload_n hx hb dL_law_575 rfl (lv_at hl 3 rfl) ?_
  refine lv_iconst (v := 1) hx hb dL_law_576 (by decide) ?_
  refine lv_iadd hx hb dL_law_577 ?_
  refine va_sld hx hb hX hbl hbA hS1 h_1 dL_law_578 ?_
  refine va_calli (va_runV (As := [.int (xs (x3 + 1).toNatClampNeg)]) (rest := [.int r6]) ⟨hx, hb, hml, hown, hts⟩ (kX7_enough l D cI adm w (xs (x3 + 1).toNatClampNeg) hdm hR.R7) (cwV 1 hts gL_law_X7_enough rfl rfl rfl mdX7_enough ⟨Nat.le_of_ble_eq_true rfl, Nat.le_of_ble_eq_true rfl⟩) (x7_preL (hK.sub [0] rfl) hP71) rfl rfl hl.1 rfl (lv_room (Nat.le_of_ble_eq_true rfl)) dL_law_579 ⟨hcs.1, hcs.2⟩) hS1 (fun q _ h => hA7 q h) (fun q h => hA7 q h) (fun r7 w1 t2 H2 locs2 ht2 hvm2 hp7 hB7 hz2 hfr2 hS2 => ?_)
  rw [ht2] at hB7
  have hO := S_enough hR (xs (x3 + 1).toNatClampNeg)
  rw [← hp6.1, ← hp7.1] at hO
  have hP62 := keep6 hB hdis hfr2
  exact lv_icmp_eq (tgt := 1036) hx hb dL_law_582 (by decide) (fun _ => kk H2 locs2 V1 w1 hP62 hB7 hp6.2 hO.2 hS2) (fun hne => absurd hO.1 hne)
set_option maxHeartbeats 4000000 in
set_option maxRecDepth 100000 in
theorem law_home (E : LAW p s m c b L xs D cI cC cQ adx adm sd aK aV) (hcs : cells ≤ 600000 ∧ slots ≤ 7302250) (hl : lv_has ls 4 [(0, .ref b), (1, .ref (adx 5 0)), (2, .ref (adm 0)), (3, .int x3)]) (h_1 : vp_in (x3 + 1) L) (h_2 : vp_in (x3 + 2) L) (h_3 : vp_in (x3 + 3) L) (hS : va_S (fun q : Nat => s.heap.size ≤ q) s.heap H locs) (hP6 : va_P D vwCl (MWL cI cC cQ adx V) H) (hP7 : va_P D vwCl (RM cI adm w) H) (hI : R6I V) (hR : REL V w) (kk : ∀ (H : Heap) (locs : List Loc) (V : Nat → Nat → Nat → Int32) (w : Nat → Nat → Int32), va_P D vwCl (MWL cI cC cQ adx V) H → va_P D vwCl (RM cI adm w) H → R6I V → REL V w → va_S (fun q : Nat => s.heap.size ≤ q) s.heap H locs → W p l e room_1 s m #[Value.ref b] below meth c H locs cells slots Q (F0 m 1036 ls [])) : W p l e room_1 s m #[Value.ref b] below meth c H locs cells slots Q (F0 m 587 ls []) := by
  obtain ⟨hx, hb, hml, hown, hts, hX, hbl, hK, hN, hSE, hST, hd, hdm, hA6, hA7, hdis⟩ := E
  have hbA : ¬ (fun q : Nat => s.heap.size ≤ q) b := Nat.not_le.mpr hbl
  refine lv_aload_n hx hb dL_law_587 rfl (lv_at hl 1 rfl) ?_
  refine lv_aload_n hx hb dL_law_588 rfl (lv_at hl 0 rfl) ?_
  refine lv_iload_n hx hb dL_law_589 rfl (lv_at hl 3 rfl) ?_
  refine lv_iconst (v := 1) hx hb dL_law_590 (by decide) ?_
  refine lv_iadd hx hb dL_law_591 ?_
  refine va_sld hx hb hX hbl hbA hS h_1 dL_law_592 ?_
  refine va_calli (va_runV (As := [.int (xs (x3 + 1).toNatClampNeg)]) (rest := []) ⟨hx, hb, hml, hown, hts⟩ (kX6_home l D cI cC cQ adx sd aK aV V (xs (x3 + 1).toNatClampNeg) hd hI) (cwV 1 hts gL_law_X6_home rfl rfl rfl mdX6_home ⟨Nat.le_of_ble_eq_true rfl, Nat.le_of_ble_eq_true rfl⟩) (x6_preL hK hP6 hN hSE hST hA6 hS) rfl rfl hl.1 rfl (lv_room (Nat.le_of_ble_eq_true rfl)) dL_law_593 ⟨hcs.1, hcs.2⟩) hS (fun q _ h => hA6 q h) (fun q h => hA6 q h) (fun r6 V1 t H1 locs1 ht hvm hp6 hB hz hfr hS1 => ?_)
  rw [ht] at hB
  have hP71 := keep7 hP7 hdis hfr
  refine lv_aload_n hx hb dL_law_596 rfl (lv_at hl 2 rfl) ?_
  refine lv_aload_n hx hb dL_law_597 rfl (lv_at hl 0 rfl) ?_
  refine lv_iload_n hx hb dL_law_598 rfl (lv_at hl 3 rfl) ?_
  refine lv_iconst (v := 1) hx hb dL_law_599 (by decide) ?_
  refine lv_iadd hx hb dL_law_600 ?_
  refine va_sld hx hb hX hbl hbA hS1 h_1 dL_law_601 ?_
  refine va_calli (va_runV (As := [.int (xs (x3 + 1).toNatClampNeg)]) (rest := [.int r6]) ⟨hx, hb, hml, hown, hts⟩ (kX7_home l D cI adm w (xs (x3 + 1).toNatClampNeg) hdm hR.R7) (cwV 1 hts gL_law_X7_home rfl rfl rfl mdX7_home ⟨Nat.le_of_ble_eq_true rfl, Nat.le_of_ble_eq_true rfl⟩) (x7_preL (hK.sub [0] rfl) hP71) rfl rfl hl.1 rfl (lv_room (Nat.le_of_ble_eq_true rfl)) dL_law_602 ⟨hcs.1, hcs.2⟩) hS1 (fun q _ h => hA7 q h) (fun q h => hA7 q h) (fun r7 w1 t2 H2 locs2 ht2 hvm2 hp7 hB7 hz2 hfr2 hS2 => ?_)
  rw [ht2] at hB7
  have hO := S_home hR (xs (x3 + 1).toNatClampNeg)
  rw [← hp6.1, ← hp7.1] at hO
  have hP62 := keep6 hB hdis hfr2
  exact lv_icmp_eq (tgt := 1036) hx hb dL_law_605 (by decide) (fun _ => kk H2 locs2 V1 w1 hP62 hB7 hp6.2 hO.2 hS2) (fun hne => absurd hO.1 hne)
end LAWO8
